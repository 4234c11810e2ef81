/-! keep of the class, by facts. -/
def CalA (N : ab_M) (d mc ms : Nat) (w : List ab_C) (as' : List Value) (P : List ab_C → Option Value → Prop) : Prop := ∃ (is fo : List Nat) (wc : List ab_C) (as : List Value) (Qc : List ab_C → Option Value → Prop), Con N d mc ms wc as Qc ∧ ab_fits is fo wc w ∧ va_nd is = true ∧ as.map (ab_v (ab_rho is fo w.length)) = as' ∧ (∀ t ∈ fo, t < w.length + 100) ∧ (∀ w' v, Qc w' v → wc.length < w'.length) ∧ ∀ w' v, Qc w' v → P (ab_put w is ((w'.take is.length).map (ab_rc (ab_rho is fo w.length))) ++ (w'.drop is.length).map (ab_rc (ab_rho is fo w.length))) (v.map (ab_v (ab_rho is fo w.length)))
theorem G_CalA {xo : ab_XO} {M N : ab_M} {d k n mc ms : Nat} {Q : List ab_C → Option Value → Prop} {pc : Nat} {L : List (Option Value)} {stk st as' : List Value} {idx na j ci : Nat} {fs : List Value} {T : u_T} {nf : Nat} {w : List ab_C} {P : List ab_C → Option Value → Prop} (hl : ab_V M N idx na) (hC : CalA N d mc ms w (.ref (j + 100) :: as') P) (hx : ∀ (i : Nat) (q : Nat × (Nat → Int32)), ab_x0[i]? = some q → xo[i]? = some q) (hrc : w[j]? = some (.inr (ci, fs))) (hcl : vwCl[ci]? = some (N.2.1.cls, T, nf)) (hstk : as'.reverse ++ .ref (j + 100) :: st = stk) (hna : as'.length = na) (hLl : L.length = M.2.2.2.1) (hsum : (st.map fun v => v.category).sum ≤ 8) (hd : decode M.2.2.1 pc = .ok (.invokevirtual idx, 3)) (hsc : ab_scS (w.length + 100) L st w) (kk : ∀ w1 v, P w1 v → G xo M (d + 1) k n Q (pc + 3) L (v.toList ++ st) w1) : G xo M (d + 1) (k + mc) (n + ms) Q pc L stk w := by
  obtain ⟨is, fo, wc, as, Qc, h1, h2, h3, h4, h5, h6, h7⟩ := hC
  have hlen : as.length = na + 1 := by
    have := congrArg List.length h4
    rw [List.length_map, List.length_cons] at this
    omega
  exact G_VA (k := k) (n := n) hl h1 hx h2 h3 h4 hrc hcl hstk hlen hLl hsum hd h5 hsc h6 (fun w' v q => kk _ _ (h7 w' v q))
set_option maxRecDepth 20000 in
theorem con_keep8 (d : Nat) (a0 a1 a2 a3 a4 t5 g : Nat) : Con mX7_keep d 0 0 [c7 a0 a1 a2 a3 a4 t5 (nI 8) g] [.ref 100] (fun w' v => w' = [c7 a0 a1 a2 a3 a4 t5 (nI 8) g] ∧ v = some (.int (-2))) := by
  refine Con.of (ab_okc rfl (by decide)) (Nat.le_of_ble_eq_true rfl) ?_
  show G ab_x0 mX7_keep d 0 0 _ 0 [some (.ref 100)] [] _
  refine G_aload_n dX7_keep_0 rfl ?_
  refine G_get (f := 5) kc8 dX7_keep_1 fX7_43 (by decide) rfl rfl ?_
  refine G_bipush (v := 8) dX7_keep_4 (by decide) ?_
  refine G_icmp_ltN (tgt := 12) 8 8 dX7_keep_6 (by decide) rfl rfl (by omega) (by omega) (fun h => ?_) (fun h => ?_)
  · exact absurd h (by decide)
  · refine G_bipush (v := -2) dX7_keep_9 (by decide) ?_
    exact G_ret (v := some (.int _)) ⟨dX7_keep_11, _, rfl, rfl⟩ ⟨rfl, rfl⟩
section CK
variable {w : List ab_C} {kc : Nat} {gp bp : Nat → Nat} {bn : Nat} {nbs nts : Nat → Nat} {ks : Nat → Nat → Nat} {n m : Nat} {N K : Nat → Nat}
set_option maxRecDepth 20000 in
theorem cal_keep8 (d : Nat) (hI : CInv w kc gp bp bn nbs nts ks n m N K) (h8 : kc = 8) : Cal mX7_keep d w [.ref 100] (fun w1 v => CPost w kc gp nbs nts ks n m N K w1 ∧ v = some (.int (-2))) := by
  have i2 := hI.2.1
  have hf : ab_fits [0] [101, 101, 111, 114, 118, 128, gp kc + 100] [c7 4 5 6 7 8 9 (nI 8) 10] w := by
    unfold ab_fits
    simp only [List.map_cons, List.map_nil]
    rw [show w[0]? = _ from i2, h8]
    rfl
  refine ⟨[0], _, _, [.ref 100], _, con_keep8 d 4 5 6 7 8 9 10, hf, rfl, rfl, fun w' v h => by rw [h.1], fun w' v h => ?_⟩
  obtain ⟨rfl, rfl⟩ := h
  rw [hf.same]
  exact ⟨CPost_same hI, rfl⟩
abbrev FOK (g b : Nat) (gp : Nat → Nat) : List Nat := [101, 101, 111, 114, 118, g + 1 + 100, b + 100, gp 0 + 100, gp 1 + 100, gp 2 + 100, gp 3 + 100, gp 4 + 100, gp 5 + 100, gp 6 + 100, gp 7 + 100]
theorem rhoK {g b : Nat} {gp : Nat → Nat} (is : List Nat) (n : Nat) : ∀ j, j < 8 → ab_rho is (FOK g b gp) n (11 + j) = gp j + 100
  | 0, _ => rfl
  | 1, _ => rfl
  | 2, _ => rfl
  | 3, _ => rfl
  | 4, _ => rfl
  | 5, _ => rfl
  | 6, _ => rfl
  | 7, _ => rfl
  | j + 8, h => by omega
theorem rhoN {a b c : Nat} {fo : List Nat} {n t : Nat} : ab_rho [a, b, c] fo n (103 + t) = n + t + 100 := by
  unfold ab_rho
  rw [if_neg (by omega), if_neg (by omega), show 103 + t - 100 = t + 3 by omega]
  show 103 + t - 3 + n = _
  omega
/-- the places' end -/
theorem CInv_end (hI : CInv w kc gp bp bn nbs nts ks n m N K) : (∀ a, a ≤ kc → gp a + 2 ≤ w.length ∧ bp a + 5 ≤ w.length) ∧ bn + 5 ≤ w.length := by
  obtain ⟨i1, i2, i3, ⟨_, _, _, _, _, hX⟩, i5, i6, i7, i8⟩ := hI
  refine ⟨fun a ha => ?_, ?_⟩
  · obtain ⟨_, _, _, _, _, _, _, _, hg, hY, _⟩ := i5 a ha
    have := at_lt hg.2
    have := at_lt hY.2.2.2.2
    omega
  · have := at_lt hX.2.2.2.2
    omega
set_option maxRecDepth 20000 in
set_option maxHeartbeats 1000000 in
theorem cal_keep (d : Nat) (hI : CInv w kc gp bp bn nbs nts ks n m N K) (h8 : kc < 8) (hw : 56 ≤ w.length) : CalA mX7_keep (d + 3) 7 140 w [.ref 100] (fun w1 v => (∃ gp' bp', CInv w1 (kc + 1) gp' bp' bn (updN nbs (kc + 1) 0) (updN nts (kc + 1) 0) ks n m N K) ∧ (∀ i, (36 ≤ i ∧ i < 56) ∨ (i = 22 ∨ i = 23 ∨ i = 25) → w1[i]? = w[i]?) ∧ w1.length = w.length + 7 ∧ v = some (.int (nI kc))) := by
  obtain ⟨i1, i2, ⟨s, len, D, hh⟩, ⟨cX, FX, X1, X2, X3, hX⟩, i5, i6, i7, i8⟩ := id hI
  obtain ⟨hs, ro, Kk, cY, FY, Y1, Y2, Y3, hg, hY, g8, g40, hkk, hri, hHS⟩ := i5 kc (Nat.le_refl _)
  obtain ⟨z1, z2, z3, z4, z5, z6, z7, z8⟩ := id i8
  obtain ⟨E1, E2⟩ := CInv_end hI
  have lk := Nat.le_refl kc
  have a1 := z1 kc lk
  have hnd : ([0, 28, gp kc] : List Nat).Nodup := by simp; omega
  have hkr := kf_map (T := fun j => gp j + 100) (kc := kc) (r := ab_rho [0, 28, gp kc] (FOK (gp kc) (bp kc) (fun j => if j ≤ kc then gp j else 0)) w.length) (S := fun j => 11 + j) (fun j hj => (rhoK [0, 28, gp kc] w.length j (by omega)).trans (by rw [if_pos (by omega)]))
  have hf : ab_fits [0, 28, gp kc] (FOK (gp kc) (bp kc) (fun j => if j ≤ kc then gp j else 0)) [c7 4 5 6 7 8 101 (nI kc) 102, .inl (4, 8, .inr (.inr (.inr (.inr (kf (fun j => 11 + j) kc))))), .inr (1, [.ref 9, .int (nI (nbs kc)), .int (nI (nts kc)), .int hs, .int ro, .ref 10])] w := by
    unfold ab_fits
    simp only [List.map_cons, List.map_nil]
    rw [show w[0]? = _ from i2, i7, hg.1, ← hkr]
    rfl
  refine ⟨[0, 28, gp kc], _, _, [.ref 100], _, con_keep d kc i1 4 5 6 7 8 (kf (fun j => 11 + j) kc) (nI (nbs kc)) (nI (nts kc)) hs ro 9 10 (by omega) (by omega) (by omega) (by omega) (by omega) (by omega) (by omega) (fun j t e => ?_), hf, nd_of hnd, rfl, fun t ht => ?_, fun w' v h => ?_, fun w' v h => ?_⟩
  · unfold kf at e
    split at e
    · injection e with e
      have e : 11 + j = t := e
      omega
    · cases e
  · have q : ∀ j, (if j ≤ kc then gp j else 0) + 100 < w.length + 100 := fun j => by
      split
      · have := E1 j (by omega); omega
      · omega
    have q1 := E1 kc lk
    simp only [List.mem_cons, List.not_mem_nil, or_false] at ht
    rcases ht with rfl | rfl | rfl | rfl | rfl | rfl | rfl | rfl | rfl | rfl | rfl | rfl | rfl | rfl | rfl
    all_goals first | exact q _ | omega
  · rcases h with ⟨h, _⟩ | h
    · omega
    · rw [h.2.1]; exact (by decide : (3 : Nat) < 10)
  rcases h with ⟨h, _⟩ | ⟨_, rfl, rfl⟩
  · omega
  have hup : (fun j => (va_up (kf (fun j => 11 + j) kc) kc (some 102) j).map (ab_rho [0, 28, gp kc] (FOK (gp kc) (bp kc) (fun j => if j ≤ kc then gp j else 0)) w.length)) = kf (fun j => updN gp (kc + 1) w.length j + 100) (kc + 1) := by
    funext j
    have hj := congrFun hkr j
    unfold va_up
    split
    · next e =>
      unfold kf
      rw [if_pos (by omega)]
      show some (gp kc + 100) = some (updN gp (kc + 1) w.length j + 100)
      rw [updN_n (by omega), e]
    · next e =>
      have hj : (kf (fun j => 11 + j) kc j).map (ab_rho [0, 28, gp kc] (FOK (gp kc) (bp kc) (fun j => if j ≤ kc then gp j else 0)) w.length) = kf (fun j => gp j + 100) kc j := hj
      rw [hj]
      unfold kf
      by_cases h : j < kc
      · rw [if_pos h, if_pos (by omega)]
        show some (gp j + 100) = some (updN gp (kc + 1) w.length j + 100)
        rw [updN_n (by omega)]
      · rw [if_neg h, if_neg (by omega)]
  generalize hcs : ((List.take ([0, 28, gp kc] : List Nat).length [c7 4 5 6 7 8 101 (nI (kc + 1)) 103, .inl (4, 8, .inr (.inr (.inr (.inr (va_up (kf (fun j => 11 + j) kc) kc (some 102)))))), .inr (1, [.ref 9, .int (nI (nbs kc)), .int (nI (nts kc)), .int hs, .int ro, .ref 10]), .inr (1, [.ref 104, .int 0, .int 0, .int 0, .int 0, .ref 105]), cI 40 (fun _ => 0), .inr (2, [.ref 106, .ref 107, .ref 108, .ref 109, .int 0]), cI 64 (fun _ => 0), cI 8 (fun _ => 0), cI 8 (fun _ => 0), cI 9 (fun _ => 0)]).map (ab_rc (ab_rho [0, 28, gp kc] (FOK (gp kc) (bp kc) (fun j => if j ≤ kc then gp j else 0)) w.length))) = cs
  generalize hds : ((List.drop ([0, 28, gp kc] : List Nat).length [c7 4 5 6 7 8 101 (nI (kc + 1)) 103, .inl (4, 8, .inr (.inr (.inr (.inr (va_up (kf (fun j => 11 + j) kc) kc (some 102)))))), .inr (1, [.ref 9, .int (nI (nbs kc)), .int (nI (nts kc)), .int hs, .int ro, .ref 10]), .inr (1, [.ref 104, .int 0, .int 0, .int 0, .int 0, .ref 105]), cI 40 (fun _ => 0), .inr (2, [.ref 106, .ref 107, .ref 108, .ref 109, .int 0]), cI 64 (fun _ => 0), cI 8 (fun _ => 0), cI 8 (fun _ => 0), cI 9 (fun _ => 0)]).map (ab_rc (ab_rho [0, 28, gp kc] (FOK (gp kc) (bp kc) (fun j => if j ≤ kc then gp j else 0)) w.length))) = ds
  have c0 : cs[0]? = some (c7 101 101 111 114 118 128 (nI (kc + 1)) (w.length + 100)) := by
    rw [← hcs]
    show some (c7 101 101 111 114 118 128 (nI (kc + 1)) (ab_rho [0, 28, gp kc] (FOK (gp kc) (bp kc) (fun j => if j ≤ kc then gp j else 0)) w.length (103 + 0))) = _
    rw [rhoN]
  have c1 : cs[1]? = some (.inl (4, 8, .inr (.inr (.inr (.inr (kf (fun j => updN gp (kc + 1) w.length j + 100) (kc + 1))))))) := by
    rw [← hcs, ← hup]
    rfl
  have c2 : cs[2]? = some (.inr (1, [.ref (gp kc + 1 + 100), .int (nI (nbs kc)), .int (nI (nts kc)), .int hs, .int ro, .ref (bp kc + 100)])) := by
    rw [← hcs]
    rfl
  have d0 : ds = [.inr (1, [.ref (w.length + 1 + 100), .int 0, .int 0, .int 0, .int 0, .ref (w.length + 2 + 100)]), cI 40 (fun _ => 0), .inr (2, [.ref (w.length + 3 + 100), .ref (w.length + 4 + 100), .ref (w.length + 5 + 100), .ref (w.length + 6 + 100), .int 0]), cI 64 (fun _ => 0), cI 8 (fun _ => 0), cI 8 (fun _ => 0), cI 9 (fun _ => 0)] := by
    rw [← hds]
    show [.inr (1, [.ref (ab_rho [0, 28, gp kc] (FOK (gp kc) (bp kc) (fun j => if j ≤ kc then gp j else 0)) w.length (103 + 1)), .int 0, .int 0, .int 0, .int 0, .ref (ab_rho [0, 28, gp kc] (FOK (gp kc) (bp kc) (fun j => if j ≤ kc then gp j else 0)) w.length (103 + 2))]), cI 40 (fun _ => 0), .inr (2, [.ref (ab_rho [0, 28, gp kc] (FOK (gp kc) (bp kc) (fun j => if j ≤ kc then gp j else 0)) w.length (103 + 3)), .ref (ab_rho [0, 28, gp kc] (FOK (gp kc) (bp kc) (fun j => if j ≤ kc then gp j else 0)) w.length (103 + 4)), .ref (ab_rho [0, 28, gp kc] (FOK (gp kc) (bp kc) (fun j => if j ≤ kc then gp j else 0)) w.length (103 + 5)), .ref (ab_rho [0, 28, gp kc] (FOK (gp kc) (bp kc) (fun j => if j ≤ kc then gp j else 0)) w.length (103 + 6)), .int 0]), cI 64 (fun _ => 0), cI 8 (fun _ => 0), cI 8 (fun _ => 0), cI 9 (fun _ => 0)] = _
    rw [rhoN, rhoN, rhoN, rhoN, rhoN, rhoN]
  generalize hw1 : ab_put w [0, 28, gp kc] cs ++ ds = w1
  have lo : ∀ i, i < w.length → w1[i]? = (ab_put w [0, 28, gp kc] cs)[i]? := fun i hi => by
    rw [← hw1]
    exact List.getElem?_append_left (by rw [ab_put_len]; exact hi)
  have hi : ∀ t, w1[w.length + t]? = ds[t]? := fun t => by
    rw [← hw1, List.getElem?_append_right (by rw [ab_put_len]; omega), ab_put_len]
    congr 1
    omega
  have e0 : w1[0]? = some (c7 101 101 111 114 118 128 (nI (kc + 1)) (w.length + 100)) := (lo 0 (by omega)).trans (put_in (j := 0) hnd rfl (by omega) c0)
  have e28 : w1[28]? = _ := (lo 28 (by omega)).trans (put_in (j := 1) hnd rfl (by omega) c1)
  have eg : w1[gp kc]? = w[gp kc]? := ((lo _ (by have := E1 kc lk; omega)).trans (put_in (j := 2) hnd rfl (by have := E1 kc lk; omega) c2)).trans hg.1.symm
  have eo : ∀ i, i < w.length → i ≠ 0 → i ≠ 28 → w1[i]? = w[i]? := fun i h1 h2 h3 => by
    by_cases e : i = gp kc
    · rw [e]; exact eg
    · rw [lo i h1]
      exact put_out (by simp; omega)
  have hend : w1.length = w.length + 7 := by
    rw [← hw1, List.length_append, ab_put_len, d0]
    rfl
  clear hw1 hcs hds
  refine ⟨⟨updN gp (kc + 1) w.length, updN bp (kc + 1) (w.length + 2), by omega, ?_, ⟨s, len, D, ?_⟩, ⟨cX, FX, X1, X2, X3, ?_⟩, fun a ha => ?_, LatA_out (fun i hi => eo i (by omega) (by omega) (by omega)) i6, e28, ?_⟩, fun i hi => eo i (by omega) (by omega) (by omega), hend, rfl⟩
  · show w1[0]? = _
    rw [e0, updN_s]
  · exact ⟨at_congr (eo _ (by omega) (by omega) (by omega)) hh.1, at_congr (eo _ (by omega) (by omega) (by omega)) hh.2.1, at_congr (eo _ (by omega) (by omega) (by omega)) hh.2.2.1, at_congr (eo _ (by omega) (by omega) (by omega)) hh.2.2.2.1, at_congr (eo _ (by omega) (by omega) (by omega)) hh.2.2.2.2⟩
  · exact ⟨at_congr (eo _ (by omega) (by omega) (by omega)) hX.1, at_congr (eo _ (by omega) (by omega) (by omega)) hX.2.1, at_congr (eo _ (by omega) (by omega) (by omega)) hX.2.2.1, at_congr (eo _ (by omega) (by omega) (by omega)) hX.2.2.2.1, at_congr (eo _ (by omega) (by omega) (by omega)) hX.2.2.2.2⟩
  · by_cases e : a = kc + 1
    · rw [e, updN_s, updN_s, updN_s, updN_s]
      refine ⟨0, 0, fun _ => 0, 0, fun _ => 0, fun _ => 0, fun _ => 0, fun _ => 0, ⟨?_, ?_⟩, ⟨?_, ?_, ?_, ?_, ?_⟩, by omega, by omega, fun i hi => absurd hi (by omega), fun i j _ hj => absurd hj (by omega), Or.inl rfl⟩
      · have := hi 0; rw [d0] at this; exact this
      · have := hi 1; rw [d0] at this; exact this
      · have := hi 2; rw [d0] at this; exact this
      · have := hi 3; rw [d0] at this; exact this
      · have := hi 4; rw [d0] at this; exact this
      · have := hi 5; rw [d0] at this; exact this
      · have := hi 6; rw [d0] at this; exact this
    · rw [updN_n e, updN_n e, updN_n e, updN_n e]
      refine GOk_out (fun i hi => ?_) (i5 a (by omega))
      have h1 := z1 a (by omega)
      have h2 := z2 a (by omega)
      have h3 := E1 a (by omega)
      exact eo i (by omega) (by omega) (by omega)
  · have u : ∀ (f : Nat → Nat) (x a : Nat), updN f (kc + 1) x a = if a = kc + 1 then x else f a := fun f x a => rfl
    refine ⟨fun a ha => ?_, fun a ha => ?_, z3, fun a c ha hc hne => ?_, fun a c ha hc hne => ?_, fun a c ha hc => ?_, fun a ha => ?_, fun a ha => ?_⟩
    · rw [u]
      split
      · omega
      · exact z1 a (by omega)
    · rw [u]
      split
      · omega
      · exact z2 a (by omega)
    · rw [u, u]
      split
      · rw [if_neg (by omega)]
        have := E1 c (by omega)
        omega
      · split
        · have := E1 a (by omega)
          omega
        · exact z4 a c (by omega) (by omega) hne
    · rw [u, u]
      split
      · rw [if_neg (by omega)]
        have := E1 c (by omega)
        omega
      · split
        · have := E1 a (by omega)
          omega
        · exact z5 a c (by omega) (by omega) hne
    · rw [u, u]
      split
      · split
        · omega
        · have := E1 c (by omega)
          omega
      · split
        · have := E1 a (by omega)
          omega
        · exact z6 a c (by omega) (by omega)
    · rw [u]
      split
      · omega
      · exact z7 a (by omega)
    · rw [u]
      split
      · omega
      · exact z8 a (by omega)
end CK
