/-! octet of class and model. -/
def CalO (d : Nat) (w : List ab_C) (as' : List Value) (P : List ab_C → Option Value → Prop) : Prop := ∃ (is fo : List Nat) (wc : List ab_C) (as : List Value) (Qc : List ab_C → Option Value → Prop), ConW d 1 6 wc as Qc ∧ ab_fits is fo wc w ∧ va_nd is = true ∧ as.map (ab_v (ab_rho is fo w.length)) = as' ∧ (∀ w' v, Qc w' v → w'.length = wc.length) ∧ ∀ w' v, Qc w' v → P (ab_put w is (w'.map (ab_rc (ab_rho is fo w.length)))) (v.map (ab_v (ab_rho is fo w.length)))
theorem CalO.mono {d : Nat} {w : List ab_C} {as' : List Value} {P P' : List ab_C → Option Value → Prop} (h : CalO d w as' P) (hp : ∀ w1 v, P w1 v → P' w1 v) : CalO d w as' P' := by
  obtain ⟨is, fo, wc, as, Qc, h1, h2, h3, h4, h5, h6⟩ := h
  exact ⟨is, fo, wc, as, Qc, h1, h2, h3, h4, h5, fun w' v q => hp _ _ (h6 w' v q)⟩
theorem G_CalO {xo : ab_XO} {M : ab_M} {d k n : Nat} {Q : List ab_C → Option Value → Prop} {pc : Nat} {L : List (Option Value)} {stk st as' : List Value} {idx : Nat} {w : List ab_C} {P : List ab_C → Option Value → Prop} (hlk : Cond.methodLink M.1 idx yL_octet ∈ ab_U) (hC : CalO d w as' P) (hx : ∀ (i : Nat) (q : Nat × (Nat → Int32)), ab_x0[i]? = some q → xo[i]? = some q) (hstk : as'.reverse ++ st = stk) (hna : as'.length = 3) (hLl : L.length = M.2.2.2.1) (hsum : (st.map fun v => v.category).sum ≤ 8) (hd : decode M.2.2.1 pc = .ok (.invokestatic idx, 3)) (kk : ∀ w1 v, P w1 v → G xo M (d + 1) k n Q (pc + 3) L (v.toList ++ st) w1) : G xo M (d + 1) (k + 1) (n + 6) Q pc L stk w := by
  obtain ⟨is, fo, wc, as, Qc, h1, h2, h3, h4, h5, h6⟩ := hC
  have hlen : as.length = 3 := by
    have := congrArg List.length h4
    rw [List.length_map] at this
    omega
  exact G_oc (k := k) (n := n) hlk h1 hx h2 h3 h4 hstk hlen hLl hsum hd h5 (fun w' v q => kk _ _ (h6 w' v q))
abbrev IS9 : List Nat := [0, 18, 19, 20, 27, 2, 3, 4, 55, 1]
theorem nd9 : IS9.Nodup := by decide
theorem cal_Loctet {w : List ab_C} {kc : Nat} {gp bp : Nat → Nat} {bn : Nat} {nbs nts : Nat → Nat} {ks : Nat → Nat → Nat} {n m : Nat} {N K : Nat → Nat} (d : Nat) (i : Int32) (hI : CInv w kc gp bp bn nbs nts ks n m N K) (hR : Rest w kc) : CalO (d + 14) w [.ref 100, .int i, .ref 155] (fun w1 v => CInv w1 kc gp bp bn nbs nts ks n m N K ∧ Rest w1 kc ∧ (∀ j, 36 ≤ j → j < 55 → w1[j]? = w[j]?) ∧ ((¬ (0 ≤ i.toInt ∧ i.toInt < 32) ∧ v = some (.int 1)) ∨ ((0 ≤ i.toInt ∧ i.toInt < 32) ∧ v = some (.int 0) ∧ ∃ f, w1[55]? = some (cL 1 f) ∧ f 0 = (obv (dig (fmB K m) (i.toInt.toNat / 4)) i.toInt.toNat).toInt64))) := by
  obtain ⟨i1, i2, ⟨s, len, D, h4, h1, h2, h3, h5⟩, ⟨ce, E, e1, e2, e3, hX⟩, i5, i6, i7, i8⟩ := id hI
  obtain ⟨I, La, fd, P, Qb, tr, dg, hs', ro', Kf, cv', RF, Nn, Dg, gI, gP, gQ, ⟨a1, a2, a3, a4, a5, a6, a7⟩, ⟨b1, b2, b3, b4, b5, b6, b7⟩, c1, c2, c3, c4, c5, c6, c7', c8⟩ := i6
  obtain ⟨⟨f22, r22⟩, ⟨f23, r23⟩, ⟨f25, r25⟩, ⟨f, r55⟩, rl⟩ := id hR
  have hf : ab_fits IS9 [111, 114, 128, gp kc + 100, 126, 121, 105, bn + 100] (oW dg (nI kc) (nI n) hs' ro' len m Kf Dg s 4 5 6 7 8 9 10 11 f) w := by
    unfold ab_fits
    simp only [List.map_cons, List.map_nil]
    rw [show w[0]? = _ from i2, b1, b2, b3, b7, h1, h2, h3, r55, h4]
    rfl
  refine ⟨_, _, _, [.ref 100, .int i, .ref 108], _, con_Loctet d m c5 Kf Dg K c6 s len (nI n) hs' ro' dg (nI kc) c8 4 5 6 7 8 9 10 11 f i, hf, by decide, rfl, fun w' v h => ?_, fun w' v h => ?_⟩
  · rcases h with ⟨_, h, _⟩ | ⟨_, _, _, _, h, _⟩ <;> rw [h]
    exact (rfl : (10 : Nat) = 10)
  · rcases h with ⟨hi, rfl, rfl⟩ | ⟨hi, D2, s2, l2, rfl, hD, rfl⟩
    · rw [hf.same]
      exact ⟨hI, hR, fun _ _ _ => rfl, Or.inl ⟨hi, rfl⟩⟩
    · have p := fun (j q : Nat) (c : ab_C) (h1 : IS9[j]? = some q) (h2 : ((oW 1 (nI kc) (nI n) hs' ro' l2 m Kf D2 s2 4 5 6 7 8 9 10 11 (vp_updL f 0 (obv (dig (fmB K m) (i.toInt.toNat / 4)) i.toInt.toNat).toInt64)).map (ab_rc (ab_rho IS9 [111, 114, 128, gp kc + 100, 126, 121, 105, bn + 100] w.length)))[j]? = some c) => put_in (w := w) nd9 h1 (by
        have : q ∈ IS9 := List.mem_of_getElem? h1
        simp only [List.mem_cons, List.not_mem_nil, or_false] at this
        omega) h2
      have o := fun (q : Nat) (h : q ≠ 0 ∧ q ≠ 18 ∧ q ≠ 19 ∧ q ≠ 20 ∧ q ≠ 27 ∧ q ≠ 2 ∧ q ≠ 3 ∧ q ≠ 4 ∧ q ≠ 55 ∧ q ≠ 1) => put_out (is := IS9) (w := w) (i := q) (cs := (oW 1 (nI kc) (nI n) hs' ro' l2 m Kf D2 s2 4 5 6 7 8 9 10 11 (vp_updL f 0 (obv (dig (fmB K m) (i.toInt.toNat / 4)) i.toInt.toNat).toInt64)).map (ab_rc (ab_rho IS9 [111, 114, 128, gp kc + 100, 126, 121, 105, bn + 100] w.length))) (by simp only [List.mem_cons, List.not_mem_nil, or_false]; omega)
      have el := ab_put_len IS9 w ((oW 1 (nI kc) (nI n) hs' ro' l2 m Kf D2 s2 4 5 6 7 8 9 10 11 (vp_updL f 0 (obv (dig (fmB K m) (i.toInt.toNat / 4)) i.toInt.toNat).toInt64)).map (ab_rc (ab_rho IS9 [111, 114, 128, gp kc + 100, 126, 121, 105, bn + 100] w.length)))
      have p0 := p 0 0 _ rfl rfl
      have p1 := p 5 2 _ rfl rfl
      have p2 := p 6 3 _ rfl rfl
      have p3 := p 7 4 _ rfl rfl
      have p4 := p 9 1 _ rfl rfl
      have p18 := p 1 18 _ rfl rfl
      have p19 := p 2 19 _ rfl rfl
      have p20 := p 3 20 _ rfl rfl
      have p27 := p 4 27 _ rfl rfl
      have p55 := p 8 55 _ rfl rfl
      generalize ab_put w IS9 _ = w1 at p0 p1 p2 p3 p4 p18 p19 p20 p27 p55 o el ⊢
      obtain ⟨z1, z2, z3, _⟩ := id i8
      refine ⟨⟨i1, p0, ⟨s2, l2, D, p4, p1, p2, p3, (o 5 (by omega)).trans h5⟩, ⟨ce, E, e1, e2, e3, (o _ (by omega)).trans hX.1, (o _ (by omega)).trans hX.2.1, (o _ (by omega)).trans hX.2.2.1, (o _ (by omega)).trans hX.2.2.2.1, (o _ (by omega)).trans hX.2.2.2.2⟩, fun a ha => GOk_out (fun q hq => o q (by have := z1 a ha; have := z2 a ha; omega)) (i5 a ha), ?_, (o 28 (by omega)).trans i7, i8⟩, ⟨⟨f22, (o 22 (by omega)).trans r22⟩, ⟨f23, (o 23 (by omega)).trans r23⟩, ⟨f25, (o 25 (by omega)).trans r25⟩, ⟨_, p55⟩, el.trans rl⟩, fun q h1 h2 => o q (by omega), Or.inr ⟨hi, rfl, _, p55, ?_⟩⟩
      · exact ⟨I, La, fd, P, Qb, tr, 1, hs', ro', Kf, cv', RF, Nn, D2, gI, gP, gQ, ⟨(o 11 (by omega)).trans a1, (o 12 (by omega)).trans a2, (o 13 (by omega)).trans a3, (o 14 (by omega)).trans a4, (o 15 (by omega)).trans a5, (o 16 (by omega)).trans a6, (o 17 (by omega)).trans a7⟩, ⟨p18, p19, p20, (o 21 (by omega)).trans b4, (o 24 (by omega)).trans b5, (o 26 (by omega)).trans b6, p27⟩, c1, c2, c3, c4, c5, c6, c7', Or.inr ⟨rfl, hD⟩⟩
      · simp [vp_updL]
theorem obv_nar (x : Int32) (i : Nat) : narrow .byte (.int (obv x i)) = .int (obv x i) := by
  show Value.int (Int8.toInt32 (Int32.toInt8 (Int8.toInt32 _))) = _
  simp [obv]
theorem st_octet {w : List ab_C} (d : Nat) (i : Int32) (hJ : Jn w) : CalO (d + 14) w [.ref 100, .int i, .ref 155] (fun w1 v => ∃ a : Int32, v = some (.int a) ∧ Cal8 mX8_octet (d + 14) w1 [.int i] (fun w2 v2 => ∃ y : Int32, v2 = some (.int y) ∧ Cal8 mX8_thrown (d + 14) w2 [] (fun w3 v3 => v3 = some (.int a) ∧ Jn w3 ∧ (a = 0 → ∃ f, w3[55]? = some (cL 1 f) ∧ f 0 = y.toInt64)))) := by
  obtain ⟨kc, gp, bp, bn, nbs, nts, ks, n, m, N, K, r, qs, hI, hM, hR, hG, hH, hL⟩ := hJ
  have hoc : ∀ j, j < 32 → r.oc j = obv (dig (fmB K m) (j / 4)) j := fun j hj => (hL.2.2.2.2.2.2 j hj).trans (ocB_obv _ hj)
  refine CalO.mono (cal_Loctet d i hI hR) (fun w1 v h => ?_)
  obtain ⟨hI1, hR1, e1, h⟩ := h
  have hM1 : M8 w1 r := M8_out hM (fun j h1 h2 => e1 j h1 h2)
  have c8o := cal8 (con8_octet (d + 14) r (fun j hj => by rw [hoc j hj]; exact obv_nar _ _) i) hM1 (fun _ => rfl) (fun r' v h => by rcases h with ⟨_, _, h⟩ | ⟨_, _, h⟩ <;> exact ⟨_, h⟩)
  have fin : ∀ (w2 w3 : List ab_C) (r' : R8), M8 w3 r' → (∀ q, q < 36 ∨ 55 ≤ q → w2[q]? = w1[q]?) → w2.length = w1.length → (∀ q, q < 36 ∨ 55 ≤ q → w3[q]? = w2[q]?) → w3.length = w2.length → th0 r r' → ha0 r r' → Jn w3 := fun w2 w3 r' hM3 x1 x2 y1 y2 t1 t2 =>
    ⟨kc, gp, bp, bn, nbs, nts, ks, n, m, N, K, r', qs, CInv_lo (CInv_lo hI1 x1) y1, hM3, Rest_out (Rest_out hR1 (fun q hq => x1 q (by omega)) x2) (fun q hq => y1 q (by omega)) y2, th0_Gr t1 hG, ha0_HS t2 hH, th0_LT t1 hL⟩
  rcases h with ⟨hi, rfl⟩ | ⟨hi, rfl, f, hf, hfy⟩
  · refine ⟨1, rfl, Cal8.mono c8o (fun w2 v2 h => ?_)⟩
    obtain ⟨r2, hM2, x1, x2, ⟨h, _⟩ | ⟨_, hr2, rfl⟩⟩ := h
    · exact absurd h hi
    · refine ⟨0, rfl, Cal8.mono (cal8 (con8_thrown (d + 14) r2) hM2 (fun _ => rfl) (fun r' v h => ⟨_, h.2⟩)) (fun w3 v3 h => ?_)⟩
      obtain ⟨r3, hM3, y1, y2, rfl, rfl⟩ := h
      subst hr2
      exact ⟨rfl, fin w2 w3 _ hM3 x1 x2 y1 y2 ⟨rfl, rfl, rfl, rfl, rfl, rfl, rfl, rfl, rfl⟩ ⟨rfl, rfl, rfl, rfl, rfl, rfl⟩, fun h => absurd h (by decide)⟩
  · refine ⟨0, rfl, Cal8.mono c8o (fun w2 v2 h => ?_)⟩
    obtain ⟨r2, hM2, x1, x2, ⟨_, hr2, rfl⟩ | ⟨h, _⟩⟩ := h
    · refine ⟨_, rfl, Cal8.mono (cal8 (con8_thrown (d + 14) r2) hM2 (fun _ => rfl) (fun r' v h => ⟨_, h.2⟩)) (fun w3 v3 h => ?_)⟩
      obtain ⟨r3, hM3, y1, y2, rfl, rfl⟩ := h
      subst hr2
      refine ⟨rfl, fin w2 w3 _ hM3 x1 x2 y1 y2 ⟨rfl, rfl, rfl, rfl, rfl, rfl, rfl, rfl, rfl⟩ ⟨rfl, rfl, rfl, rfl, rfl, rfl⟩, fun _ => ⟨f, (y1 55 (by omega)).trans ((x1 55 (by omega)).trans hf), ?_⟩⟩
      rw [hfy, hoc _ (by omega)]
    · exact absurd hi h
