/-! G's rules for calls; calls that make cells; the library's methods. -/
section ABG
variable {xo : ab_XO} {M N : ab_M} {d k n mc ms : Nat} {Q Qc : List ab_C → Option Value → Prop} {pc : Nat} {L : List (Option Value)} {st stk : List Value} {w wc : List ab_C} {idx na : Nat} {is fo : List Nat} {as as' : List Value}
theorem G_S (hl : ab_S M N idx na) (hC : Con N d mc ms wc as Qc) (hx : ∀ (i : Nat) (q : Nat × (Nat → Int32)), ab_x0[i]? = some q → xo[i]? = some q) (hf : ab_fits is fo wc w) (hn : va_nd is = true) (has : as.map (ab_v (ab_rho is fo w.length)) = as') (hstk : as'.reverse ++ st = stk) (hna : as.length = na) (hLl : L.length = M.2.2.2.1) (hsum : (st.map fun v => v.category).sum ≤ 8) (hd : decode M.2.2.1 pc = .ok (.invokestatic idx, 3)) (hlen : ∀ w' v, Qc w' v → w'.length = wc.length)
    (kk : ∀ w' v, Qc w' v → G xo M (d + 1) k n Q (pc + 3) L ((v.map (ab_v (ab_rho is fo w.length))).toList ++ st) (ab_put w is (w'.map (ab_rc (ab_rho is fo w.length))))) : G xo M (d + 1) (k + mc) (n + ms) Q pc L stk w := by
  intro p l e R s m args below meth c Z D tc ad A H locs cells slots ls X hR hL hcc hss fin
  exact ab_run X hR hL hf hn hlen (ab_runS hl hC hx hf hn has hstk hna hLl hsum hd X hR hL (by omega) (by omega)) hcc hss fin kk
theorem G_SN (hl : ab_SN M N idx na) (hC : Con N d mc ms wc as Qc) (hx : ∀ (i : Nat) (q : Nat × (Nat → Int32)), ab_x0[i]? = some q → xo[i]? = some q) (hf : ab_fits is fo wc w) (hn : va_nd is = true) (has : as.map (ab_v (ab_rho is fo w.length)) = as') (hstk : as'.reverse ++ st = stk) (hna : as.length = na) (hLl : L.length = M.2.2.2.1) (hsum : (st.map fun v => v.category).sum ≤ 8) (hd : decode M.2.2.1 pc = .ok (.invokestatic idx, 3)) (hlen : ∀ w' v, Qc w' v → w'.length = wc.length)
    (kk : ∀ w' v, Qc w' v → G xo M (d + 1) k n Q (pc + 3) L ((v.map (ab_v (ab_rho is fo w.length))).toList ++ st) (ab_put w is (w'.map (ab_rc (ab_rho is fo w.length))))) : G xo M (d + 1) (k + mc) (n + ms) Q pc L stk w := by
  intro p l e R s m args below meth c Z D tc ad A H locs cells slots ls X hR hL hcc hss fin
  exact ab_run X hR hL hf hn hlen (ab_runSN hl hC hx hf hn has hstk hna hLl hsum hd X hR hL (by omega) (by omega)) hcc hss fin kk
theorem G_V {j ci : Nat} {fs : List Value} {T : u_T} {nf : Nat} (hl : ab_V M N idx na) (hC : Con N d mc ms wc as Qc) (hx : ∀ (i : Nat) (q : Nat × (Nat → Int32)), ab_x0[i]? = some q → xo[i]? = some q) (hf : ab_fits is fo wc w) (hn : va_nd is = true) (has : as.map (ab_v (ab_rho is fo w.length)) = .ref (j + 100) :: as') (hrc : w[j]? = some (.inr (ci, fs))) (hcl : vwCl[ci]? = some (N.2.1.cls, T, nf)) (hstk : as'.reverse ++ .ref (j + 100) :: st = stk) (hna : as.length = na + 1) (hLl : L.length = M.2.2.2.1) (hsum : (st.map fun v => v.category).sum ≤ 8) (hd : decode M.2.2.1 pc = .ok (.invokevirtual idx, 3)) (hlen : ∀ w' v, Qc w' v → w'.length = wc.length)
    (kk : ∀ w' v, Qc w' v → G xo M (d + 1) k n Q (pc + 3) L ((v.map (ab_v (ab_rho is fo w.length))).toList ++ st) (ab_put w is (w'.map (ab_rc (ab_rho is fo w.length))))) : G xo M (d + 1) (k + mc) (n + ms) Q pc L stk w := by
  intro p l e R s m args below meth c Z D tc ad A H locs cells slots ls X hR hL hcc hss fin
  exact ab_run X hR hL hf hn hlen (ab_runV hl hC hx hf hn has hrc hcl hstk hna hLl hsum hd X hR hL (by omega) (by omega)) hcc hss fin kk
/-- the addresses behind a call that makes cells -/
def ab_ad2 (ad adc : Nat → Nat) (lw li t : Nat) : Nat := if t < lw + 100 then ad t else adc (t - lw + li)
theorem ab_ad2_eq {ad adc : Nat → Nat} (hf : ab_fits is fo wc w) (hfo : ∀ t ∈ fo, t < w.length + 100) (hx : ∀ t, t < wc.length + 100 → adc t = ad (ab_rho is fo w.length t)) : adc = fun t => ab_ad2 ad adc w.length is.length (ab_rho is fo w.length t) := by
  funext t
  have hlen := hf.len
  unfold ab_ad2
  by_cases h1 : t < 4
  · rw [hx t (by omega), ab_rho_lo h1, if_pos (by omega)]
  · by_cases h2 : t < 100
    · have h3 : ab_rho is fo w.length t < w.length + 100 := by
        have e : ab_rho is fo w.length t = fo.getD (t - 4) 0 := by simp [ab_rho, h1, h2]
        rw [e, List.getD_eq_getElem?_getD]
        cases hg : fo[t - 4]? with
        | none => show 0 < w.length + 100; omega
        | some q => exact hfo q (List.mem_of_getElem? hg)
      rw [if_pos h3, hx t (by omega)]
    · obtain ⟨j, rfl⟩ : ∃ j, t = j + 100 := ⟨t - 100, by omega⟩
      cases hj : is[j]? with
      | some i =>
        have hjl : j < wc.length := by rw [hlen]; exact (List.getElem?_eq_some_iff.mp hj).1
        obtain ⟨i2, h4, h5⟩ := hf.at (List.getElem?_eq_getElem hjl)
        have : i2 = i := Option.some.inj (h4.symm.trans hj)
        subst this
        have := (List.getElem?_eq_some_iff.mp h5).1
        rw [hx _ (by omega), ab_rho_at hj, if_pos (by omega)]
      | none =>
        have hge : is.length ≤ j := List.getElem?_eq_none_iff.mp hj
        have e : ab_rho is fo w.length (j + 100) = j + 100 - is.length + w.length := by
          have h3 : j + 100 - 100 = j := by omega
          simp [ab_rho, h1, h2, h3, hj]
        rw [e, if_neg (by omega)]
        congr 1
        omega
variable {p : Program} {l : Launch} {e : Env} {R : Room} {s : State} {m : MethodId} {args : Array Value} {below : List Frame} {meth : Method} {c : Code} {Z : State → Prop} {D : va_G} {tc : Nat → ClassId} {ad : Nat → Nat} {A : Nat → Prop} {H : Heap} {locs : List Loc} {cells slots : Nat} {ls : Array Slot}
/-- the world behind a call that makes cells -/
theorem ab_R.backA {w' : List ab_C} {adc : Nat → Nat} {H1 : Heap} {locs1 : List Loc} (hR : ab_R D tc ad A s H locs w) (hf : ab_fits is fo wc w) (hn : va_nd is = true) (hfo : ∀ t ∈ fo, t < w.length + 100) (hsc : ∀ ce ∈ w, ab_scC (w.length + 100) ce) (hl : wc.length ≤ w'.length) (hx : ∀ t, t < wc.length + 100 → adc t = ad (ab_rho is fo w.length t)) (hS : va_S A s.heap H1 locs1)
    (hA : ∀ q, va_A (ab_w tc (fun t => ad (ab_rho is fo w.length t)) 100 wc) H.size q → A q)
    (hk : ∀ q : Nat, q < H.size → ¬ va_A (ab_w tc (fun t => ad (ab_rho is fo w.length t)) 100 wc) H.size q → H1[q]? = H[q]?) (hP1 : va_P D vwCl (ab_w tc adc 100 w') H1) (hD1 : va_D (va_A (ab_w tc (fun t => ad (ab_rho is fo w.length t)) 100 wc) H.size) (ab_w tc adc 100 w')) :
    ab_R D tc (ab_ad2 ad adc w.length is.length) A s H1 locs1 (ab_put w is ((w'.take is.length).map (ab_rc (ab_rho is fo w.length))) ++ (w'.drop is.length).map (ab_rc (ab_rho is fo w.length))) := by
  have hlen := hf.len
  have hre : ∀ t, t < w.length + 100 → ab_ad2 ad adc w.length is.length t = ad t := fun t ht => by unfold ab_ad2; rw [if_pos ht]
  have hnew : ∀ y, ab_ad2 ad adc w.length is.length (w.length + y + 100) = adc (is.length + y + 100) := fun y => by
    unfold ab_ad2
    rw [if_neg (by omega)]
    congr 1
    omega
  have hee := ab_ad2_eq hf hfo hx
  have hce : ∀ ce, ab_e tc (ab_ad2 ad adc w.length is.length) (ab_rc (ab_rho is fo w.length) ce) = ab_e tc adc ce := fun ce => by
    rw [ab_e_rc]
    exact congrArg (fun f => ab_e tc f ce) hee.symm
  have hD1' := ab_D_iff.mp hD1
  have hDw := ab_D_iff.mp hR.2.1
  have hfresh : ∀ y, is.length + y < w'.length → H.size ≤ adc (is.length + y + 100) := fun y hy => by
    rcases hD1'.2 _ hy with ⟨j, ce, hj⟩ | h
    · exfalso
      rw [ab_w_at] at hj
      cases hc : wc[j]? with
      | none => rw [hc] at hj; cases hj
      | some cj =>
        rw [hc] at hj
        have hjl := (List.getElem?_eq_some_iff.mp hc).1
        have hj := congrArg Prod.fst (Option.some.inj hj)
        have hj : ad (ab_rho is fo w.length (j + 100)) = adc (is.length + y + 100) := hj
        rw [← hx _ (by omega)] at hj
        have := hD1'.1 j (is.length + y) (by omega) hy hj
        omega
    · exact h
  refine ⟨fun x q hq => ?_, ab_D_iff.mpr ?_, hS⟩
  · rw [ab_w_at] at hq
    by_cases hxl : x < w.length
    · rw [List.getElem?_append_left (by rw [ab_put_len]; exact hxl)] at hq
      by_cases hin : x ∈ is
      · obtain ⟨j, hj⟩ := List.getElem?_of_mem hin
        have hji : j < is.length := (List.getElem?_eq_some_iff.mp hj).1
        have hjl : j < w'.length := by omega
        have hw' : w'[j]? = some w'[j] := List.getElem?_eq_getElem hjl
        rw [ab_put_in is w _ hn j x (ab_rc (ab_rho is fo w.length) w'[j]) hj (by rw [List.getElem?_map, List.getElem?_take, if_pos hji, hw']; rfl) hxl] at hq
        cases hq
        have h3 : va_at D vwCl (adc (j + 100), ab_e tc adc w'[j]) H1 := hP1 j _ (by rw [ab_w_at, hw']; rfl)
        show va_at D vwCl (ab_ad2 ad adc w.length is.length (x + 100), ab_e tc _ (ab_rc _ w'[j])) H1
        rw [hce, hre _ (by omega), ← ab_rho_at (fo := fo) (n := w.length) hj, ← hx _ (by omega)]
        exact h3
      · rw [ab_put_out is w _ x hin] at hq
        cases hw : w[x]? with
        | none => rw [hw] at hq; cases hq
        | some cx =>
          rw [hw] at hq
          cases hq
          have h3 : va_at D vwCl (ad (x + 100), ab_e tc ad cx) H := hR.1 x _ (by rw [ab_w_at, hw]; rfl)
          show va_at D vwCl (ab_ad2 ad adc w.length is.length (x + 100), ab_e tc _ cx) H1
          rw [hre _ (by omega), ab_e_re hre (hsc cx (List.mem_of_getElem? hw))]
          refine h3.kept (hk _ h3.lt (fun hA => ?_))
          rcases hA with ⟨j, ce, hj⟩ | hA
          · rw [ab_w_at] at hj
            cases hc : wc[j]? with
            | none => rw [hc] at hj; cases hj
            | some cj =>
              rw [hc] at hj
              obtain ⟨i, h4, h5⟩ := hf.at hc
              have hj := congrArg Prod.fst (Option.some.inj hj)
              have hj : ad (ab_rho is fo w.length (j + 100)) = ad (x + 100) := hj
              rw [ab_rho_at h4] at hj
              have := hDw.1 i x (List.getElem?_eq_some_iff.mp h5).1 hxl hj
              subst this
              exact hin (List.mem_of_getElem? h4)
          · have := h3.lt
            have : (ad (x + 100), ab_e tc ad cx).fst = ad (x + 100) := rfl
            omega
    · obtain ⟨y, rfl⟩ : ∃ y, x = w.length + y := ⟨x - w.length, by omega⟩
      rw [List.getElem?_append_right (by rw [ab_put_len]; omega), ab_put_len, show w.length + y - w.length = y by omega, List.getElem?_map, List.getElem?_drop] at hq
      cases hw : w'[is.length + y]? with
      | none => rw [hw] at hq; cases hq
      | some cy =>
        rw [hw] at hq
        cases hq
        have h3 : va_at D vwCl (adc (is.length + y + 100), ab_e tc adc cy) H1 := hP1 _ _ (by rw [ab_w_at, hw]; rfl)
        show va_at D vwCl (ab_ad2 ad adc w.length is.length (w.length + y + 100), ab_e tc _ (ab_rc _ cy)) H1
        rw [hce, hnew]
        exact h3
  · have hL2 : (ab_put w is ((w'.take is.length).map (ab_rc (ab_rho is fo w.length))) ++ (w'.drop is.length).map (ab_rc (ab_rho is fo w.length))).length = w.length + (w'.length - is.length) := by
      rw [List.length_append, ab_put_len, List.length_map, List.length_drop]
    rw [hL2]
    have old : ∀ i, i < w.length → ad (i + 100) < H.size := fun i hi => by
      have h3 := hR.1 i _ (by rw [ab_w_at, List.getElem?_eq_getElem hi]; rfl)
      exact h3.lt
    have cas : ∀ i, i < w.length + (w'.length - is.length) → (i < w.length ∧ ab_ad2 ad adc w.length is.length (i + 100) = ad (i + 100)) ∨ ∃ y, i = w.length + y ∧ is.length + y < w'.length ∧ ab_ad2 ad adc w.length is.length (i + 100) = adc (is.length + y + 100) := fun i hi => by
      by_cases h : i < w.length
      · exact Or.inl ⟨h, hre _ (by omega)⟩
      · exact Or.inr ⟨i - w.length, by omega, by omega, by rw [← hnew]; congr 1; omega⟩
    refine ⟨fun i j hi hj hij => ?_, fun i hi => ?_⟩
    · rcases cas i hi with ⟨a1, a2⟩ | ⟨y, a1, a2, a3⟩ <;> rcases cas j hj with ⟨b1, b2⟩ | ⟨z, b1, b2, b3⟩
      · exact hDw.1 i j a1 b1 (by rw [← a2, ← b2, hij])
      · have h1 := old i a1
        have h2 := hfresh z b2
        rw [← a2, hij, b3] at h1
        omega
      · have h1 := old j b1
        have h2 := hfresh y a2
        rw [← b2, ← hij, a3] at h1
        omega
      · have := hD1'.1 (is.length + y) (is.length + z) a2 b2 (by rw [← a3, ← b3, hij])
        omega
    · rcases cas i hi with ⟨a1, a2⟩ | ⟨y, a1, a2, a3⟩
      · rw [a2]
        exact hDw.2 i a1
      · rw [a3]
        exact hA _ (Or.inr (hfresh y a2))
theorem ab_runA {a : Array Value} (X : ab_X xo M d p l R s m args meth c D tc ad A) (hR : ab_R D tc ad A s H locs w) (hL : ab_L ad ls L) (hf : ab_fits is fo wc w) (hn : va_nd is = true) (hfo : ∀ t ∈ fo, t < w.length + 100) (hsc : ab_scS (w.length + 100) L st w)
    (hr : va_Run p l e R s m args below meth c H locs cells slots mc ms (F0 m pc ls stk) (st.map (ab_v ad)) (ab_Q D tc (fun t => ad (ab_rho is fo w.length t)) wc H.size Qc a) (va_A (ab_w tc (fun t => ad (ab_rho is fo w.length t)) 100 wc) H.size))
    (hcc : cells + (k + mc) ≤ R.cells) (hss : slots + (n + ms) ≤ R.slots)
    (fin : ∀ (pc' : Nat) (ad' : Nat → Nat) (H' : Heap) (locs' : List Loc) (cells' slots' : Nat) (ls' : Array Slot) (w' : List ab_C) (v : Option Value),
      ab_ret M pc' v → ab_ext w ad w' ad' → ab_R D tc ad' A s H' locs' w' → cells' ≤ cells + (k + mc) → slots' ≤ slots + (n + ms) → Q w' v →
      W p l e R s m args below meth c H' locs' cells' slots' Z (F0 m pc' ls' (v.toList.map (ab_v ad'))))
    (hgr : ∀ w' v, Qc w' v → wc.length < w'.length)
    (kk : ∀ w' v, Qc w' v → G xo M d k n Q (pc + 3) L ((v.map (ab_v (ab_rho is fo w.length))).toList ++ st) (ab_put w is ((w'.take is.length).map (ab_rc (ab_rho is fo w.length))) ++ (w'.drop is.length).map (ab_rc (ab_rho is fo w.length)))) :
    W p l e R s m args below meth c H locs cells slots Z (F0 m pc ls stk) := by
  intro T hT Y
  obtain ⟨v0, st₀, t, T', LL, h0, Y', hLL, e1, e2, ⟨⟨w', adc, v, hv, hq, hx, hP1, hD1⟩, hz, hk⟩, go⟩ := hr T hT Y
  have hv := Outcome.returned.inj hv
  subst hv
  rw [h0] at hz hk
  have hgr := hgr w' v hq
  have hlen := hf.len
  have hA := va_free hR.2.1 hR.2.2 X.2.2.2.2.1 is (hf.ws tc ad)
  have hS : va_S A s.heap T'.heap (locs ++ LL) := ⟨Nat.le_trans hR.2.2.1 (by rw [e1]; exact hz), fun q h1 h2 => by rw [e1, hk q (Nat.lt_of_lt_of_le h1 hR.2.2.1) (fun z => h2 (hA q z))]; exact hR.2.2.2.1 q h1 h2, fun q hq => by
    rcases List.mem_append.mp hq with h | h
    · exact hR.2.2.2.2 q h
    · exact hA _ (hLL q h)⟩
  have hR1 := hR.backA hf hn hfo hsc.2.2 hx.2.1 hx.1 hS hA (fun q h1 h2 => by rw [e1]; exact hk q h1 h2) (by rw [e1]; exact hP1) hD1
  have hre : ∀ t, t < w.length + 100 → ab_ad2 ad adc w.length is.length t = ad t := fun t ht => by unfold ab_ad2; rw [if_pos ht]
  have hLn : (ab_put w is ((w'.take is.length).map (ab_rc (ab_rho is fo w.length))) ++ (w'.drop is.length).map (ab_rc (ab_rho is fo w.length))).length = w.length + (w'.length - is.length) := by
    rw [List.length_append, ab_put_len, List.length_map, List.length_drop]
  have g := kk w' v hq p l e R s m args below meth c Z D tc (ab_ad2 ad adc w.length is.length) A T'.heap (locs ++ LL) (cells + mc) (slots + ms) ls (X.re (fun t ht => hre t (by omega))) hR1 (hL.re hre hsc.1) (by omega) (by omega)
    (fun pc' ad' H' locs' cells' slots' ls' w2 v2 a1 a2 a4 a5 a6 a7 => fin pc' ad' H' locs' cells' slots' ls' w2 v2 a1 (by
      have a3 := a2.2.1
      rw [hLn] at a3
      exact ⟨fun t ht => (a2.1 t (by rw [hLn]; omega)).trans (hre t ht), by omega, fun h => by omega⟩) a4 (by omega) (by omega) a7)
  obtain ⟨t2, a1, b1⟩ := g T' rfl Y'
  refine ⟨t2, go t2 ?_, b1⟩
  rw [List.map_append, ab_st_re hre hsc.2.1, ← ab_vl, ← ab_ad2_eq hf hfo hx.1] at a1
  exact a1
end ABG
section ABH
variable {xo : ab_XO} {M N : ab_M} {d k n mc ms : Nat} {Q Qc : List ab_C → Option Value → Prop} {pc : Nat} {L : List (Option Value)} {st stk : List Value} {w wc w1 : List ab_C} {idx na : Nat} {is fo : List Nat} {as as' : List Value}
theorem G_I {j : Nat} (hl : ab_I M N idx na) (hC : Con N d mc ms wc as Qc) (hx : ∀ (i : Nat) (q : Nat × (Nat → Int32)), ab_x0[i]? = some q → xo[i]? = some q) (hf : ab_fits is fo wc w) (hn : va_nd is = true) (has : as.map (ab_v (ab_rho is fo w.length)) = .ref (j + 100) :: as') (hstk : as'.reverse ++ .ref (j + 100) :: st = stk) (hna : as.length = na + 1) (hLl : L.length = M.2.2.2.1) (hsum : (st.map fun v => v.category).sum ≤ 8) (hd : decode M.2.2.1 pc = .ok (.invokespecial idx, 3)) (hfo : ∀ t ∈ fo, t < w.length + 100) (hsc : ab_scS (w.length + 100) L st w) (hgr : ∀ w' v, Qc w' v → wc.length < w'.length)
    (kk : ∀ w' v, Qc w' v → G xo M (d + 1) k n Q (pc + 3) L ((v.map (ab_v (ab_rho is fo w.length))).toList ++ st) (ab_put w is ((w'.take is.length).map (ab_rc (ab_rho is fo w.length))) ++ (w'.drop is.length).map (ab_rc (ab_rho is fo w.length)))) : G xo M (d + 1) (k + mc) (n + ms) Q pc L stk w := by
  intro p l e R s m args below meth c Z D tc ad A H locs cells slots ls X hR hL hcc hss fin
  exact ab_runA X hR hL hf hn hfo hsc (ab_runI hl hC hx hf hn has hstk hna hLl hsum hd X hR hL (by omega) (by omega)) hcc hss fin hgr kk
theorem G_IN {j : Nat} (hl : ab_IN M N idx na) (hC : Con N d mc ms wc as Qc) (hx : ∀ (i : Nat) (q : Nat × (Nat → Int32)), ab_x0[i]? = some q → xo[i]? = some q) (hf : ab_fits is fo wc w) (hn : va_nd is = true) (has : as.map (ab_v (ab_rho is fo w.length)) = .ref (j + 100) :: as') (hstk : as'.reverse ++ .ref (j + 100) :: st = stk) (hna : as.length = na + 1) (hLl : L.length = M.2.2.2.1) (hsum : (st.map fun v => v.category).sum ≤ 8) (hd : decode M.2.2.1 pc = .ok (.invokespecial idx, 3)) (hfo : ∀ t ∈ fo, t < w.length + 100) (hsc : ab_scS (w.length + 100) L st w) (hgr : ∀ w' v, Qc w' v → wc.length < w'.length)
    (kk : ∀ w' v, Qc w' v → G xo M (d + 1) k n Q (pc + 3) L ((v.map (ab_v (ab_rho is fo w.length))).toList ++ st) (ab_put w is ((w'.take is.length).map (ab_rc (ab_rho is fo w.length))) ++ (w'.drop is.length).map (ab_rc (ab_rho is fo w.length)))) : G xo M (d + 1) (k + mc) (n + ms) Q pc L stk w := by
  intro p l e R s m args below meth c Z D tc ad A H locs cells slots ls X hR hL hcc hss fin
  exact ab_runA X hR hL hf hn hfo hsc (ab_runIN hl hC hx hf hn has hstk hna hLl hsum hd X hR hL (by omega) (by omega)) hcc hss fin hgr kk
theorem G_VA {j ci : Nat} {fs : List Value} {T : u_T} {nf : Nat} (hl : ab_V M N idx na) (hC : Con N d mc ms wc as Qc) (hx : ∀ (i : Nat) (q : Nat × (Nat → Int32)), ab_x0[i]? = some q → xo[i]? = some q) (hf : ab_fits is fo wc w) (hn : va_nd is = true) (has : as.map (ab_v (ab_rho is fo w.length)) = .ref (j + 100) :: as') (hrc : w[j]? = some (.inr (ci, fs))) (hcl : vwCl[ci]? = some (N.2.1.cls, T, nf)) (hstk : as'.reverse ++ .ref (j + 100) :: st = stk) (hna : as.length = na + 1) (hLl : L.length = M.2.2.2.1) (hsum : (st.map fun v => v.category).sum ≤ 8) (hd : decode M.2.2.1 pc = .ok (.invokevirtual idx, 3)) (hfo : ∀ t ∈ fo, t < w.length + 100) (hsc : ab_scS (w.length + 100) L st w) (hgr : ∀ w' v, Qc w' v → wc.length < w'.length)
    (kk : ∀ w' v, Qc w' v → G xo M (d + 1) k n Q (pc + 3) L ((v.map (ab_v (ab_rho is fo w.length))).toList ++ st) (ab_put w is ((w'.take is.length).map (ab_rc (ab_rho is fo w.length))) ++ (w'.drop is.length).map (ab_rc (ab_rho is fo w.length)))) : G xo M (d + 1) (k + mc) (n + ms) Q pc L stk w := by
  intro p l e R s m args below meth c Z D tc ad A H locs cells slots ls X hR hL hcc hss fin
  exact ab_runA X hR hL hf hn hfo hsc (ab_runV hl hC hx hf hn has hrc hcl hstk hna hLl hsum hd X hR hL (by omega) (by omega)) hcc hss fin hgr kk
/-- Object.<init> -/
theorem G_obj {t : Nat} (hd : decode M.2.2.1 pc = .ok (.invokespecial idx, 3)) (hl : Cond.methodLink M.1 idx Lib.objectInit ∈ ab_U ∧ Cond.instanceMethod Lib.objectInit ∈ ab_U ∧ Cond.code Lib.objectInit ⟨#[0xb1]⟩ 1 none ∈ ab_U) (hLl : L.length = M.2.2.2.1) (hsum : (st.map fun v => v.category).sum ≤ 8) (kk : G xo M (d + 1) k n Q (pc + 3) L st w) : G xo M (d + 1) k n Q pc L (.ref t :: st) w := by
  intro p l e R s m args below meth c Z D tc ad A H locs cells slots ls X hR hL hcc hss fin
  have h1 := X.2.2.2.2.2.1
  exact W.objInit X.1.1 X.1.2.1 X.1.2.2.2 (X.2.2.1 _ hl.1) (X.2.2.1 _ hl.2.1) (X.2.2.1 _ hl.2.2) rfl (by show ls.size = _; rw [hL.1, hLl, X.1.2.2.1]) (rest := st.map (ab_v ad)) rfl hd (by omega) (by
    have h2 : 2 * (F0 m pc ls (.ref (ad t) :: st.map (ab_v ad))).monitorRoom = 0 := rfl
    show 2 * (F0 m pc ls (.ref (ad t) :: st.map (ab_v ad))).monitorRoom + _ + 12 ≤ R.locals
    rw [ab_sum, h2]
    omega) (kk p l e R s m args below meth c Z D tc ad A H locs cells slots ls X hR hL hcc hss fin)
theorem G_max {x y : Int32} (hd : decode M.2.2.1 pc = .ok (.invokestatic idx, 3)) (hl : Cond.methodLink M.1 idx Lib.Math.max.name ∈ ab_U ∧ Cond.static Lib.Math.max.name ∈ ab_U ∧ Cond.initialized "java/lang/Math" ∈ ab_U ∧ Cond.code Lib.Math.max.name Lib.Math.max.code 2 (some .int) ∈ ab_U) (hLl : L.length = M.2.2.2.1) (hsum : (st.map fun v => v.category).sum ≤ 8) (kk : G xo M (d + 1) k n Q (pc + 3) L (.int (if x < y then y else x) :: st) w) : G xo M (d + 1) k n Q pc L (.int y :: .int x :: st) w := by
  intro p l e R s m args below meth c Z D tc ad A H locs cells slots ls X hR hL hcc hss fin
  have h1 := X.2.2.2.2.2.1
  exact va_mmax X.1.1 X.1.2.1 (by rw [hL.1, hLl]; exact X.1.2.2.1) X.1.2.2.2 (X.2.2.1 _ hl.1) (X.2.2.1 _ hl.2.1) (X.2.2.1 _ hl.2.2.1) (X.2.2.1 _ hl.2.2.2) (by omega) (by rw [ab_sum]; omega) (by omega) (by omega) hd (kk p l e R s m args below meth c Z D tc ad A H locs cells slots ls X hR hL hcc hss fin)
theorem G_min {x y : Int32} (hd : decode M.2.2.1 pc = .ok (.invokestatic idx, 3)) (hl : Cond.methodLink M.1 idx Lib.Math.min.name ∈ ab_U ∧ Cond.static Lib.Math.min.name ∈ ab_U ∧ Cond.initialized "java/lang/Math" ∈ ab_U ∧ Cond.code Lib.Math.min.name Lib.Math.min.code 2 (some .int) ∈ ab_U) (hLl : L.length = M.2.2.2.1) (hsum : (st.map fun v => v.category).sum ≤ 8) (kk : G xo M (d + 1) k n Q (pc + 3) L (.int (if y < x then y else x) :: st) w) : G xo M (d + 1) k n Q pc L (.int y :: .int x :: st) w := by
  intro p l e R s m args below meth c Z D tc ad A H locs cells slots ls X hR hL hcc hss fin
  have h1 := X.2.2.2.2.2.1
  exact va_mmin X.1.1 X.1.2.1 (by rw [hL.1, hLl]; exact X.1.2.2.1) X.1.2.2.2 (X.2.2.1 _ hl.1) (X.2.2.1 _ hl.2.1) (X.2.2.1 _ hl.2.2.1) (X.2.2.1 _ hl.2.2.2) (by omega) (by rw [ab_sum]; omega) (by omega) (by omega) hd (kk p l e R s m args below meth c Z D tc ad A H locs cells slots ls X hR hL hcc hss fin)
/-- System.arraycopy between two arrays of ints of the world -/
theorem G_copy {j0 j1 n0 n1 : Nat} {f g : Nat → Int32} {sp dp z : Int32} (hd : decode M.2.2.1 pc = .ok (.invokestatic idx, 3)) (hl : Cond.methodLink M.1 idx arraycopyName ∈ ab_U ∧ Cond.native arraycopyName ∈ ab_U ∧ Cond.static arraycopyName ∈ ab_U ∧ Cond.initialized "java/lang/System" ∈ ab_U) (hLl : L.length = M.2.2.2.1) (hsum : (st.map fun v => v.category).sum ≤ 8) (h0 : w[j0]? = some (.inl (0, n0, .inl f))) (h1 : w[j1]? = some (.inl (0, n1, .inl g))) (hs : ¬ sp < 0) (hp : ¬ dp < 0) (hz : ¬ z < 0) (hb0 : sp.toNatClampNeg + z.toNatClampNeg ≤ n0) (hb1 : dp.toNatClampNeg + z.toNatClampNeg ≤ n1) (hw1 : w.set j1 (.inl (0, n1, .inl (va_cpy f g sp.toNatClampNeg dp.toNatClampNeg z.toNatClampNeg))) = w1) (kk : G xo M (d + 1) k n Q (pc + 3) L st w1) : G xo M (d + 1) k n Q pc L (.int z :: .int dp :: .ref (j1 + 100) :: .int sp :: .ref (j0 + 100) :: st) w := by
  intro p l e R s m args below meth c Z D tc ad A H locs cells slots ls X hR hL hcc hss fin
  subst hw1
  have hr := X.2.2.2.2.2.1
  refine va_copyi X.1.1 X.1.2.1 (by rw [hL.1, hLl]; exact X.1.2.2.1) X.1.2.2.2 (X.2.2.1 _ hl.1) (X.2.2.1 _ hl.2.1) (X.2.2.1 _ hl.2.2.1) (X.2.2.1 _ hl.2.2.2) X.2.2.2.1 hR.1 hR.2.1 hR.2.2 j0 j1 0 0 (c0 := tc 0) (c1 := tc 0) (f := f) (g := g) (ty := .int) (by rw [ab_w_at, h0]; rfl) (by rw [ab_w_at, h1]; rfl) rfl rfl rfl hs hp hz hb0 hb1 (fun _ _ => rfl) (by omega) (by
    have : nativeFrameWords "java/lang/System" "arraycopy" 5 ≤ 40 := by decide +kernel
    rw [ab_sum]
    omega) hd (fun H1 locs1 a1 a2 a3 => ?_)
  exact kk p l e R s m args below meth c Z D tc ad A H1 locs1 cells slots ls X (ab_R.put (c := .inl (0, n1, .inl (va_cpy f g sp.toNatClampNeg dp.toNatClampNeg z.toNatClampNeg))) a1 a2 a3) hL hcc hss (by simp only [ab_ext, List.length_set] at fin ⊢; exact fin)
end ABH
