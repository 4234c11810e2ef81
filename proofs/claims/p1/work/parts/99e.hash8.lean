/-! rounds, hash, first, isomorphic, ways, equal, name of class and model. -/
theorem nI_toNat {x : Int32} (h : 0 ≤ x.toInt) : nI x.toInt.toNat = x := by
  apply Int32.toInt_inj.mp
  rw [nI_toInt (by have := Int32.toInt_lt x; omega)]
  omega
theorem sm_th {r r0 r' : R8} (h0 : th0 r r0) (h : Sm r0 r') : th0 r r' := ⟨h.1.trans h0.1, h.2.1.trans h0.2.1, h.2.2.1.trans h0.2.2.1, h.2.2.2.2.2.2.2.1.trans h0.2.2.2.1, h.2.2.2.2.1.trans h0.2.2.2.2.1, h.2.2.2.2.2.1.trans h0.2.2.2.2.2.1, h.2.2.2.2.2.2.1.trans h0.2.2.2.2.2.2.1, h.2.2.2.2.2.2.2.2.1.trans h0.2.2.2.2.2.2.2.1, h.2.2.2.2.2.2.2.2.2.1.trans h0.2.2.2.2.2.2.2.2⟩
theorem fmB_congr {k k' : Nat → Nat} : ∀ {n : Nat}, (∀ i, i < n → k i = k' i) → fmB k n = fmB k' n
  | 0, _ => rfl
  | n + 1, h => by
    unfold fmB
    rw [fmB_congr (fun i hi => h i (by omega)), h n (by omega)]
theorem LT8_congr {r : R8} {n m : Nat} {N K N' K' : Nat → Nat} (h : LT8 r n m N K) (hN : ∀ c, c < n → N' c = N c) (hK : ∀ i, i < m → K' i = K i) : LT8 r n m N' K' := by
  obtain ⟨h1, h2, h3, h4, h5, h6, h7⟩ := h
  refine ⟨h1, h2, h3, h4, fun c hc => by rw [hN c hc]; exact h5 c hc, fun i hi => by rw [hK i hi]; exact h6 i hi, fun j hj => by rw [fmB_congr hK]; exact h7 j hj⟩
section ST3
variable {w : List ab_C}
theorem st_rounds (d : Nat) (hJ : Jn w) : Stq mX7_rounds mX8_rounds (d + 14) w [] := by
  obtain ⟨kc, gp, bp, bn, nbs, nts, ks, n, m, N, K, r, qs, hI, hM, hR, hG, hH, hL⟩ := hJ
  obtain ⟨gb, gc, gp8, gq⟩ := Gr8_cur hG
  obtain ⟨c8_, c40, cV⟩ := CInv_cur hI (Nat.le_refl _)
  refine Cal.mono (cal_rounds (d + 9) hI) (fun w1 v h => ?_)
  obtain ⟨hP, F, R, hHs, rfl⟩ := h
  refine ⟨_, rfl, Cal8.mono (cal8 (con8_rounds (d + 9) (nbs kc) (nts kc) c8_ c40 r gb gc (qs kc) gp8 hH) (M8_post hP hM) (fun _ => rfl) (fun r' v h => by obtain ⟨_, _, _, _, _, _, _, _, _, h⟩ := h; exact ⟨_, h⟩)) (fun w2 v2 h => ?_)⟩
  obtain ⟨r', hM2, e, el, hS, hs1, F', R', o, rk, st, cn, hHd, rfl⟩ := h
  have t0 := sm_th ⟨rfl, rfl, rfl, rfl, rfl, rfl, rfl, rfl, rfl⟩ hS
  exact ⟨by rw [(Hsh_KQ c8_ cV gq hHs hHd.1).2], join hR hP hM2 e el (th0_Gr t0 hG) (Or.inr ⟨hs1, F', R', o, rk, st, cn, hHd⟩) (th0_LT t0 hL)⟩
theorem st_hash (d : Nat) (x i : Int32) (hJ : Jn w) : Stq mX7_hash mX8_hash (d + 14) w [.int x, .int i] := by
  obtain ⟨kc, gp, bp, bn, nbs, nts, ks, n, m, N, K, r, qs, hI, hM, hR, hG, hH, hL⟩ := hJ
  obtain ⟨gb, gc, gp8, gq⟩ := Gr8_cur hG
  obtain ⟨c8_, c40, cV⟩ := CInv_cur hI (Nat.le_refl _)
  have ref := fun (w1 : List ab_C) (hM1 : M8 w1 r) => cal8 (w := w1) (con8_hash (d + 9) (nbs kc) (nts kc) c8_ c40 r gb gc (qs kc) gp8 hH x i) hM1 (fun _ => rfl) (fun r' v h => by obtain ⟨_, _, _, _, _, _, _, _, _, ⟨_, h⟩ | ⟨_, h⟩⟩ := h <;> exact ⟨_, h⟩)
  refine Cal.mono (cal_hash (d + 9) x i hI) (fun w1 v h => ?_)
  obtain ⟨hP, ⟨hn, rfl⟩ | ⟨hy, F, R, hHs, rfl⟩⟩ := h
  all_goals refine ⟨_, rfl, Cal8.mono (ref w1 (M8_post hP hM)) (fun w2 v2 h => ?_)⟩
  all_goals obtain ⟨r', hM2, e, el, hS, hs1, F', R', o, rk, st, cn, hHd, h⟩ := h
  all_goals have t0 := sm_th ⟨rfl, rfl, rfl, rfl, rfl, rfl, rfl, rfl, rfl⟩ hS
  all_goals refine ⟨?_, join hR hP hM2 e el (th0_Gr t0 hG) (Or.inr ⟨hs1, F', R', o, rk, st, cn, hHd⟩) (th0_LT t0 hL)⟩
  · rcases h with ⟨h, _⟩ | ⟨_, rfl⟩
    · exact absurd h hn
    · rfl
  · rcases h with ⟨_, rfl⟩ | ⟨h, _⟩
    · rw [(Hsh_KQ c8_ cV gq hHs hHd.1).1 (x.toInt.toNat - 1) i.toInt.toNat (by omega) (by omega)]
    · exact absurd hy h
theorem st_first (d : Nat) (g i : Int32) (hJ : Jn w) : Stq mX7_first mX8_first (d + 14) w [.int g, .int i] := by
  obtain ⟨kc, gp, bp, bn, nbs, nts, ks, n, m, N, K, r, qs, hI, hM, hR, hG, hH, hL⟩ := hJ
  obtain ⟨gb, gc, gp8, gq⟩ := Gr8_cur hG
  obtain ⟨c8_, c40, cV⟩ := CInv_cur hI (Nat.le_refl _)
  refine Cal.mono (cal_first (d + 9) g i hI) (fun w1 v h => ?_)
  obtain ⟨hP, F, R, o, rk, st, cn, hHs, hGP, rfl⟩ := h
  refine ⟨_, rfl, Cal8.mono (cal8 (con8_first (d + 9) (nbs kc) (nts kc) c8_ c40 r gb gc (qs kc) gp8 hH g i) (M8_post hP hM) (fun _ => rfl) (fun r' v h => by obtain ⟨_, _, _, _, _, _, _, _, _, h⟩ := h; exact ⟨_, h⟩)) (fun w2 v2 h => ?_)⟩
  obtain ⟨r', hM2, e, el, hS, hs1, F', R', o', rk', st', cn', hHd, rfl⟩ := h
  have t0 := sm_th ⟨rfl, rfl, rfl, rfl, rfl, rfl, rfl, rfl, rfl⟩ hS
  refine ⟨?_, join hR hP hM2 e el (th0_Gr t0 hG) (Or.inr ⟨hs1, F', R', o', rk', st', cn', hHd⟩) (th0_LT t0 hL)⟩
  obtain ⟨ecn, eo, erk, est⟩ := gp_same (hv_same (Hsh_KQ c8_ cV gq hHs hHd.1).1) hGP hHd.2.2.1
  subst ecn
  by_cases hc : 0 ≤ g.toInt ∧ g.toInt < cn ∧ 0 ≤ i.toInt ∧ i.toInt < (st (g.toInt.toNat + 1) - st g.toInt.toNat : Nat)
  · have e1 := est g.toInt.toNat (by omega)
    have e2 := est (g.toInt.toNat + 1) (by omega)
    have hle := gp_le hGP (g := g.toInt.toNat + 1) (by omega)
    rw [if_pos hc, if_pos (by rw [← e1, ← e2]; exact hc), ← e1, eo _ (by omega)]
  · rw [if_neg hc, if_neg (fun z => hc (by
      have e1 := est g.toInt.toNat (by omega)
      have e2 := est (g.toInt.toNat + 1) (by omega)
      rw [e1, e2]
      exact z))]
end ST3
