/-! isomorphic, ways, equal, name of class and model. -/
section ST4
variable {w : List ab_C}
theorem krise {w : List ab_C} {kc : Nat} {gp bp : Nat → Nat} {bn : Nat} {nbs nts : Nat → Nat} {ks : Nat → Nat → Nat} {n m : Nat} {N K : Nat → Nat} (h : CInv w kc gp bp bn nbs nts ks n m N K) {a : Nat} (ha : a ≤ kc) : ∀ i j, i < j → j < nts a → ks a i < ks a j := fun i j hij hj => by
  obtain ⟨_, _, Kk, _, _, _, _, _, _, _, h8, h40, hk, hr, _⟩ := h.2.2.2.2.1 a ha
  have := hr i j hij hj
  rw [(hk i (by omega)).1, (hk j hj).1] at this
  have h1 := (hk i (by omega)).2.1
  have h2 := (hk j hj).2.1
  exact (nI_ltI (by omega) (by omega)).mp this
theorem rise_eq {k k' : Nat → Nat} {nt : Nat} (h1 : ∀ i j, i < j → j < nt → k i < k j) (h2 : ∀ i j, i < j → j < nt → k' i < k' j) (hp : ((List.range nt).map k').Perm ((List.range nt).map k)) : ∀ i, i < nt → k i = k' i := by
  have srt : ∀ {f : Nat → Nat}, (∀ i j, i < j → j < nt → f i < f j) → ((List.range nt).map f).Pairwise (· ≤ ·) := fun {f} hf => by
    rw [List.pairwise_map]
    exact List.Pairwise.imp_of_mem (R := fun a b => a < b) (fun {a b} ha hb hab => Nat.le_of_lt (hf a b hab (List.mem_range.mp hb))) List.pairwise_lt_range
  have e := perm_sorted_eq _ _ hp (srt h2) (srt h1)
  intro i hi
  have := congrArg (fun l => l[i]?) e
  simp only [List.getElem?_map, List.getElem?_range hi, Option.map_some] at this
  exact (Option.some.inj this).symm
theorem st_isomorphic (d : Nat) (x : Int32) (hJ : Jn w) : Stq mX7_isomorphic mX8_isomorphic (d + 14) w [.int x] := by
  obtain ⟨kc, gp, bp, bn, nbs, nts, ks, n, m, N, K, r, qs, hI, hM, hR, hG, hH, hL⟩ := hJ
  obtain ⟨gb, gc, gp8, gq⟩ := Gr8_cur hG
  obtain ⟨c8_, c40, cV⟩ := CInv_cur hI (Nat.le_refl _)
  by_cases hx : 0 ≤ x.toInt ∧ x.toInt < kc
  rotate_left
  · refine Cal.mono (cal_isomorphic_bad (d + 13) x hI hx) (fun w1 v h => ?_)
    obtain ⟨hP, rfl⟩ := h
    refine ⟨_, rfl, Cal8.mono (cal8 (con8_isomorphic_bad (d + 12) kc hI.1 r hG.1 x hx) (M8_post hP hM) (fun _ => rfl) (fun r' v h => ⟨_, h.2⟩)) (fun w2 v2 h => ?_)⟩
    obtain ⟨r', hM2, e, el, rfl, rfl⟩ := h
    exact ⟨rfl, join hR hP hM2 e el (th0_Gr ⟨rfl, rfl, rfl, rfl, rfl, rfl, rfl, rfl, rfl⟩ hG) (ha0_HS ⟨rfl, rfl, rfl, rfl, rfl, rfl⟩ hH) (th0_LT ⟨rfl, rfl, rfl, rfl, rfl, rfl, rfl, rfl, rfl⟩ hL)⟩
  rw [← nI_toNat hx.1]
  have hg : x.toInt.toNat < kc := by omega
  generalize x.toInt.toNat = g at hg
  obtain ⟨d8, d40, dV⟩ := CInv_cur hI (a := g) (by omega)
  obtain ⟨g1, g2, g3, g4⟩ := hG.2 g (by omega)
  rw [(mi_lt hI.1 (a := g) (by omega) (by omega)).1] at g1 g2 g3
  have ref := fun (w1 : List ab_C) (hM1 : M8 w1 r) => cal8 (w := w1) (con8_isomorphic (d + 10) kc g (nbs kc) (nts kc) (nbs g) (nts g) hI.1 hg c8_ c40 d8 d40 r hG.1 gb gc g1 g2 (qs kc) (qs g) gp8 g3) hM1 (fun _ => rfl) (fun r' v h => by rcases h with ⟨_, _, h⟩ | ⟨_, _, _, h⟩ <;> exact ⟨_, h⟩)
  have enp := nP_congr (n := nbs kc) (P := Bc (ks kc) (nts kc) (ks g) (nts g)) (Q := Bc (qs kc) (nts kc) (qs g) (nts g)) (fun s => Bc_KQ gq g4) (9 ^ nbs kc)
  refine Cal.mono (cal_isomorphic d g hI hg) (fun w1 v h => ?_)
  obtain ⟨hP, ⟨hn, rfl⟩ | ⟨hy, rfl⟩⟩ := h
  all_goals refine ⟨_, rfl, Cal8.mono (ref w1 (M8_post hP hM)) (fun w2 v2 h => ?_)⟩
  all_goals obtain ⟨r', hM2, e, el, h⟩ := h
  · rcases h with ⟨_, rfl, rfl⟩ | ⟨h, _⟩
    · exact ⟨rfl, join hR hP hM2 e el (th0_Gr ⟨rfl, rfl, rfl, rfl, rfl, rfl, rfl, rfl, rfl⟩ hG) (ha0_HS ⟨rfl, rfl, rfl, rfl, rfl, rfl⟩ hH) (th0_LT ⟨rfl, rfl, rfl, rfl, rfl, rfl, rfl, rfl, rfl⟩ hL)⟩
    · exact absurd h hn
  · rcases h with ⟨h, _⟩ | ⟨_, t, rfl, rfl⟩
    · exact absurd hy h
    · exact ⟨by rw [enp], join hR hP hM2 e el (th0_Gr ⟨rfl, rfl, rfl, rfl, rfl, rfl, rfl, rfl, rfl⟩ hG) (ha0_HS ⟨rfl, rfl, rfl, rfl, rfl, rfl⟩ hH) (th0_LT ⟨rfl, rfl, rfl, rfl, rfl, rfl, rfl, rfl, rfl⟩ hL)⟩
theorem st_ways (d : Nat) (x : Int32) (hJ : Jn w) : Stq mX7_ways mX8_ways (d + 14) w [.int x] := by
  obtain ⟨kc, gp, bp, bn, nbs, nts, ks, n, m, N, K, r, qs, hI, hM, hR, hG, hH, hL⟩ := hJ
  obtain ⟨gb, gc, gp8, gq⟩ := Gr8_cur hG
  obtain ⟨c8_, c40, cV⟩ := CInv_cur hI (Nat.le_refl _)
  by_cases hx : 0 ≤ x.toInt ∧ x.toInt < kc
  rotate_left
  · refine Cal.mono (cal_ways_bad (d + 13) x hI hx) (fun w1 v h => ?_)
    obtain ⟨hP, rfl⟩ := h
    refine ⟨_, rfl, Cal8.mono (cal8 (con8_ways_bad (d + 13) kc hI.1 r hG.1 x hx) (M8_post hP hM) (fun _ => rfl) (fun r' v h => ⟨_, h.2⟩)) (fun w2 v2 h => ?_)⟩
    obtain ⟨r', hM2, e, el, rfl, rfl⟩ := h
    exact ⟨rfl, join hR hP hM2 e el (th0_Gr ⟨rfl, rfl, rfl, rfl, rfl, rfl, rfl, rfl, rfl⟩ hG) (ha0_HS ⟨rfl, rfl, rfl, rfl, rfl, rfl⟩ hH) (th0_LT ⟨rfl, rfl, rfl, rfl, rfl, rfl, rfl, rfl, rfl⟩ hL)⟩
  rw [← nI_toNat hx.1]
  have hg : x.toInt.toNat < kc := by omega
  generalize x.toInt.toNat = g at hg
  obtain ⟨d8, d40, dV⟩ := CInv_cur hI (a := g) (by omega)
  obtain ⟨g1, g2, g3, g4⟩ := hG.2 g (by omega)
  rw [(mi_lt hI.1 (a := g) (by omega) (by omega)).1] at g1 g2 g3
  have ref := fun (w1 : List ab_C) (hM1 : M8 w1 r) => cal8 (w := w1) (con8_ways (d + 11) kc g (nbs kc) (nts kc) (nbs g) (nts g) hI.1 hg c8_ c40 d8 d40 r hG.1 gb gc g1 g2 (qs kc) (qs g) gp8 g3) hM1 (fun _ => rfl) (fun r' v h => by rcases h with ⟨_, _, h⟩ | ⟨_, _, _, h⟩ <;> exact ⟨_, h⟩)
  have enp := nP_congr (n := nbs kc) (P := Bc (ks kc) (nts kc) (ks g) (nts g)) (Q := Bc (qs kc) (nts kc) (qs g) (nts g)) (fun s => Bc_KQ gq g4) (9 ^ nbs kc)
  refine Cal.mono (cal_ways d g hI hg) (fun w1 v h => ?_)
  obtain ⟨hP, ⟨hn, rfl⟩ | ⟨hy, rfl⟩⟩ := h
  all_goals refine ⟨_, rfl, Cal8.mono (ref w1 (M8_post hP hM)) (fun w2 v2 h => ?_)⟩
  all_goals obtain ⟨r', hM2, e, el, h⟩ := h
  · rcases h with ⟨_, rfl, rfl⟩ | ⟨h, _⟩
    · exact ⟨rfl, join hR hP hM2 e el (th0_Gr ⟨rfl, rfl, rfl, rfl, rfl, rfl, rfl, rfl, rfl⟩ hG) (ha0_HS ⟨rfl, rfl, rfl, rfl, rfl, rfl⟩ hH) (th0_LT ⟨rfl, rfl, rfl, rfl, rfl, rfl, rfl, rfl, rfl⟩ hL)⟩
    · exact absurd h hn
  · rcases h with ⟨h, _⟩ | ⟨_, t, rfl, rfl⟩
    · exact absurd hy h
    · exact ⟨by rw [enp], join hR hP hM2 e el (th0_Gr ⟨rfl, rfl, rfl, rfl, rfl, rfl, rfl, rfl, rfl⟩ hG) (ha0_HS ⟨rfl, rfl, rfl, rfl, rfl, rfl⟩ hH) (th0_LT ⟨rfl, rfl, rfl, rfl, rfl, rfl, rfl, rfl, rfl⟩ hL)⟩
theorem st_equal (d : Nat) (x : Int32) (hJ : Jn w) : Stq mX7_equal mX8_equal (d + 14) w [.int x] := by
  obtain ⟨kc, gp, bp, bn, nbs, nts, ks, n, m, N, K, r, qs, hI, hM, hR, hG, hH, hL⟩ := hJ
  obtain ⟨gb, gc, gp8, gq⟩ := Gr8_cur hG
  obtain ⟨c8_, c40, cV⟩ := CInv_cur hI (Nat.le_refl _)
  by_cases hx : 0 ≤ x.toInt ∧ x.toInt < kc
  rotate_left
  · refine Cal.mono (cal_equal_bad (d + 13) x hI hx) (fun w1 v h => ?_)
    obtain ⟨hP, rfl⟩ := h
    refine ⟨_, rfl, Cal8.mono (cal8 (con8_equal_bad (d + 13) kc hI.1 r hG.1 x hx) (M8_post hP hM) (fun _ => rfl) (fun r' v h => ⟨_, h.2⟩)) (fun w2 v2 h => ?_)⟩
    obtain ⟨r', hM2, e, el, rfl, rfl⟩ := h
    exact ⟨rfl, join hR hP hM2 e el (th0_Gr ⟨rfl, rfl, rfl, rfl, rfl, rfl, rfl, rfl, rfl⟩ hG) (ha0_HS ⟨rfl, rfl, rfl, rfl, rfl, rfl⟩ hH) (th0_LT ⟨rfl, rfl, rfl, rfl, rfl, rfl, rfl, rfl, rfl⟩ hL)⟩
  rw [← nI_toNat hx.1]
  have hg : x.toInt.toNat < kc := by omega
  generalize x.toInt.toNat = g at hg
  obtain ⟨d8, d40, dV⟩ := CInv_cur hI (a := g) (by omega)
  obtain ⟨g1, g2, g3, g4⟩ := hG.2 g (by omega)
  rw [(mi_lt hI.1 (a := g) (by omega) (by omega)).1] at g1 g2 g3
  have ref := fun (w1 : List ab_C) (hM1 : M8 w1 r) => cal8 (w := w1) (con8_equal (d + 11) kc g (nbs kc) (nts kc) (nbs g) (nts g) hI.1 hg c8_ c40 d8 d40 r hG.1 gb gc g1 g2 (qs kc) (qs g) gp8 g3) hM1 (fun _ => rfl) (fun r' v h => by rcases h with ⟨_, _, h⟩ | ⟨_, _, _, ⟨_, h⟩ | ⟨_, h⟩⟩ <;> exact ⟨_, h⟩)
  have hiff : nbs kc = nbs g → nts kc = nts g → ((∀ i, i < nts kc → ks kc i = ks g i) ↔ Bc (qs kc) (nts kc) (qs g) (nts g) (fun c => c + 1)) := fun en et => by
    rw [← Bc_KQ gq g4]
    constructor
    · intro h i hi
      exact ⟨i, by omega, by rw [rnK_id (cV.1 i hi)]; exact (h i hi).symm⟩
    · intro h
      rw [← et] at h
      have hp := Bc_perm c8_ cV (id_perm (nbs kc)) h
      have e : (List.range (nts kc)).map (fun i => rnK (fun c => c + 1) (ks kc i)) = (List.range (nts kc)).map (ks kc) := List.map_congr_left (fun i hi => rnK_id (cV.1 i (List.mem_range.mp hi)))
      rw [e] at hp
      exact rise_eq (krise hI (Nat.le_refl _)) (by rw [et]; exact krise hI (a := g) (by omega)) hp
  refine Cal.mono (cal_equal (d + 13) g hI hg) (fun w1 v h => ?_)
  obtain ⟨hP, ⟨⟨y1, y2, y3⟩, rfl⟩ | ⟨hn, rfl⟩⟩ := h
  all_goals refine ⟨_, rfl, Cal8.mono (ref w1 (M8_post hP hM)) (fun w2 v2 h => ?_)⟩
  all_goals obtain ⟨r', hM2, e, el, h⟩ := h
  · rcases h with ⟨h, _⟩ | ⟨_, t, rfl, ⟨_, rfl⟩ | ⟨h, _⟩⟩
    · exact absurd ⟨y1, y2⟩ h
    · exact ⟨rfl, join hR hP hM2 e el (th0_Gr ⟨rfl, rfl, rfl, rfl, rfl, rfl, rfl, rfl, rfl⟩ hG) (ha0_HS ⟨rfl, rfl, rfl, rfl, rfl, rfl⟩ hH) (th0_LT ⟨rfl, rfl, rfl, rfl, rfl, rfl, rfl, rfl, rfl⟩ hL)⟩
    · exact absurd ((hiff y1 y2).mp y3) h
  · rcases h with ⟨_, rfl, rfl⟩ | ⟨hy, t, rfl, ⟨h, _⟩ | ⟨_, rfl⟩⟩
    · exact ⟨rfl, join hR hP hM2 e el (th0_Gr ⟨rfl, rfl, rfl, rfl, rfl, rfl, rfl, rfl, rfl⟩ hG) (ha0_HS ⟨rfl, rfl, rfl, rfl, rfl, rfl⟩ hH) (th0_LT ⟨rfl, rfl, rfl, rfl, rfl, rfl, rfl, rfl, rfl⟩ hL)⟩
    · exact absurd ⟨hy.1, hy.2, (hiff hy.1 hy.2).mpr h⟩ hn
    · exact ⟨rfl, join hR hP hM2 e el (th0_Gr ⟨rfl, rfl, rfl, rfl, rfl, rfl, rfl, rfl, rfl⟩ hG) (ha0_HS ⟨rfl, rfl, rfl, rfl, rfl, rfl⟩ hH) (th0_LT ⟨rfl, rfl, rfl, rfl, rfl, rfl, rfl, rfl, rfl⟩ hL)⟩
theorem st_name (d : Nat) (steps : Int64) (hJ : Jn w) : Stq mX7_name mX8_name (d + 14) w [.long steps] := by
  obtain ⟨kc, gp, bp, bn, nbs, nts, ks, n, m, N, K, r, qs, hI, hM, hR, hG, hH, hL⟩ := hJ
  obtain ⟨gb, gc, gp8, gq⟩ := Gr8_cur hG
  obtain ⟨c8_, c40, cV⟩ := CInv_cur hI (Nat.le_refl _)
  have ref := fun (w1 : List ab_C) (hM1 : M8 w1 r) => cal8 (w := w1) (con8_name (d + 8) (nbs kc) (nts kc) c8_ c40 r gb gc (qs kc) gp8 hH steps) hM1 (fun _ => rfl) (fun r' v h => by obtain ⟨_, _, _, _, _, _, _, _, ⟨_, _, h⟩ | ⟨_, _, _, _, h, _⟩⟩ := h <;> exact ⟨_, h⟩)
  refine Cal.mono (cal_name (d + 1) steps hI) (fun w1 v h => ?_)
  obtain ⟨F, R, o, rk, st, cn, hHs, hGP, h⟩ := h
  have same : ∀ {F' : Nat → Int32} {R' : Nat} {o' rk' st' : Nat → Nat} {cn' : Nat}, Hsh (nbs kc) (nts kc) (qs kc) F' R' → GP (hv F') (nbs kc) o' rk' st' cn' → (nmg st cn = nmg st' cn') ∧ ∀ s, PermH (nbs kc) s → (NMg (nbs kc) o rk s ↔ NMg (nbs kc) o' rk' s) := fun {F' R' o' rk' st' cn'} a b => by
    obtain ⟨ecn, eo, erk, est⟩ := gp_same (hv_same (Hsh_KQ c8_ cV gq hHs a).1) hGP b
    subst ecn
    exact ⟨nmg_congr est, fun s hs => NMg_congr eo erk hGP.1 hs⟩
  rcases h with ⟨hst, hP, rfl⟩ | ⟨hst, y, h, ⟨y1, y2, y3⟩, ⟨h1, h2, h3, h4⟩, hP, rfl⟩
  all_goals refine ⟨_, rfl, Cal8.mono (ref w1 (M8_post hP hM)) (fun w2 v2 h => ?_)⟩
  all_goals obtain ⟨r', hM2, e, el, ⟨b1, b2, b3, b4, b5, b6⟩, F', R', o', rk', st', cn', hHd, h⟩ := h
  all_goals obtain ⟨s1, s2⟩ := same hHd.1 hHd.2.2.1
  all_goals have hG2 : Gr8 r' kc nbs nts ks qs := by
              unfold Gr8
              rw [b1, b2, b3, b4]
              exact hG
  · rw [s1] at hst
    rcases h with ⟨_, ⟨c1, c2, c3, c4, c5⟩, rfl⟩ | ⟨h, _⟩
    · exact ⟨rfl, join hR hP hM2 e el hG2 (Or.inr ⟨b6, F', R', o', rk', st', cn', hHd⟩) (by unfold LT8; rw [c1, c2, c3, c4, c5]; exact hL)⟩
    · exact absurd h hst
  · rw [s1] at hst
    rcases h with ⟨h, _⟩ | ⟨_, m', B, hB, rfl, hLT⟩
    · exact absurd hst h
    · obtain ⟨m0, erow, em, enm⟩ := name_same c8_ cV gq hHd.1 hHd.2.2.1 (y := y) ⟨y1.1, (s2 _ y1.1).mp y1.2⟩ y2 (fun s hs => y3 s ⟨hs.1, (s2 s hs.1).mpr hs.2⟩) hB
      have eN := enm h h1 ((s2 h h1).mp h2) h3 (fun z z1 z2 z3 => h4 z z1 ((s2 z z1).mpr z2) z3)
      exact ⟨by rw [em], join hR hP hM2 e el hG2 (Or.inr ⟨b6, F', R', o', rk', st', cn', hHd⟩) (LT8_congr (hLT m0) eN erow)⟩
end ST4
