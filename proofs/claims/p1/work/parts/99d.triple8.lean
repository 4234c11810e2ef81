/-! triple, drop of class and model. -/
section ST2
variable {w : List ab_C}
theorem keyN_pts {nb : Nat} {s p o : Int32} (hnb : nb ≤ 8) (h : isPt nb s ∧ isPt nb p ∧ isPt nb o) {f : Nat → Int32} {b : Nat} (ht : tri f b s p o) : keyN s p o < 2 ^ 30 ∧ ∀ pl, pl < 3 → f (b + pl) = pt (keyN s p o) pl ∧ kp (keyN s p o) pl ≠ 8 ∧ kp (keyN s p o) pl < 1009 ∧ (kp (keyN s p o) pl < 8 → 7 - kp (keyN s p o) pl < nb) := by
  obtain ⟨kK, k0, k1, k2⟩ := pq_kp hnb (ptB_isPt.mpr h.1) (ptB_isPt.mpr h.2.1) (ptB_isPt.mpr h.2.2)
  refine ⟨kK.1, fun pl hpl => ⟨?_, ?_, (kK.2 pl hpl).1, (kK.2 pl hpl).2⟩⟩
  · unfold pt
    match pl, hpl with
    | 0, _ => rw [k0, ← pt_pq hnb h.1]; exact ht.1
    | 1, _ => rw [k1, ← pt_pq hnb h.2.1]; exact ht.2.1
    | 2, _ => rw [k2, ← pt_pq hnb h.2.2]; exact ht.2.2
  · match pl, hpl with
    | 0, _ => rw [k0]; exact pq8 h.1
    | 1, _ => rw [k1]; exact pq8 h.2.1
    | 2, _ => rw [k2]; exact pq8 h.2.2
theorem st_triple (d : Nat) (s p o : Int32) (hJ : Jn w) : Stq mX7_triple mX8_triple (d + 14) w [.int s, .int p, .int o] := by
  obtain ⟨kc, gp, bp, bn, nbs, nts, ks, n, m, N, K, r, qs, hI, hM, hR, hG, hH, hL⟩ := hJ
  obtain ⟨gb, gc, gp8, gq⟩ := Gr8_cur hG
  obtain ⟨c8_, c40, cV⟩ := CInv_cur hI (Nat.le_refl _)
  have qV := Vk_KQ gq cV
  have hmem : (isPt (nbs kc) s ∧ isPt (nbs kc) p ∧ isPt (nbs kc) o) → ((∃ j, j < nts kc ∧ tri r.po (960 + 3 * j) s p o) ↔ ∃ i, i < nts kc ∧ ks kc i = keyN s p o) := fun hp => by
    rw [KQ_ex gq]
    exact ⟨fun ⟨j, hj, t⟩ => ⟨j, hj, (tri_keyN c8_ gp8 hp hj).mp t⟩, fun ⟨j, hj, t⟩ => ⟨j, hj, (tri_keyN c8_ gp8 hp hj).mpr t⟩⟩
  have ref := fun (w1 : List ab_C) (hM1 : M8 w1 r) => cal8 (w := w1) (con8_triple (d + 12) (nbs kc) (nts kc) r gb c8_ gc c40 s p o) hM1 (fun _ => rfl) (fun r' v h => by rcases h with ⟨_, _, h⟩ | ⟨_, ⟨_, _, h⟩ | ⟨_, ⟨_, _, h⟩ | ⟨_, _, h⟩⟩⟩ <;> exact ⟨_, h⟩)
  refine Cal.mono (cal_triple (d + 12) s p o hI) (fun w1 v h => ?_)
  rcases h with ⟨h0, hP, rfl⟩ | ⟨h0, ⟨h1, hP, rfl⟩ | ⟨h1, ⟨h2, hP, rfl⟩ | ⟨h2, k', hP, hk1, hk2, rfl⟩⟩⟩
  all_goals refine ⟨_, rfl, Cal8.mono (ref w1 (M8_post hP hM)) (fun w2 v2 h => ?_)⟩
  all_goals obtain ⟨r', hM2, e, el, h⟩ := h
  · rcases h with ⟨_, rfl, rfl⟩ | ⟨h, _⟩
    · exact ⟨rfl, join hR hP hM2 e el (th0_Gr ⟨rfl, rfl, rfl, rfl, rfl, rfl, rfl, rfl, rfl⟩ hG) (ha0_HS ⟨rfl, rfl, rfl, rfl, rfl, rfl⟩ hH) (th0_LT ⟨rfl, rfl, rfl, rfl, rfl, rfl, rfl, rfl, rfl⟩ hL)⟩
    · exact absurd h h0
  · rcases h with ⟨h, _⟩ | ⟨_, ⟨_, rfl, rfl⟩ | ⟨h, _⟩⟩
    · exact absurd h0 h
    · exact ⟨rfl, join hR hP hM2 e el (th0_Gr ⟨rfl, rfl, rfl, rfl, rfl, rfl, rfl, rfl, rfl⟩ hG) (ha0_HS ⟨rfl, rfl, rfl, rfl, rfl, rfl⟩ hH) (th0_LT ⟨rfl, rfl, rfl, rfl, rfl, rfl, rfl, rfl, rfl⟩ hL)⟩
    · exact absurd ((hmem h0).mpr h1) h
  · rcases h with ⟨h, _⟩ | ⟨_, ⟨h, _⟩ | ⟨_, ⟨_, rfl, rfl⟩ | ⟨h, _⟩⟩⟩
    · exact absurd h0 h
    · exact absurd ((hmem h0).mp h) h1
    · exact ⟨rfl, join hR hP hM2 e el (th0_Gr ⟨rfl, rfl, rfl, rfl, rfl, rfl, rfl, rfl, rfl⟩ hG) (ha0_HS ⟨rfl, rfl, rfl, rfl, rfl, rfl⟩ hH) (th0_LT ⟨rfl, rfl, rfl, rfl, rfl, rfl, rfl, rfl, rfl⟩ hL)⟩
    · omega
  · rcases h with ⟨h, _⟩ | ⟨_, ⟨h, _⟩ | ⟨_, ⟨h, _⟩ | ⟨_, rfl, rfl⟩⟩⟩
    · exact absurd h0 h
    · exact absurd ((hmem h0).mp h) h1
    · omega
    have hq' : ∀ i, i < nts kc → (fun i => if i < nts kc then qs kc i else keyN s p o) i = qs kc i := fun i hi => if_pos hi
    have hqn : (fun i => if i < nts kc then qs kc i else keyN s p o) (nts kc) = keyN s p o := if_neg (by omega)
    have hno : ¬ ∃ i, i < nts kc ∧ qs kc i = keyN s p o := fun z => h1 ((KQ_ex gq).mpr z)
    refine ⟨rfl, join (qs := updK qs kc (fun i => if i < nts kc then qs kc i else keyN s p o)) hR hP hM2 e el ⟨hG.1, fun a ha => ?_⟩ (Or.inl rfl) (th0_LT ⟨rfl, rfl, rfl, rfl, rfl, rfl, rfl, rfl, rfl⟩ hL)⟩
    have po' : ∀ i, i < 960 + 3 * nts kc → (upd (upd (upd r.po (960 + 3 * nts kc) s) (960 + 3 * nts kc + 1) p) (960 + 3 * nts kc + 2) o) i = r.po i := fun i hi => by rw [upd_ot (by omega), upd_ot (by omega), upd_ot (by omega)]
    have pt' : tri (upd (upd (upd r.po (960 + 3 * nts kc) s) (960 + 3 * nts kc + 1) p) (960 + 3 * nts kc + 2) o) (960 + 3 * nts kc) s p o := ⟨by rw [upd_ot (by omega), upd_ot (by omega), upd_at], by rw [upd_ot (by omega), upd_at], upd_at⟩
    by_cases ea : a = kc
    · rw [ea, show mi kc kc = 8 from if_pos rfl, updN_s, updK_s, updK_s]
      refine ⟨gb, show upd r.co 8 (nI (nts kc + 1)) 8 = nI (nts kc + 1) from upd_at, fun i hi => ?_, KQ_of (fun x => ?_) hk2 (fun i j hij hj => ?_)⟩
      · by_cases ei : i < nts kc
        · show (if i < nts kc then qs kc i else keyN s p o) < 2 ^ 30 ∧ ∀ pl, pl < 3 → _ = pt (if i < nts kc then qs kc i else keyN s p o) pl ∧ kp (if i < nts kc then qs kc i else keyN s p o) pl ≠ 8 ∧ kp (if i < nts kc then qs kc i else keyN s p o) pl < 1009 ∧ (kp (if i < nts kc then qs kc i else keyN s p o) pl < 8 → 7 - kp (if i < nts kc then qs kc i else keyN s p o) pl < nbs kc)
          rw [if_pos ei]
          exact ⟨(gp8 i ei).1, fun pl hpl => ⟨(po' _ (by omega)).trans ((gp8 i ei).2 pl hpl).1, ((gp8 i ei).2 pl hpl).2⟩⟩
        · have ei : i = nts kc := by omega
          show (if i < nts kc then qs kc i else keyN s p o) < 2 ^ 30 ∧ ∀ pl, pl < 3 → _ = pt (if i < nts kc then qs kc i else keyN s p o) pl ∧ kp (if i < nts kc then qs kc i else keyN s p o) pl ≠ 8 ∧ kp (if i < nts kc then qs kc i else keyN s p o) pl < 1009 ∧ (kp (if i < nts kc then qs kc i else keyN s p o) pl < 8 → 7 - kp (if i < nts kc then qs kc i else keyN s p o) pl < nbs kc)
          rw [if_neg (by omega), ei]
          exact keyN_pts c8_ h0 pt'
      · rw [hk1 x]
        constructor
        · rintro (rfl | z)
          · exact ⟨nts kc, by omega, hqn⟩
          · obtain ⟨i, hi, z⟩ := (KQ_ex gq).mp z
            exact ⟨i, by omega, (hq' i hi).trans z⟩
        · rintro ⟨i, hi, z⟩
          by_cases ei : i < nts kc
          · exact Or.inr ((KQ_ex gq).mpr ⟨i, ei, (hq' i ei).symm.trans z⟩)
          · rw [show i = nts kc by omega] at z
            exact Or.inl (z.symm.trans hqn)
      · intro z
        have z1 := (hq' i (by omega)).symm.trans z
        by_cases ej : j < nts kc
        · exact qV.2 i j hij ej (z1.trans (hq' j ej))
        · rw [show j = nts kc by omega] at z1
          exact hno ⟨i, by omega, z1.trans hqn⟩
    · obtain ⟨m1, m2⟩ := mi_lt hI.1 ha ea
      have hg := hG.2 a ha
      rw [m1] at hg ⊢
      rw [updN_n ea, updK_n ea, updK_n ea]
      exact ⟨hg.1, (show upd r.co 8 (nI (nts kc + 1)) a = r.co a from upd_ot (by omega)).trans hg.2.1, pts_same (CInv_cur hI ha).2.1 (fun i h1 h2 => po' i (by omega)) hg.2.2.1, hg.2.2.2⟩
theorem st_drop (d : Nat) (s p o : Int32) (hJ : Jn w) : Stq mX7_drop mX8_drop (d + 14) w [.int s, .int p, .int o] := by
  obtain ⟨kc, gp, bp, bn, nbs, nts, ks, n, m, N, K, r, qs, hI, hM, hR, hG, hH, hL⟩ := hJ
  obtain ⟨gb, gc, gp8, gq⟩ := Gr8_cur hG
  obtain ⟨c8_, c40, cV⟩ := CInv_cur hI (Nat.le_refl _)
  have qV := Vk_KQ gq cV
  have tpt : ∀ j, j < nts kc → tri r.po (960 + 3 * j) s p o → isPt (nbs kc) s ∧ isPt (nbs kc) p ∧ isPt (nbs kc) o := fun j hj t => by
    have z := gp8 j hj
    have q : ∀ pl x, pl < 3 → r.po (960 + 3 * j + pl) = x → isPt (nbs kc) x := fun pl x hpl e => by
      obtain ⟨a1, a2, a3, a4⟩ := z.2 pl hpl
      rw [e] at a1
      have h1 : (nI (kp (qs kc j) pl)).toInt = kp (qs kc j) pl := nI_toInt (by omega)
      have h2 : x.toInt = (kp (qs kc j) pl : Int) - 8 := by
        rw [a1]
        unfold pt
        rw [Int32.toInt_sub, h1, show (8 : Int32).toInt = 8 from rfl]
        exact Int.bmod_eq_of_le (by omega) (by omega)
      unfold isPt
      split <;> omega
    exact ⟨q 0 s (by omega) t.1, q 1 p (by omega) t.2.1, q 2 o (by omega) t.2.2⟩
  have ref := fun (w1 : List ab_C) (hM1 : M8 w1 r) => cal8 (w := w1) (con8_drop (d + 12) (nts kc) r gc c40 s p o) hM1 (fun _ => rfl) (fun r' v h => by rcases h with ⟨_, h⟩ | ⟨_, _, h⟩ <;> exact ⟨_, h⟩)
  refine Cal.mono (cal_drop (d + 12) s p o hI) (fun w1 v h => ?_)
  rcases h with ⟨h0, hP, rfl⟩ | ⟨⟨h0, h1⟩, k', hP, hk1, hk2, rfl⟩
  all_goals refine ⟨_, rfl, Cal8.mono (ref w1 (M8_post hP hM)) (fun w2 v2 h => ?_)⟩
  all_goals obtain ⟨r', hM2, e, el, h⟩ := h
  · rcases h with ⟨⟨j, hj, ht, _⟩, _⟩ | ⟨_, rfl, rfl⟩
    · exact absurd ⟨tpt j hj ht, (KQ_ex gq).mpr ⟨j, hj, (tri_keyN c8_ gp8 (tpt j hj ht) hj).mp ht⟩⟩ h0
    · exact ⟨rfl, join hR hP hM2 e el (th0_Gr ⟨rfl, rfl, rfl, rfl, rfl, rfl, rfl, rfl, rfl⟩ hG) (ha0_HS ⟨rfl, rfl, rfl, rfl, rfl, rfl⟩ hH) (th0_LT ⟨rfl, rfl, rfl, rfl, rfl, rfl, rfl, rfl, rfl⟩ hL)⟩
  · rcases h with ⟨⟨j, hj, ht, rfl⟩, rfl⟩ | ⟨h, _⟩
    rotate_left
    · obtain ⟨i, hi, z⟩ := (KQ_ex gq).mp h1
      exact absurd ((tri_keyN c8_ gp8 h0 hi).mpr z) (h i hi)
    have hkj := (tri_keyN c8_ gp8 h0 hj).mp ht
    have qe : ∀ i, (fun i => if i < j then qs kc i else qs kc (i + 1)) i = qs kc (if i < j then i else i + 1) := fun i => by
      show (if i < j then qs kc i else qs kc (i + 1)) = _
      split <;> rfl
    refine ⟨rfl, join (qs := updK qs kc (fun i => if i < j then qs kc i else qs kc (i + 1))) hR hP hM2 e el ⟨hG.1, fun a ha => ?_⟩ (Or.inl rfl) (th0_LT ⟨rfl, rfl, rfl, rfl, rfl, rfl, rfl, rfl, rfl⟩ hL)⟩
    by_cases ea : a = kc
    · rw [ea, show mi kc kc = 8 from if_pos rfl, updN_s, updK_s, updK_s]
      refine ⟨gb, show upd r.co 8 (nI (nts kc - 1)) 8 = nI (nts kc - 1) from upd_at, fun i hi => ?_, KQ_of (fun x => ?_) hk2 (fun i1 i2 hij hi2 => ?_)⟩
      · rw [qe]
        by_cases ei : i < j
        · rw [if_pos ei]
          refine ⟨(gp8 i (by omega)).1, fun pl hpl => ⟨?_, ((gp8 i (by omega)).2 pl hpl).2⟩⟩
          show shl3 r.po (960 + 3 * j) (960 + 3 * (nts kc - 1)) (960 + 3 * i + pl) = _
          unfold shl3
          rw [if_neg (by omega)]
          exact ((gp8 i (by omega)).2 pl hpl).1
        · rw [if_neg ei]
          refine ⟨(gp8 (i + 1) (by omega)).1, fun pl hpl => ⟨?_, ((gp8 (i + 1) (by omega)).2 pl hpl).2⟩⟩
          show shl3 r.po (960 + 3 * j) (960 + 3 * (nts kc - 1)) (960 + 3 * i + pl) = _
          unfold shl3
          rw [if_pos (by omega), ← ((gp8 (i + 1) (by omega)).2 pl hpl).1]
          congr 1
          omega
      · rw [hk1 x]
        constructor
        · rintro ⟨hne, z⟩
          obtain ⟨i, hi, z⟩ := (KQ_ex gq).mp z
          have hij : i ≠ j := fun q => hne (by rw [← z, q, hkj])
          by_cases ei : i < j
          · exact ⟨i, by omega, (qe i).trans (by rw [if_pos ei]; exact z)⟩
          · exact ⟨i - 1, by omega, (qe (i - 1)).trans (by rw [if_neg (by omega), show i - 1 + 1 = i by omega]; exact z)⟩
        · rintro ⟨i, hi, z⟩
          have z := (qe i).symm.trans z
          have hb : (if i < j then i else i + 1) < nts kc ∧ (if i < j then i else i + 1) ≠ j := by split <;> omega
          refine ⟨fun q => ?_, (KQ_ex gq).mpr ⟨_, hb.1, z⟩⟩
          exact hb.2 (Vk_inj qV hb.1 hj (by rw [z, q, hkj]))
      · intro z
        have z := ((qe i1).symm.trans z).trans (qe i2)
        have := Vk_inj qV (by split <;> omega) (by split <;> omega) z
        split at this <;> split at this <;> omega
    · obtain ⟨m1, m2⟩ := mi_lt hI.1 ha ea
      have hg := hG.2 a ha
      rw [m1] at hg ⊢
      rw [updN_n ea, updK_n ea, updK_n ea]
      refine ⟨hg.1, (show upd r.co 8 (nI (nts kc - 1)) a = r.co a from upd_ot (by omega)).trans hg.2.1, pts_same (CInv_cur hI ha).2.1 (fun i h1 h2 => ?_) hg.2.2.1, hg.2.2.2⟩
      show shl3 r.po (960 + 3 * j) (960 + 3 * (nts kc - 1)) i = _
      unfold shl3
      rw [if_neg (by omega)]
end ST2
