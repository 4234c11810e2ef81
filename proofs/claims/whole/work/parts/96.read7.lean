/-! drop, hash, first, named, form of the class, by facts. -/
section CL2
variable {w : List ab_C} {kc : Nat} {gp bp : Nat → Nat} {bn : Nat} {nbs nts : Nat → Nat} {ks : Nat → Nat → Nat} {n m : Nat} {N K : Nat → Nat}
set_option maxHeartbeats 1000000 in
theorem cal_drop (d : Nat) (s p o : Int32) (hI : CInv w kc gp bp bn nbs nts ks n m N K) : Cal mX7_drop (d + 2) w [.ref 100, .int s, .int p, .int o] (fun w1 v => ((¬ ((isPt (nbs kc) s ∧ isPt (nbs kc) p ∧ isPt (nbs kc) o) ∧ ∃ i, i < nts kc ∧ ks kc i = keyN s p o)) ∧ CPost w kc gp nbs nts ks n m N K w1 ∧ v = some (.int 0)) ∨ (((isPt (nbs kc) s ∧ isPt (nbs kc) p ∧ isPt (nbs kc) o) ∧ ∃ i, i < nts kc ∧ ks kc i = keyN s p o) ∧ ∃ k', CPost w kc gp nbs (updN nts kc (nts kc - 1)) (updK ks kc k') n m N K w1 ∧ (∀ x, (∃ i, i < nts kc - 1 ∧ k' i = x) ↔ x ≠ keyN s p o ∧ ∃ i, i < nts kc ∧ ks kc i = x) ∧ (∀ i j, i < j → j < nts kc - 1 → k' i ≠ k' j) ∧ v = some (.int 1))) := by
  obtain ⟨i1, i2, _, _, i5, _, _, i8⟩ := id hI
  obtain ⟨hs, ro, Kk, cY, FY, Y1, Y2, Y3, hg, hY, g8, g40, hkk, hri, hHS⟩ := i5 kc (Nat.le_refl _)
  have hf := gfit3 i2 hg
  have a1 := i8.1 kc (Nat.le_refl _)
  have hn := nd3 a1
  have hpt : (ptB (nbs kc) s && ptB (nbs kc) p && ptB (nbs kc) o) = true ↔ (isPt (nbs kc) s ∧ isPt (nbs kc) p ∧ isPt (nbs kc) o) := by rw [Bool.and_eq_true, Bool.and_eq_true, ptB_isPt, ptB_isPt, ptB_isPt]; exact ⟨fun h => ⟨h.1.1, h.1.2, h.2⟩, fun h => ⟨⟨h.1, h.2.1⟩, h.2.2⟩⟩
  refine ⟨[0, gp kc, gp kc + 1], _, _, [.ref 100, .int s, .int p, .int o], _, con_drop d 4 5 6 7 8 9 (nI kc) (nbs kc) (nts kc) g8 g40 s p o hs ro 10 Kk hri, hf, nd_of hn, rfl, fun w' v h => ?_, fun w' v h => ?_⟩
  · rcases h with ⟨_, h, _⟩ | ⟨_, _, h, _⟩ | ⟨_, _, _, h, _⟩ <;> rw [h] <;> exact (rfl : (3 : Nat) = 3)
  rcases h with ⟨h0, rfl, rfl⟩ | ⟨h0, h1, rfl, rfl⟩ | ⟨h0, h1, g, rfl, h4, h5, rfl⟩
  · rw [hf.same]
    exact Or.inl ⟨fun q => by rw [hpt.mpr q.1] at h0; exact absurd h0 (by decide), CPost_same hI, rfl⟩
  all_goals
    have hpp := hpt.mp h0
    have hK := (pq_kp g8 (ptB_isPt.mpr hpp.1) (ptB_isPt.mpr hpp.2.1) (ptB_isPt.mpr hpp.2.2)).1
  · rw [hf.same]
    exact Or.inl ⟨fun q => h1 ((in_nI hkk hK.1).mpr q.2), CPost_same hI, rfl⟩
  · have hko : keysOk g (fun i => uw (g i)) (nts kc - 1) (nbs kc) := keys_of (keysOk_N hkk) hK (fun i hi => by
      obtain ⟨_, j, hj, q⟩ := (h5 (g i)).mp ⟨i, hi, rfl⟩
      exact Or.inr ⟨j, hj, by rw [← q, (hkk j hj).1]⟩)
    refine Or.inr ⟨⟨hpp, (in_nI hkk hK.1).mp h1⟩, fun i => uw (g i), ⟨⟨bp, bn, ?_⟩, fun i hi => put_out (by simp; omega), ab_put_len _ _ _⟩, fun x => ?_, fun i j hij hj e => ?_, rfl⟩
    · have u : updN nts kc (nts kc - 1) kc = nts kc - 1 := updN_s
      refine CInv_g (hs := 0) (ro := ro) (Kk := g) hI (fun a ha => ⟨rfl, updN_n (by omega), updK_n (by omega)⟩) ⟨?_, ?_⟩ (fun i h2 h3 => ?_) g8 (by rw [u]; omega) (by rw [u, updK_s]; exact hko) (by rw [u]; exact h4) (fun _ _ _ _ _ _ _ => Or.inl rfl)
      · rw [u]
        exact put_in (j := 1) hn rfl (at_lt hg.1) rfl
      · exact put_in (j := 2) hn rfl (at_lt hg.2) rfl
      · by_cases e : i = 0
        · rw [e]
          exact (put_in (j := 0) hn rfl (at_lt i2) rfl).trans (show w[0]? = _ from i2).symm
        · exact put_out (by simp; omega)
    · constructor
      · rintro ⟨i, hi, e⟩
        have e : uw (g i) = x := e
        obtain ⟨q0, j, hj, q⟩ := (h5 (g i)).mp ⟨i, hi, rfl⟩
        refine ⟨fun ex => q0 ?_, j, hj, by rw [← e, ← q, (hkk j hj).1]; exact (uw_nI (by have := (hkk j hj).2.1; omega)).symm⟩
        rw [← ex, ← e, nI_uw]
      · rintro ⟨e0, j, hj, e⟩
        have hne : Kk j ≠ nI (keyN s p o) := fun q => e0 (by rw [← e]; rw [(hkk j hj).1] at q; exact nI_inj30 (hkk j hj).2.1 hK.1 q)
        obtain ⟨i, hi, q⟩ := (h5 (Kk j)).mpr ⟨hne, j, hj, rfl⟩
        exact ⟨i, hi, by show uw (g i) = x; rw [q, (hkk j hj).1, e]; exact uw_nI (by have := (hkk j hj).2.1; omega)⟩
    · have e : uw (g i) = uw (g j) := e
      have := h4 i j hij hj
      rw [uw_inj e] at this
      exact absurd this (Int32.lt_irrefl)
theorem cal_hash (d : Nat) (b i : Int32) (hI : CInv w kc gp bp bn nbs nts ks n m N K) : Cal mX7_hash (d + 5) w [.ref 100, .int b, .int i] (fun w1 v => CPost w kc gp nbs nts ks n m N K w1 ∧ (((¬ (1 ≤ b.toInt ∧ b.toInt ≤ nbs kc ∧ 0 ≤ i.toInt ∧ i.toInt < 8)) ∧ v = some (.int 0)) ∨ ((1 ≤ b.toInt ∧ b.toInt ≤ nbs kc ∧ 0 ≤ i.toInt ∧ i.toInt < 8) ∧ ∃ F R, Hsh (nbs kc) (nts kc) (ks kc) F R ∧ v = some (.int (F ((b.toInt.toNat - 1) * 8 + i.toInt.toNat)))))) := by
  obtain ⟨i1, i2, ⟨s, len, D, hh⟩, ⟨cX, FX, X1, X2, X3, hX⟩, i5, i6, i7, i8⟩ := id hI
  obtain ⟨hs, ro, Kk, cY, FY, Y1, Y2, Y3, hg, hY, g8, g40, hkk, hri, hHS⟩ := i5 kc (Nat.le_refl _)
  obtain ⟨z1, z2, z3, z4, z5, z6, z7, z8⟩ := id i8
  have hn : (IS18 bn (gp kc) (bp kc)).Nodup := nd18 z3 (z1 kc (Nat.le_refl _)) (z2 kc (Nat.le_refl _)) (z7 kc (Nat.le_refl _)) (z8 kc (Nat.le_refl _)) (z6 kc kc (Nat.le_refl _) (Nat.le_refl _))
  have hf := vfit i2 hh hg hX hY
  refine ⟨IS18 bn (gp kc) (bp kc), FO4, _, [.ref 100, .int b, .int i], _, con_hash d (nbs kc) (nts kc) g8 g40 4 5 6 7 (nI kc) s len hs ro cX cY D FX X1 X2 X3 Kk FY Y1 Y2 Y3 (ks kc) hkk hHS b i, hf, nd_of hn, rfl, fun w' v h => ?_, fun w' v h => ?_⟩
  · rcases h with ⟨_, h, _⟩ | ⟨_, _, _, _, _, _, _, _, _, _, _, _, _, _, _, _, _, _, _, _, h | h, _⟩ <;> rw [h] <;> exact (rfl : (18 : Nat) = 18)
  · rcases h with ⟨h1, rfl, rfl⟩ | ⟨h1, s2, len2, D2, R, F2, f1, f2, f3, E, e1, e2, e3, ce, o, rk, st, cn, hHs, hGr, hq, rfl⟩
    · rw [hf.same]
      exact ⟨CPost_same hI, Or.inl ⟨h1, rfl⟩⟩
    · exact ⟨CInv_ref hI hh hg hX hY hkk hri hHs hGr hq, Or.inr ⟨h1, F2, R, hHs, rfl⟩⟩
theorem cal_first (d : Nat) (g i : Int32) (hI : CInv w kc gp bp bn nbs nts ks n m N K) : Cal mX7_first (d + 5) w [.ref 100, .int g, .int i] (fun w1 v => CPost w kc gp nbs nts ks n m N K w1 ∧ ∃ F R o rk st cn, Hsh (nbs kc) (nts kc) (ks kc) F R ∧ GP (hv F) (nbs kc) o rk st cn ∧ v = some (.int (if 0 ≤ g.toInt ∧ g.toInt < cn ∧ 0 ≤ i.toInt ∧ i.toInt < (st (g.toInt.toNat + 1) - st g.toInt.toNat : Nat) then nI (o (st g.toInt.toNat + i.toInt.toNat) + 1) else -1))) := by
  obtain ⟨i1, i2, ⟨s, len, D, hh⟩, ⟨cX, FX, X1, X2, X3, hX⟩, i5, i6, i7, i8⟩ := id hI
  obtain ⟨hs, ro, Kk, cY, FY, Y1, Y2, Y3, hg, hY, g8, g40, hkk, hri, hHS⟩ := i5 kc (Nat.le_refl _)
  obtain ⟨z1, z2, z3, z4, z5, z6, z7, z8⟩ := id i8
  have hn : (IS18 bn (gp kc) (bp kc)).Nodup := nd18 z3 (z1 kc (Nat.le_refl _)) (z2 kc (Nat.le_refl _)) (z7 kc (Nat.le_refl _)) (z8 kc (Nat.le_refl _)) (z6 kc kc (Nat.le_refl _) (Nat.le_refl _))
  refine ⟨IS18 bn (gp kc) (bp kc), FO4, _, [.ref 100, .int g, .int i], _, con_first d (nbs kc) (nts kc) g8 g40 4 5 6 7 (nI kc) s len hs ro cX cY D FX X1 X2 X3 Kk FY Y1 Y2 Y3 (ks kc) hkk hHS g i, vfit i2 hh hg hX hY, nd_of hn, rfl, fun w' v h => ?_, fun w' v h => ?_⟩
  · obtain ⟨_, _, _, _, _, _, _, _, _, _, _, _, _, _, _, _, _, _, _, h | h, _⟩ := h <;> rw [h] <;> exact (rfl : (18 : Nat) = 18)
  · obtain ⟨s2, len2, D2, R, F2, f1, f2, f3, E, e1, e2, e3, ce, o, rk, st, cn, hHs, hGr, hq, rfl⟩ := h
    exact ⟨CInv_ref hI hh hg hX hY hkk hri hHs hGr hq, F2, R, o, rk, st, cn, hHs, hGr.1, rfl⟩
theorem cal_named (d : Nat) (b : Int32) (hI : CInv w kc gp bp bn nbs nts ks n m N K) : Cal mX7_named d w [.ref 100, .int b] (fun w1 v => CPost w kc gp nbs nts ks n m N K w1 ∧ v = some (.int (if 1 ≤ b.toInt ∧ b.toInt ≤ n then nI (N (b.toInt.toNat - 1)) else -1))) := by
  obtain ⟨i1, i2, _, _, i5, i6, _, i8⟩ := id hI
  obtain ⟨I, La, fd, P, Qb, tr, dg, hs', ro', Kf, cv', RF, Nn, Dg, gI, gP, gQ, ⟨a1, a2, a3, a4, a5, a6, a7⟩, ⟨b1, b2, b3, b4, b5, b6, b7⟩, c1, c2, c3, c4, c5, c6, c7', c8⟩ := i6
  have hf : ab_fits [0, 18, 19, 26] [101, 101, 111, 114, 128, gp kc + 100, 120, 121, 127] [c7 4 5 6 7 101 8 (nI kc) 9, .inr (6, [.ref 102, .ref 103, .ref 12, .int dg]), .inr (1, [.ref 10, .int (nI n), .int (nI m), .int hs', .int ro', .ref 11]), cI 8 Nn] w := by
    unfold ab_fits
    simp only [List.map_cons, List.map_nil]
    rw [show w[0]? = _ from i2, b1, b2, b6]
    rfl
  refine ⟨_, _, _, [.ref 100, .int b], _, con_named d 4 5 6 7 8 9 (nI kc) dg b n c4 (nI m) hs' ro' Nn 10 11 12, hf, by decide, rfl, fun w' v h => by rw [h.1], fun w' v h => ?_⟩
  obtain ⟨rfl, rfl⟩ := h
  rw [hf.same]
  refine ⟨CPost_same hI, ?_⟩
  show some (Value.int _) = _
  by_cases q : 1 ≤ b.toInt ∧ b.toInt ≤ n
  · rw [if_pos q, if_pos q, c7' _ (by omega)]
  · rw [if_neg q, if_neg q]
theorem cal_form (d : Nat) (i q : Int32) (hI : CInv w kc gp bp bn nbs nts ks n m N K) : Cal mX7_form (d + 2) w [.ref 100, .int i, .int q] (fun w1 v => CPost w kc gp nbs nts ks n m N K w1 ∧ v = some (.int (if 0 ≤ i.toInt ∧ i.toInt < m ∧ 0 ≤ q.toInt ∧ q.toInt < 3 then pt (K i.toInt.toNat) q.toInt.toNat else 0))) := by
  obtain ⟨i1, i2, _, _, i5, i6, _, i8⟩ := id hI
  obtain ⟨I, La, fd, P, Qb, tr, dg, hs', ro', Kf, cv', RF, Nn, Dg, gI, gP, gQ, ⟨a1, a2, a3, a4, a5, a6, a7⟩, ⟨b1, b2, b3, b4, b5, b6, b7⟩, c1, c2, c3, c4, c5, c6, c7', c8⟩ := i6
  have hf : ab_fits [0, 18, 19, 20] [101, 101, 111, 114, 128, gp kc + 100, 121, 126, 127] [c7 4 5 6 7 101 8 (nI kc) 9, .inr (6, [.ref 102, .ref 11, .ref 12, .int dg]), .inr (1, [.ref 103, .int (nI n), .int (nI m), .int hs', .int ro', .ref 10]), cI 40 Kf] w := by
    unfold ab_fits
    simp only [List.map_cons, List.map_nil]
    rw [show w[0]? = _ from i2, b1, b2, b3]
    rfl
  refine ⟨_, _, _, [.ref 100, .int i, .int q], _, con_form d 4 5 6 7 8 9 (nI kc) dg i q m c5 (nI n) hs' ro' Kf K c6 10 11 12, hf, by decide, rfl, fun w' v h => by rw [h.1], fun w' v h => ?_⟩
  obtain ⟨rfl, rfl⟩ := h
  rw [hf.same]
  exact ⟨CPost_same hI, rfl⟩
end CL2
