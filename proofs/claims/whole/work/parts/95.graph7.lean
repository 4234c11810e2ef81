/-! blank, triple, drop, triples, blanks of the class, by facts. -/
/-- the graph's own two cells anew -/
theorem CInv_g {w w1 : List ab_C} {kc : Nat} {gp bp : Nat → Nat} {bn : Nat} {nbs nts nbs' nts' : Nat → Nat} {ks ks' : Nat → Nat → Nat} {n m : Nat} {N K : Nat → Nat} (hI : CInv w kc gp bp bn nbs nts ks n m N K) (hnb : ∀ a, a < kc → nbs' a = nbs a ∧ nts' a = nts a ∧ ks' a = ks a) {hs ro : Int32} {Kk : Nat → Int32} (hg : GrA w1 (gp kc) (bp kc) (nbs' kc) (nts' kc) hs ro Kk) (hout : ∀ i, i ≠ gp kc → i ≠ gp kc + 1 → w1[i]? = w[i]?) (h8 : nbs' kc ≤ 8) (h40 : nts' kc ≤ 40) (hkk : keysOk Kk (ks' kc) (nts' kc) (nbs' kc)) (hri : ∀ i j, i < j → j < nts' kc → Kk i < Kk j) (hHS : ∀ (cB : Int32) (FB b1 b2 b3 : Nat → Int32), BlA w (bp kc) cB FB b1 b2 b3 → (∃ hs0 ro0 K0, GrA w (gp kc) (bp kc) (nbs kc) (nts kc) hs0 ro0 K0 ∧ HS hs0 ro0 cB (nbs kc) (nts kc) (ks kc) FB b1 b2 b3) → HS hs ro cB (nbs' kc) (nts' kc) (ks' kc) FB b1 b2 b3) : CInv w1 kc gp bp bn nbs' nts' ks' n m N K := by
  obtain ⟨i1, i2, ⟨s, len, D, hh⟩, ⟨cX, FX, X1, X2, X3, hX⟩, i5, i6, i7, i8⟩ := id hI
  obtain ⟨hs0, ro0, K0, cY, FY, Y1, Y2, Y3, hg0, hY, g8, g40, hkk0, hri0, hHS0⟩ := i5 kc (Nat.le_refl _)
  obtain ⟨z1, z2, z3, z4, z5, z6, z7, z8⟩ := id i8
  have a1 := z1 kc (Nat.le_refl _)
  have a2 := z2 kc (Nat.le_refl _)
  have a4 := z8 kc (Nat.le_refl _)
  have a5 := z6 kc kc (Nat.le_refl _) (Nat.le_refl _)
  have lo : ∀ i, i < 29 → w1[i]? = w[i]? := fun i hi => hout i (by omega) (by omega)
  refine CInv_mk hI i8 (fun _ _ => rfl) hnb (at_congr (lo 0 (by omega)) i2) ⟨s, len, D, at_congr (lo _ (by omega)) hh.1, at_congr (lo _ (by omega)) hh.2.1, at_congr (lo _ (by omega)) hh.2.2.1, at_congr (lo _ (by omega)) hh.2.2.2.1, at_congr (lo _ (by omega)) hh.2.2.2.2⟩ ⟨cX, FX, X1, X2, X3, at_congr (hout _ (by omega) (by omega)) hX.1, at_congr (hout _ (by omega) (by omega)) hX.2.1, at_congr (hout _ (by omega) (by omega)) hX.2.2.1, at_congr (hout _ (by omega) (by omega)) hX.2.2.2.1, at_congr (hout _ (by omega) (by omega)) hX.2.2.2.2⟩ ⟨hs, ro, Kk, cY, FY, Y1, Y2, Y3, hg, ⟨at_congr (hout _ (by omega) (by omega)) hY.1, at_congr (hout _ (by omega) (by omega)) hY.2.1, at_congr (hout _ (by omega) (by omega)) hY.2.2.1, at_congr (hout _ (by omega) (by omega)) hY.2.2.2.1, at_congr (hout _ (by omega) (by omega)) hY.2.2.2.2⟩, h8, h40, hkk, hri, hHS cY FY Y1 Y2 Y3 hY ⟨hs0, ro0, K0, hg0, hHS0⟩⟩ (LatA_out (fun i hi => lo i (by omega)) i6) (lo 28 (by omega)) (fun a ha i hi => ?_)
  have b3 := z4 a kc (by omega) (Nat.le_refl _) (by omega)
  have b6 := z6 kc a (Nat.le_refl _) (by omega)
  exact hout i (by omega) (by omega)
theorem CPost_same {w : List ab_C} {kc : Nat} {gp bp : Nat → Nat} {bn : Nat} {nbs nts : Nat → Nat} {ks : Nat → Nat → Nat} {n m : Nat} {N K : Nat → Nat} (hI : CInv w kc gp bp bn nbs nts ks n m N K) : CPost w kc gp nbs nts ks n m N K w := ⟨⟨bp, bn, hI⟩, fun _ _ => rfl, rfl⟩
abbrev FO8 (g b : Nat) : List Nat := [101, 101, 111, 114, 118, 128, g + 1 + 100, b + 100]
set_option maxRecDepth 20000 in
theorem gfit2 {w : List ab_C} {kc g b nb nt : Nat} {hs ro : Int32} {K : Nat → Int32} (h7 : C7A w kc g) (hg : GrA w g b nb nt hs ro K) : ab_fits [0, g] (FO8 g b) [c7 4 5 6 7 8 9 (nI kc) 101, .inr (1, [.ref 10, .int (nI nb), .int (nI nt), .int hs, .int ro, .ref 11])] w := by
  unfold ab_fits
  simp only [List.map_cons, List.map_nil]
  rw [show w[0]? = _ from h7, hg.1]
  rfl
set_option maxRecDepth 20000 in
theorem gfit3 {w : List ab_C} {kc g b nb nt : Nat} {hs ro : Int32} {K : Nat → Int32} (h7 : C7A w kc g) (hg : GrA w g b nb nt hs ro K) : ab_fits [0, g, g + 1] [101, 101, 111, 114, 118, 128, b + 100] [c7 4 5 6 7 8 9 (nI kc) 101, cG 102 nb nt hs ro (.ref 10), cI 40 K] w := by
  unfold ab_fits
  simp only [List.map_cons, List.map_nil]
  rw [show w[0]? = _ from h7, hg.1, hg.2]
  rfl
section CL
variable {w : List ab_C} {kc : Nat} {gp bp : Nat → Nat} {bn : Nat} {nbs nts : Nat → Nat} {ks : Nat → Nat → Nat} {n m : Nat} {N K : Nat → Nat}
theorem nd2 {g : Nat} (h : g = 29 ∨ 56 ≤ g) : ([0, g] : List Nat).Nodup := by
  simp
  omega
theorem nd3 {g : Nat} (h : g = 29 ∨ 56 ≤ g) : ([0, g, g + 1] : List Nat).Nodup := by
  simp
  omega
theorem cal_triples (d : Nat) (hI : CInv w kc gp bp bn nbs nts ks n m N K) : Cal mX7_triples d w [.ref 100] (fun w1 v => CPost w kc gp nbs nts ks n m N K w1 ∧ v = some (.int (nI (nts kc)))) := by
  obtain ⟨i1, i2, _, _, i5, _, _, i8⟩ := id hI
  obtain ⟨hs, ro, Kk, cY, FY, Y1, Y2, Y3, hg, hY, g8, g40, hkk, hri, hHS⟩ := i5 kc (Nat.le_refl _)
  have hf := gfit2 i2 hg
  refine ⟨[0, gp kc], FO8 (gp kc) (bp kc), _, [.ref 100], _, con_triples d 4 5 6 7 8 9 (nI kc) (nI (nbs kc)) (nI (nts kc)) hs ro 10 11, hf, nd_of (nd2 (i8.1 kc (Nat.le_refl _))), rfl, fun w' v h => by rw [h.1], fun w' v h => ?_⟩
  obtain ⟨rfl, rfl⟩ := h
  rw [hf.same]
  exact ⟨CPost_same hI, rfl⟩
theorem cal_blanks (d : Nat) (hI : CInv w kc gp bp bn nbs nts ks n m N K) : Cal mX7_blanks d w [.ref 100] (fun w1 v => CPost w kc gp nbs nts ks n m N K w1 ∧ v = some (.int (nI (nbs kc)))) := by
  obtain ⟨i1, i2, _, _, i5, _, _, i8⟩ := id hI
  obtain ⟨hs, ro, Kk, cY, FY, Y1, Y2, Y3, hg, hY, g8, g40, hkk, hri, hHS⟩ := i5 kc (Nat.le_refl _)
  have hf := gfit2 i2 hg
  refine ⟨[0, gp kc], FO8 (gp kc) (bp kc), _, [.ref 100], _, con_blanks d 4 5 6 7 8 9 (nI kc) (nI (nbs kc)) (nI (nts kc)) hs ro 10 11, hf, nd_of (nd2 (i8.1 kc (Nat.le_refl _))), rfl, fun w' v h => by rw [h.1], fun w' v h => ?_⟩
  obtain ⟨rfl, rfl⟩ := h
  rw [hf.same]
  exact ⟨CPost_same hI, rfl⟩
theorem keysOk_up {Kk : Nat → Int32} {k : Nat → Nat} {nt nb : Nat} (h : keysOk Kk k nt nb) : keysOk Kk k nt (nb + 1) := fun i hi => ⟨(h i hi).1, (h i hi).2.1, fun p hp => ⟨fun q => by have := ((h i hi).2.2 p hp).1 q; omega, ((h i hi).2.2 p hp).2⟩⟩
theorem cal_blank (d : Nat) (hI : CInv w kc gp bp bn nbs nts ks n m N K) : Cal mX7_blank d w [.ref 100] (fun w1 v => (nbs kc = 8 ∧ CPost w kc gp nbs nts ks n m N K w1 ∧ v = some (.int (-2))) ∨ (nbs kc < 8 ∧ CPost w kc gp (updN nbs kc (nbs kc + 1)) nts ks n m N K w1 ∧ v = some (.int (nI (nbs kc + 1))))) := by
  obtain ⟨i1, i2, _, _, i5, _, _, i8⟩ := id hI
  obtain ⟨hs, ro, Kk, cY, FY, Y1, Y2, Y3, hg, hY, g8, g40, hkk, hri, hHS⟩ := i5 kc (Nat.le_refl _)
  have hf := gfit2 i2 hg
  have hn := nd2 (i8.1 kc (Nat.le_refl _))
  have a1 := i8.1 kc (Nat.le_refl _)
  refine ⟨[0, gp kc], FO8 (gp kc) (bp kc), _, [.ref 100], _, con_blank d 4 5 6 7 8 9 (nI kc) (nbs kc) g8 (nI (nts kc)) hs ro 10 11, hf, nd_of hn, rfl, fun w' v h => by rcases h with ⟨_, h, _⟩ | ⟨_, h, _⟩ <;> rw [h] <;> exact (rfl : (2 : Nat) = 2), fun w' v h => ?_⟩
  rcases h with ⟨h1, rfl, rfl⟩ | ⟨h1, rfl, rfl⟩
  · rw [hf.same]
    exact Or.inl ⟨by omega, CPost_same hI, rfl⟩
  · refine Or.inr ⟨h1, ⟨⟨bp, bn, ?_⟩, fun i hi => put_out (by simp; omega), ab_put_len _ _ _⟩, rfl⟩
    have u : updN nbs kc (nbs kc + 1) kc = nbs kc + 1 := updN_s
    refine CInv_g (hs := 0) (ro := ro) (Kk := Kk) hI (fun a ha => ⟨updN_n (by omega), rfl, rfl⟩) ⟨?_, ?_⟩ (fun i h2 h3 => ?_) (by rw [u]; omega) g40 (by rw [u]; exact keysOk_up hkk) hri (fun _ _ _ _ _ _ _ => Or.inl rfl)
    · rw [u]
      exact put_in (j := 1) hn rfl (at_lt hg.1) rfl
    · rw [put_out (by simp)]; exact hg.2
    · by_cases e : i = 0
      · rw [e]
        exact (put_in (j := 0) hn rfl (at_lt i2) rfl).trans (show w[0]? = _ from i2).symm
      · exact put_out (by simp; omega)
theorem ptB_isPt {nb : Nat} {x : Int32} : ptB nb x = true ↔ isPt nb x := by
  unfold ptB isPt
  rw [decide_eq_true_eq]
  split <;> omega
/-- keys out of a rising row -/
theorem keys_of {g : Nat → Int32} {nt nb : Nat} {k0 : Nat → Nat} {n0 : Nat} {X : Nat} (hk0 : keyN_ k0 n0 nb) (hX : keyK X nb) (h : ∀ i, i < nt → g i = nI X ∨ ∃ j, j < n0 ∧ g i = nI (k0 j)) : keysOk g (fun i => uw (g i)) nt nb := by
  intro i hi
  have : ∃ Y, keyK Y nb ∧ g i = nI Y := by
    rcases h i hi with e | ⟨j, hj, e⟩
    · exact ⟨X, hX, e⟩
    · exact ⟨k0 j, hk0 j hj, e⟩
  obtain ⟨Y, hY, e⟩ := this
  have hu : uw (g i) = Y := by rw [e]; exact uw_nI (by have := hY.1; omega)
  show g i = nI (uw (g i)) ∧ uw (g i) < 2 ^ 30 ∧ ∀ p, p < 3 → (kp (uw (g i)) p < 8 → 7 - kp (uw (g i)) p < nb) ∧ kp (uw (g i)) p < 1009
  rw [hu]
  exact ⟨e, hY.1, fun p hp => ⟨(hY.2 p hp).2, (hY.2 p hp).1⟩⟩
theorem keysOk_N {Kk : Nat → Int32} {k : Nat → Nat} {nt nb : Nat} (h : keysOk Kk k nt nb) : keyN_ k nt nb := fun i hi => ⟨(h i hi).2.1, fun p hp => ⟨((h i hi).2.2 p hp).2, ((h i hi).2.2 p hp).1⟩⟩
theorem pq_kp {nb : Nat} {s p o : Int32} (hnb : nb ≤ 8) (h1 : ptB nb s = true) (h2 : ptB nb p = true) (h3 : ptB nb o = true) : keyK (keyN s p o) nb ∧ kp (keyN s p o) 0 = pq s ∧ kp (keyN s p o) 1 = pq p ∧ kp (keyN s p o) 2 = pq o := by
  have b : ∀ x, ptB nb x = true → pq x < 1009 ∧ (pq x < 8 → 7 - pq x < nb) ∧ pq x ≠ 8 := fun x h => by
    unfold ptB at h
    have h := of_decide_eq_true h
    unfold pq
    omega
  obtain ⟨s1, s2, _⟩ := b s h1
  obtain ⟨p1, p2, _⟩ := b p h2
  obtain ⟨o1, o2, _⟩ := b o h3
  have e0 : kp (keyN s p o) 0 = pq s := by unfold kp keyN; simp; omega
  have e1 : kp (keyN s p o) 1 = pq p := by unfold kp keyN; simp; omega
  have e2 : kp (keyN s p o) 2 = pq o := by unfold kp keyN; simp; omega
  refine ⟨⟨by unfold keyN; omega, fun pl hp => ?_⟩, e0, e1, e2⟩
  match pl, hp with
  | 0, _ => rw [e0]; exact ⟨s1, s2⟩
  | 1, _ => rw [e1]; exact ⟨p1, p2⟩
  | 2, _ => rw [e2]; exact ⟨o1, o2⟩
def updK (ks : Nat → Nat → Nat) (kc : Nat) (k : Nat → Nat) : Nat → Nat → Nat := fun a => if a = kc then k else ks a
theorem updK_s {ks : Nat → Nat → Nat} {kc : Nat} {k : Nat → Nat} : updK ks kc k kc = k := if_pos rfl
theorem updK_n {ks : Nat → Nat → Nat} {kc a : Nat} {k : Nat → Nat} (h : a ≠ kc) : updK ks kc k a = ks a := if_neg h
theorem in_nI {f : Nat → Int32} {k : Nat → Nat} {nt nb X : Nat} (hk : keysOk f k nt nb) (hX : X < 2 ^ 30) : (∃ i, i < nt ∧ f i = nI X) ↔ ∃ i, i < nt ∧ k i = X := by
  constructor
  · rintro ⟨i, hi, e⟩
    rw [(hk i hi).1] at e
    exact ⟨i, hi, nI_inj30 (hk i hi).2.1 hX e⟩
  · rintro ⟨i, hi, e⟩
    exact ⟨i, hi, by rw [(hk i hi).1, e]⟩
set_option maxHeartbeats 1000000 in
theorem cal_triple (d : Nat) (s p o : Int32) (hI : CInv w kc gp bp bn nbs nts ks n m N K) : Cal mX7_triple (d + 2) w [.ref 100, .int s, .int p, .int o] (fun w1 v => ((¬ (isPt (nbs kc) s ∧ isPt (nbs kc) p ∧ isPt (nbs kc) o)) ∧ CPost w kc gp nbs nts ks n m N K w1 ∧ v = some (.int (-1))) ∨ ((isPt (nbs kc) s ∧ isPt (nbs kc) p ∧ isPt (nbs kc) o) ∧ (((∃ i, i < nts kc ∧ ks kc i = keyN s p o) ∧ CPost w kc gp nbs nts ks n m N K w1 ∧ v = some (.int 0)) ∨ ((¬ ∃ i, i < nts kc ∧ ks kc i = keyN s p o) ∧ ((nts kc = 40 ∧ CPost w kc gp nbs nts ks n m N K w1 ∧ v = some (.int (-2))) ∨ (nts kc < 40 ∧ ∃ k', CPost w kc gp nbs (updN nts kc (nts kc + 1)) (updK ks kc k') n m N K w1 ∧ (∀ x, (∃ i, i < nts kc + 1 ∧ k' i = x) ↔ x = keyN s p o ∨ ∃ i, i < nts kc ∧ ks kc i = x) ∧ (∀ i j, i < j → j < nts kc + 1 → k' i ≠ k' j) ∧ v = some (.int 1))))))) := by
  obtain ⟨i1, i2, _, _, i5, _, _, i8⟩ := id hI
  obtain ⟨hs, ro, Kk, cY, FY, Y1, Y2, Y3, hg, hY, g8, g40, hkk, hri, hHS⟩ := i5 kc (Nat.le_refl _)
  have hf := gfit3 i2 hg
  have a1 := i8.1 kc (Nat.le_refl _)
  have hn := nd3 a1
  have hpt : (ptB (nbs kc) s && ptB (nbs kc) p && ptB (nbs kc) o) = true ↔ (isPt (nbs kc) s ∧ isPt (nbs kc) p ∧ isPt (nbs kc) o) := by rw [Bool.and_eq_true, Bool.and_eq_true, ptB_isPt, ptB_isPt, ptB_isPt]; exact ⟨fun h => ⟨h.1.1, h.1.2, h.2⟩, fun h => ⟨⟨h.1, h.2.1⟩, h.2.2⟩⟩
  refine ⟨[0, gp kc, gp kc + 1], _, _, [.ref 100, .int s, .int p, .int o], _, con_triple d 4 5 6 7 8 9 (nI kc) (nbs kc) (nts kc) g8 g40 s p o hs ro 10 Kk hri, hf, nd_of hn, rfl, fun w' v h => ?_, fun w' v h => ?_⟩
  · rcases h with ⟨_, h, _⟩ | ⟨_, _, h, _⟩ | ⟨_, _, _, h, _⟩ | ⟨_, _, _, _, h, _⟩ <;> rw [h] <;> exact (rfl : (3 : Nat) = 3)
  rcases h with ⟨h0, rfl, rfl⟩ | ⟨h0, h1, rfl, rfl⟩ | ⟨h0, h1, h2, rfl, rfl⟩ | ⟨h0, h1, h2, g, rfl, h4, h5, rfl⟩
  · rw [hf.same]
    exact Or.inl ⟨fun q => by rw [hpt.mpr q] at h0; exact absurd h0 (by decide), CPost_same hI, rfl⟩
  all_goals
    have hpp := hpt.mp h0
    have hK := (pq_kp g8 (ptB_isPt.mpr hpp.1) (ptB_isPt.mpr hpp.2.1) (ptB_isPt.mpr hpp.2.2)).1
  · rw [hf.same]
    exact Or.inr ⟨hpp, Or.inl ⟨(in_nI hkk hK.1).mp h1, CPost_same hI, rfl⟩⟩
  · rw [hf.same]
    exact Or.inr ⟨hpp, Or.inr ⟨fun q => h1 ((in_nI hkk hK.1).mpr q), Or.inl ⟨by omega, CPost_same hI, rfl⟩⟩⟩
  · have hko : keysOk g (fun i => uw (g i)) (nts kc + 1) (nbs kc) := keys_of (keysOk_N hkk) hK (fun i hi => by
      rcases (h5 (g i)).mp ⟨i, hi, rfl⟩ with q | ⟨j, hj, q⟩
      · exact Or.inl q
      · exact Or.inr ⟨j, hj, by rw [← q, (hkk j hj).1]⟩)
    refine Or.inr ⟨hpp, Or.inr ⟨fun q => h1 ((in_nI hkk hK.1).mpr q), Or.inr ⟨h2, fun i => uw (g i), ⟨⟨bp, bn, ?_⟩, fun i hi => put_out (by simp; omega), ab_put_len _ _ _⟩, fun x => ?_, fun i j hij hj e => ?_, rfl⟩⟩⟩
    · have u : updN nts kc (nts kc + 1) kc = nts kc + 1 := updN_s
      refine CInv_g (hs := 0) (ro := ro) (Kk := g) hI (fun a ha => ⟨rfl, updN_n (by omega), updK_n (by omega)⟩) ⟨?_, ?_⟩ (fun i h2 h3 => ?_) g8 (by rw [u]; omega) (by rw [u, updK_s]; exact hko) (by rw [u]; exact h4) (fun _ _ _ _ _ _ _ => Or.inl rfl)
      · rw [u]
        exact put_in (j := 1) hn rfl (at_lt hg.1) rfl
      · exact put_in (j := 2) hn rfl (at_lt hg.2) rfl
      · by_cases e : i = 0
        · rw [e]
          exact (put_in (j := 0) hn rfl (at_lt i2) rfl).trans (show w[0]? = _ from i2).symm
        · exact put_out (by simp; omega)
    · constructor
      · rintro ⟨i, hi, e⟩
        have e : uw (g i) = x := e
        have eg : g i = nI x := by rw [← e, nI_uw]
        rcases (h5 (g i)).mp ⟨i, hi, rfl⟩ with q | ⟨j, hj, q⟩
        · exact Or.inl (by rw [← e, q]; exact uw_nI (by have := hK.1; omega))
        · exact Or.inr ⟨j, hj, by rw [← e, ← q, (hkk j hj).1]; exact (uw_nI (by have := (hkk j hj).2.1; omega)).symm⟩
      · rintro (e | ⟨j, hj, e⟩)
        · obtain ⟨i, hi, q⟩ := (h5 (nI (keyN s p o))).mpr (Or.inl rfl)
          exact ⟨i, hi, by show uw (g i) = x; rw [q, e]; exact uw_nI (by have := hK.1; omega)⟩
        · obtain ⟨i, hi, q⟩ := (h5 (Kk j)).mpr (Or.inr ⟨j, hj, rfl⟩)
          exact ⟨i, hi, by show uw (g i) = x; rw [q, (hkk j hj).1, e]; exact uw_nI (by have := (hkk j hj).2.1; omega)⟩
    · have e : uw (g i) = uw (g j) := e
      have := h4 i j hij hj
      rw [uw_inj e] at this
      exact absurd this (Int32.lt_irrefl)
end CL
