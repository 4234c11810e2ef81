/-! rounds, hash, first of the class, by facts. -/
abbrev IS18 (x g b : Nat) : List Nat := [0, 1, 2, 3, 4, 5, x, x + 1, x + 2, x + 3, x + 4, g, g + 1, b, b + 1, b + 2, b + 3, b + 4]
abbrev FO4 : List Nat := [111, 114, 118, 128]
set_option maxRecDepth 20000 in
theorem vput1 {w : List ab_C} {kc g b x nb nt : Nat} {s : SS} {len hs ro cX cY : Int32} {D K FX X1 X2 X3 FY Y1 Y2 Y3 : Nat → Int32} (hn : (IS18 x g b).Nodup) (h7 : C7A w kc g) (hh : HaA w x s len D) (hg : GrA w g b nb nt hs ro K) (hX : BlA w x cX FX X1 X2 X3) (hY : BlA w b cY FY Y1 Y2 Y3) (s2 : SS) (len2 hs2 ro2 cX2 cY2 : Int32) (D2 K2 E e1 e2 e3 F f1 f2 f3 : Nat → Int32) (nb2 nt2 : Nat) : C7A (ab_put w (IS18 x g b) ((vW 106 113 4 5 6 7 (nI kc) s2 len2 D2 cX2 E e1 e2 e3 nb2 nt2 hs2 ro2 K2 cY2 F f1 f2 f3).map (ab_rc (ab_rho (IS18 x g b) FO4 w.length)))) kc g ∧ HaA (ab_put w (IS18 x g b) ((vW 106 113 4 5 6 7 (nI kc) s2 len2 D2 cX2 E e1 e2 e3 nb2 nt2 hs2 ro2 K2 cY2 F f1 f2 f3).map (ab_rc (ab_rho (IS18 x g b) FO4 w.length)))) x s2 len2 D2 ∧ GrA (ab_put w (IS18 x g b) ((vW 106 113 4 5 6 7 (nI kc) s2 len2 D2 cX2 E e1 e2 e3 nb2 nt2 hs2 ro2 K2 cY2 F f1 f2 f3).map (ab_rc (ab_rho (IS18 x g b) FO4 w.length)))) g b nb2 nt2 hs2 ro2 K2 ∧ BlA (ab_put w (IS18 x g b) ((vW 106 113 4 5 6 7 (nI kc) s2 len2 D2 cX2 E e1 e2 e3 nb2 nt2 hs2 ro2 K2 cY2 F f1 f2 f3).map (ab_rc (ab_rho (IS18 x g b) FO4 w.length)))) x cX2 E e1 e2 e3 ∧ BlA (ab_put w (IS18 x g b) ((vW 106 113 4 5 6 7 (nI kc) s2 len2 D2 cX2 E e1 e2 e3 nb2 nt2 hs2 ro2 K2 cY2 F f1 f2 f3).map (ab_rc (ab_rho (IS18 x g b) FO4 w.length)))) b cY2 F f1 f2 f3 :=
  ⟨put_in (j := 0) hn rfl (at_lt h7) rfl, ⟨put_in (j := 1) hn rfl (at_lt hh.1) rfl, put_in (j := 2) hn rfl (at_lt hh.2.1) rfl, put_in (j := 3) hn rfl (at_lt hh.2.2.1) rfl, put_in (j := 4) hn rfl (at_lt hh.2.2.2.1) rfl, put_in (j := 5) hn rfl (at_lt hh.2.2.2.2) rfl⟩, ⟨put_in (j := 11) hn rfl (at_lt hg.1) rfl, put_in (j := 12) hn rfl (at_lt hg.2) rfl⟩, ⟨put_in (j := 6) hn rfl (at_lt hX.1) rfl, put_in (j := 7) hn rfl (at_lt hX.2.1) rfl, put_in (j := 8) hn rfl (at_lt hX.2.2.1) rfl, put_in (j := 9) hn rfl (at_lt hX.2.2.2.1) rfl, put_in (j := 10) hn rfl (at_lt hX.2.2.2.2) rfl⟩, ⟨put_in (j := 13) hn rfl (at_lt hY.1) rfl, put_in (j := 14) hn rfl (at_lt hY.2.1) rfl, put_in (j := 15) hn rfl (at_lt hY.2.2.1) rfl, put_in (j := 16) hn rfl (at_lt hY.2.2.2.1) rfl, put_in (j := 17) hn rfl (at_lt hY.2.2.2.2) rfl⟩⟩
set_option maxRecDepth 20000 in
theorem vput2 {w : List ab_C} {kc g b x nb nt : Nat} {s : SS} {len hs ro cX cY : Int32} {D K FX X1 X2 X3 FY Y1 Y2 Y3 : Nat → Int32} (hn : (IS18 x g b).Nodup) (h7 : C7A w kc g) (hh : HaA w x s len D) (hg : GrA w g b nb nt hs ro K) (hX : BlA w x cX FX X1 X2 X3) (hY : BlA w b cY FY Y1 Y2 Y3) (s2 : SS) (len2 hs2 ro2 cX2 cY2 : Int32) (D2 K2 E e1 e2 e3 F f1 f2 f3 : Nat → Int32) (nb2 nt2 : Nat) : C7A (ab_put w (IS18 x g b) ((vW 113 106 4 5 6 7 (nI kc) s2 len2 D2 cX2 E e1 e2 e3 nb2 nt2 hs2 ro2 K2 cY2 F f1 f2 f3).map (ab_rc (ab_rho (IS18 x g b) FO4 w.length)))) kc g ∧ HaA (ab_put w (IS18 x g b) ((vW 113 106 4 5 6 7 (nI kc) s2 len2 D2 cX2 E e1 e2 e3 nb2 nt2 hs2 ro2 K2 cY2 F f1 f2 f3).map (ab_rc (ab_rho (IS18 x g b) FO4 w.length)))) b s2 len2 D2 ∧ GrA (ab_put w (IS18 x g b) ((vW 113 106 4 5 6 7 (nI kc) s2 len2 D2 cX2 E e1 e2 e3 nb2 nt2 hs2 ro2 K2 cY2 F f1 f2 f3).map (ab_rc (ab_rho (IS18 x g b) FO4 w.length)))) g x nb2 nt2 hs2 ro2 K2 ∧ BlA (ab_put w (IS18 x g b) ((vW 113 106 4 5 6 7 (nI kc) s2 len2 D2 cX2 E e1 e2 e3 nb2 nt2 hs2 ro2 K2 cY2 F f1 f2 f3).map (ab_rc (ab_rho (IS18 x g b) FO4 w.length)))) x cX2 E e1 e2 e3 ∧ BlA (ab_put w (IS18 x g b) ((vW 113 106 4 5 6 7 (nI kc) s2 len2 D2 cX2 E e1 e2 e3 nb2 nt2 hs2 ro2 K2 cY2 F f1 f2 f3).map (ab_rc (ab_rho (IS18 x g b) FO4 w.length)))) b cY2 F f1 f2 f3 :=
  ⟨put_in (j := 0) hn rfl (at_lt h7) rfl, ⟨put_in (j := 1) hn rfl (at_lt hh.1) rfl, put_in (j := 2) hn rfl (at_lt hh.2.1) rfl, put_in (j := 3) hn rfl (at_lt hh.2.2.1) rfl, put_in (j := 4) hn rfl (at_lt hh.2.2.2.1) rfl, put_in (j := 5) hn rfl (at_lt hh.2.2.2.2) rfl⟩, ⟨put_in (j := 11) hn rfl (at_lt hg.1) rfl, put_in (j := 12) hn rfl (at_lt hg.2) rfl⟩, ⟨put_in (j := 6) hn rfl (at_lt hX.1) rfl, put_in (j := 7) hn rfl (at_lt hX.2.1) rfl, put_in (j := 8) hn rfl (at_lt hX.2.2.1) rfl, put_in (j := 9) hn rfl (at_lt hX.2.2.2.1) rfl, put_in (j := 10) hn rfl (at_lt hX.2.2.2.2) rfl⟩, ⟨put_in (j := 13) hn rfl (at_lt hY.1) rfl, put_in (j := 14) hn rfl (at_lt hY.2.1) rfl, put_in (j := 15) hn rfl (at_lt hY.2.2.1) rfl, put_in (j := 16) hn rfl (at_lt hY.2.2.2.1) rfl, put_in (j := 17) hn rfl (at_lt hY.2.2.2.2) rfl⟩⟩
theorem Sep_swap {kc : Nat} {gp bp : Nat → Nat} {bn : Nat} (h : Sep kc gp bp bn) : Sep kc gp (updN bp kc bn) (bp kc) := by
  obtain ⟨h1, h2, h3, h4, h5, h6, h7, h8⟩ := h
  have u : ∀ a, updN bp kc bn a = if a = kc then bn else bp a := fun a => rfl
  refine ⟨h1, fun a ha => ?_, h2 kc (Nat.le_refl _), h4, fun a c ha hc hne => ?_, fun a c ha hc => ?_, fun a ha => ?_, fun a ha => h6 a kc ha (Nat.le_refl _)⟩
  · rw [u]
    split
    · exact h3
    · exact h2 a ha
  · rw [u, u]
    split
    · rw [if_neg (by omega)]; exact h7 c hc
    · split
      · have := h7 a ha; omega
      · exact h5 a c ha hc hne
  · rw [u]
    split
    · exact h8 a ha
    · exact h6 a c ha hc
  · rw [u]
    split
    · have := h7 kc (Nat.le_refl _); omega
    · exact h5 kc a (Nat.le_refl _) ha (by omega)
/-- the current graph, hasher and next block anew; the rest as it was -/
theorem CInv_mk {w w1 : List ab_C} {kc : Nat} {gp bp bp' : Nat → Nat} {bn bn' : Nat} {nbs nts nbs' nts' : Nat → Nat} {ks ks' : Nat → Nat → Nat} {n m : Nat} {N K : Nat → Nat} (hI : CInv w kc gp bp bn nbs nts ks n m N K) (hS : Sep kc gp bp' bn') (hb : ∀ a, a < kc → bp' a = bp a) (hnb : ∀ a, a < kc → nbs' a = nbs a ∧ nts' a = nts a ∧ ks' a = ks a) (h7 : C7A w1 kc (gp kc)) (hH : ∃ s len D, HaA w1 bn' s len D) (hB : ∃ ce E e1 e2 e3, BlA w1 bn' ce E e1 e2 e3) (hG : GOk w1 (gp kc) (bp' kc) (nbs' kc) (nts' kc) (ks' kc)) (hlat : LatA w1 n m N K) (h28 : w1[28]? = w[28]?) (hoth : ∀ a, a < kc → ∀ i, (gp a ≤ i ∧ i < gp a + 2) ∨ (bp a ≤ i ∧ i < bp a + 5) → w1[i]? = w[i]?) : CInv w1 kc gp bp' bn' nbs' nts' ks' n m N K := by
  obtain ⟨h1, _, _, _, h5, _, h7', _⟩ := hI
  refine ⟨h1, h7, hH, hB, fun a ha => ?_, hlat, at_congr h28 h7', hS⟩
  by_cases e : a = kc
  · rw [e]; exact hG
  · obtain ⟨e1, e2, e3⟩ := hnb a (by omega)
    rw [hb a (by omega), e1, e2, e3]
    exact GOk_out (hoth a (by omega)) (h5 a ha)
theorem nm18 {x g b i : Nat} (h0 : 6 ≤ i) (h1 : i < x ∨ x + 5 ≤ i) (h2 : i < g ∨ g + 2 ≤ i) (h3 : i < b ∨ b + 5 ≤ i) : i ∉ IS18 x g b := by
  intro h
  simp at h
  omega
/-- what a refresh of the current graph leaves -/
theorem CInv_ref {w : List ab_C} {kc : Nat} {gp bp : Nat → Nat} {bn : Nat} {nbs nts : Nat → Nat} {ks : Nat → Nat → Nat} {n m : Nat} {N K : Nat → Nat} (hI : CInv w kc gp bp bn nbs nts ks n m N K) {hs ro : Int32} {Kk : Nat → Int32} {s : SS} {len : Int32} {D : Nat → Int32} {cX cY : Int32} {FX X1 X2 X3 FY Y1 Y2 Y3 : Nat → Int32} (hh : HaA w bn s len D) (hg : GrA w (gp kc) (bp kc) (nbs kc) (nts kc) hs ro Kk) (hX : BlA w bn cX FX X1 X2 X3) (hY : BlA w (bp kc) cY FY Y1 Y2 Y3) (hkk : keysOk Kk (ks kc) (nts kc) (nbs kc)) (hri : ∀ i j, i < j → j < nts kc → Kk i < Kk j) {s2 : SS} {len2 : Int32} {D2 : Nat → Int32} {R : Nat} {F2 f1 f2 f3 E e1 e2 e3 : Nat → Int32} {ce : Int32} {o rk st : Nat → Nat} {cn : Nat} (hHs : Hsh (nbs kc) (nts kc) (ks kc) F2 R) (hGr : grpOk F2 f1 f2 f3 (nbs kc) o rk st cn) {w' : List ab_C} (hq : w' = (vW 106 113 4 5 6 7 (nI kc) s2 len2 D2 ce E e1 e2 e3 (nbs kc) (nts kc) 1 (nI R) Kk (nI cn) F2 f1 f2 f3) ∨ w' = (vW 113 106 4 5 6 7 (nI kc) s2 len2 D2 (nI cn) F2 f1 f2 f3 (nbs kc) (nts kc) 1 (nI R) Kk ce E e1 e2 e3)) : (∃ bp' bn', CInv (ab_put w (IS18 bn (gp kc) (bp kc)) (w'.map (ab_rc (ab_rho (IS18 bn (gp kc) (bp kc)) FO4 w.length)))) kc gp bp' bn' nbs nts ks n m N K) ∧ (∀ i, (36 ≤ i ∧ i < 56) ∨ (i = 22 ∨ i = 23 ∨ i = 25) → (ab_put w (IS18 bn (gp kc) (bp kc)) (w'.map (ab_rc (ab_rho (IS18 bn (gp kc) (bp kc)) FO4 w.length))))[i]? = w[i]?) ∧ (ab_put w (IS18 bn (gp kc) (bp kc)) (w'.map (ab_rc (ab_rho (IS18 bn (gp kc) (bp kc)) FO4 w.length)))).length = w.length := by
  obtain ⟨i1, i2, i3, i4, i5, i6, i7, i8⟩ := id hI
  obtain ⟨z1, z2, z3, z4, z5, z6, z7, z8⟩ := id i8
  have a1 := z1 kc (Nat.le_refl _)
  have a2 := z2 kc (Nat.le_refl _)
  have a3 := z7 kc (Nat.le_refl _)
  have a4 := z8 kc (Nat.le_refl _)
  have a5 := z6 kc kc (Nat.le_refl _) (Nat.le_refl _)
  have hn : (IS18 bn (gp kc) (bp kc)).Nodup := nd18 z3 a1 a2 a3 a4 a5
  obtain ⟨_, _, _, _, _, _, _, _, _, _, g8, g40, _, _, _⟩ := i5 kc (Nat.le_refl _)
  have hmid : ∀ (cs : List ab_C) (i : Nat), (11 ≤ i ∧ i < 29) ∨ (36 ≤ i ∧ i < 56) → (ab_put w (IS18 bn (gp kc) (bp kc)) cs)[i]? = w[i]? := fun cs i hi => put_out (nm18 (by omega) (by omega) (by omega) (by omega))
  have hoth : ∀ (cs : List ab_C) (a : Nat), a < kc → ∀ i, (gp a ≤ i ∧ i < gp a + 2) ∨ (bp a ≤ i ∧ i < bp a + 5) → (ab_put w (IS18 bn (gp kc) (bp kc)) cs)[i]? = w[i]? := fun cs a ha i hi => by
    have b1 := z1 a (by omega)
    have b2 := z2 a (by omega)
    have b3 := z4 a kc (by omega) (Nat.le_refl _) (by omega)
    have b4 := z5 a kc (by omega) (Nat.le_refl _) (by omega)
    have b5 := z6 a kc (by omega) (Nat.le_refl _)
    have b6 := z6 kc a (Nat.le_refl _) (by omega)
    have b7 := z7 a (by omega)
    have b8 := z8 a (by omega)
    exact put_out (nm18 (by omega) (by omega) (by omega) (by omega))
  refine ⟨?_, fun i hi => hmid _ i (by omega), ab_put_len _ _ _⟩
  rcases hq with rfl | rfl
  · obtain ⟨p1, p2, p3, p4, p5⟩ := vput1 hn i2 hh hg hX hY s2 len2 1 (nI R) ce (nI cn) D2 Kk E e1 e2 e3 F2 f1 f2 f3 (nbs kc) (nts kc)
    exact ⟨bp, bn, CInv_mk hI i8 (fun _ _ => rfl) (fun _ _ => ⟨rfl, rfl, rfl⟩) p1 ⟨_, _, _, p2⟩ ⟨_, _, _, _, _, p4⟩ ⟨1, nI R, Kk, nI cn, F2, f1, f2, f3, p3, p5, g8, g40, hkk, hri, Or.inr ⟨rfl, R, o, rk, st, cn, rfl, rfl, hHs, hGr⟩⟩ (LatA_out (fun i hi => hmid _ i (Or.inl (by omega))) i6) (hmid _ 28 (Or.inl (by omega))) (hoth _)⟩
  · obtain ⟨p1, p2, p3, p4, p5⟩ := vput2 hn i2 hh hg hX hY s2 len2 1 (nI R) (nI cn) ce D2 Kk F2 f1 f2 f3 E e1 e2 e3 (nbs kc) (nts kc)
    have u1 : updN bp kc bn kc = bn := updN_s
    refine ⟨updN bp kc bn, bp kc, CInv_mk hI (Sep_swap i8) (fun a ha => updN_n (by omega)) (fun _ _ => ⟨rfl, rfl, rfl⟩) p1 ⟨_, _, _, p2⟩ ⟨_, _, _, _, _, p5⟩ ?_ (LatA_out (fun i hi => hmid _ i (Or.inl (by omega))) i6) (hmid _ 28 (Or.inl (by omega))) (hoth _)⟩
    rw [u1]
    exact ⟨1, nI R, Kk, nI cn, F2, f1, f2, f3, p3, p4, g8, g40, hkk, hri, Or.inr ⟨rfl, R, o, rk, st, cn, rfl, rfl, hHs, hGr⟩⟩
/-- behind a call of the class: its invariant, and the model's cells as they were -/
def CPost (w : List ab_C) (kc : Nat) (gp : Nat → Nat) (nbs nts : Nat → Nat) (ks : Nat → Nat → Nat) (n m : Nat) (N K : Nat → Nat) (w1 : List ab_C) : Prop := (∃ bp' bn', CInv w1 kc gp bp' bn' nbs nts ks n m N K) ∧ (∀ i, (36 ≤ i ∧ i < 56) ∨ (i = 22 ∨ i = 23 ∨ i = 25) → w1[i]? = w[i]?) ∧ w1.length = w.length
theorem cal_rounds {w : List ab_C} {kc : Nat} {gp bp : Nat → Nat} {bn : Nat} {nbs nts : Nat → Nat} {ks : Nat → Nat → Nat} {n m : Nat} {N K : Nat → Nat} (d : Nat) (hI : CInv w kc gp bp bn nbs nts ks n m N K) : Cal mX7_rounds (d + 5) w [.ref 100] (fun w1 v => CPost w kc gp nbs nts ks n m N K w1 ∧ ∃ F R, Hsh (nbs kc) (nts kc) (ks kc) F R ∧ v = some (.int (nI R))) := by
  obtain ⟨i1, i2, ⟨s, len, D, hh⟩, ⟨cX, FX, X1, X2, X3, hX⟩, i5, i6, i7, i8⟩ := id hI
  obtain ⟨hs, ro, Kk, cY, FY, Y1, Y2, Y3, hg, hY, g8, g40, hkk, hri, hHS⟩ := i5 kc (Nat.le_refl _)
  obtain ⟨z1, z2, z3, z4, z5, z6, z7, z8⟩ := id i8
  have hn : (IS18 bn (gp kc) (bp kc)).Nodup := nd18 z3 (z1 kc (Nat.le_refl _)) (z2 kc (Nat.le_refl _)) (z7 kc (Nat.le_refl _)) (z8 kc (Nat.le_refl _)) (z6 kc kc (Nat.le_refl _) (Nat.le_refl _))
  refine ⟨IS18 bn (gp kc) (bp kc), FO4, _, [.ref 100], _, con_rounds d (nbs kc) (nts kc) g8 g40 4 5 6 7 (nI kc) s len hs ro cX cY D FX X1 X2 X3 Kk FY Y1 Y2 Y3 (ks kc) hkk hHS, vfit i2 hh hg hX hY, nd_of hn, rfl, fun w' v h => ?_, fun w' v h => ?_⟩
  · obtain ⟨_, _, _, _, _, _, _, _, _, _, _, _, _, _, _, _, _, _, _, h | h, _⟩ := h <;> rw [h] <;> exact (rfl : (18 : Nat) = 18)
  · obtain ⟨s2, len2, D2, R, F2, f1, f2, f3, E, e1, e2, e3, ce, o, rk, st, cn, hHs, hGr, hq, rfl⟩ := h
    exact ⟨CInv_ref hI hh hg hX hY hkk hri hHs hGr hq, F2, R, hHs, rfl⟩
