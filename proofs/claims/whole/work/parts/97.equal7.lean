/-! equal, isomorphic, ways of the class, by facts. -/
theorem Sep_at {kc t : Nat} {gp bp : Nat → Nat} {bn : Nat} (ht : t ≤ kc) (h : Sep kc gp bp bn) : Sep kc gp (updN bp t bn) (bp t) := by
  obtain ⟨h1, h2, h3, h4, h5, h6, h7, h8⟩ := h
  have u : ∀ a, updN bp t bn a = if a = t then bn else bp a := fun a => rfl
  refine ⟨h1, fun a ha => ?_, h2 t ht, h4, fun a c ha hc hne => ?_, fun a c ha hc => ?_, fun a ha => ?_, fun a ha => h6 a t ha ht⟩
  · rw [u]
    split
    · exact h3
    · exact h2 a ha
  · rw [u, u]
    split
    · rw [if_neg (by omega)]; exact h7 c hc
    · split
      · have := h7 a ha; omega
      · exact h5 a c ha hc hne
  · rw [u]
    split
    · exact h8 a ha
    · exact h6 a c ha hc
  · rw [u]
    split
    · have := h7 t ht; omega
    · exact h5 t a ht ha (by omega)
abbrev FT (a b c d e f : Nat) (gp : Nat → Nat) : List Nat := [a, b, c, d, e, f, gp 0 + 100, gp 1 + 100, gp 2 + 100, gp 3 + 100, gp 4 + 100, gp 5 + 100, gp 6 + 100, gp 7 + 100]
theorem FT_rho (a b c d e f : Nat) (gp : Nat → Nat) (is : List Nat) (n : Nat) : ∀ j, j < 8 → ab_rho is (FT a b c d e f gp) n (10 + j) = gp j + 100
  | 0, _ => rfl
  | 1, _ => rfl
  | 2, _ => rfl
  | 3, _ => rfl
  | 4, _ => rfl
  | 5, _ => rfl
  | 6, _ => rfl
  | 7, _ => rfl
  | j + 8, h => by omega
section CL3
variable {w : List ab_C} {kc : Nat} {gp bp : Nat → Nat} {bn : Nat} {nbs nts : Nat → Nat} {ks : Nat → Nat → Nat} {n m : Nat} {N K : Nat → Nat}
set_option maxRecDepth 20000 in
theorem badfit (hI : CInv w kc gp bp bn nbs nts ks n m N K) : ab_fits [0, 28] (FT 101 101 111 114 118 (gp kc + 100) gp) [c7 4 5 6 7 8 101 (nI kc) 9, .inl (4, 8, .inr (.inr (.inr (.inr (kf (fun j => 10 + j) kc)))))] w := by
  obtain ⟨i1, i2, _, _, i5, _, i7, i8⟩ := id hI
  have e := kf_map (T := fun j => gp j + 100) (kc := kc) (r := ab_rho [0, 28] (FT 101 101 111 114 118 (gp kc + 100) gp) w.length) (S := fun j => 10 + j) (fun j hj => FT_rho _ _ _ _ _ _ gp [0, 28] w.length j (by omega))
  unfold ab_fits
  simp only [List.map_cons, List.map_nil]
  rw [show w[0]? = _ from i2, i7, ← e]
  rfl
theorem cal_isomorphic_bad (d : Nat) (x : Int32) (hI : CInv w kc gp bp bn nbs nts ks n m N K) (hx : ¬ (0 ≤ x.toInt ∧ x.toInt < kc)) : Cal mX7_isomorphic (d + 1) w [.ref 100, .int x] (fun w1 v => CPost w kc gp nbs nts ks n m N K w1 ∧ v = some (.int (-1))) := by
  have hf := badfit hI
  refine ⟨_, _, _, [.ref 100, .int x], _, con_isomorphic_bad d kc hI.1 4 5 6 7 8 9 (fun j => 10 + j) x hx, hf, by decide, rfl, fun w' v h => by rw [h.1], fun w' v h => ?_⟩
  obtain ⟨rfl, rfl⟩ := h
  rw [hf.same]
  exact ⟨CPost_same hI, rfl⟩
theorem cal_ways_bad (d : Nat) (x : Int32) (hI : CInv w kc gp bp bn nbs nts ks n m N K) (hx : ¬ (0 ≤ x.toInt ∧ x.toInt < kc)) : Cal mX7_ways (d + 1) w [.ref 100, .int x] (fun w1 v => CPost w kc gp nbs nts ks n m N K w1 ∧ v = some (.int (-1))) := by
  have hf := badfit hI
  refine ⟨_, _, _, [.ref 100, .int x], _, con_ways_bad d kc hI.1 4 5 6 7 8 9 (fun j => 10 + j) x hx, hf, by decide, rfl, fun w' v h => by rw [h.1], fun w' v h => ?_⟩
  obtain ⟨rfl, rfl⟩ := h
  rw [hf.same]
  exact ⟨CPost_same hI, rfl⟩
theorem cal_equal_bad (d : Nat) (x : Int32) (hI : CInv w kc gp bp bn nbs nts ks n m N K) (hx : ¬ (0 ≤ x.toInt ∧ x.toInt < kc)) : Cal mX7_equal (d + 1) w [.ref 100, .int x] (fun w1 v => CPost w kc gp nbs nts ks n m N K w1 ∧ v = some (.int (-1))) := by
  have hf := badfit hI
  refine ⟨_, _, _, [.ref 100, .int x], _, con_equal_bad d kc hI.1 4 5 6 7 8 9 (fun j => 10 + j) x hx, hf, by decide, rfl, fun w' v h => by rw [h.1], fun w' v h => ?_⟩
  obtain ⟨rfl, rfl⟩ := h
  rw [hf.same]
  exact ⟨CPost_same hI, rfl⟩
set_option maxRecDepth 20000 in
theorem cal_equal (d x : Nat) (hI : CInv w kc gp bp bn nbs nts ks n m N K) (hx : x < kc) : Cal mX7_equal (d + 1) w [.ref 100, .int (nI x)] (fun w1 v => CPost w kc gp nbs nts ks n m N K w1 ∧ (((nbs kc = nbs x ∧ nts kc = nts x ∧ ∀ i, i < nts kc → ks kc i = ks x i) ∧ v = some (.int 1)) ∨ ((¬ (nbs kc = nbs x ∧ nts kc = nts x ∧ ∀ i, i < nts kc → ks kc i = ks x i)) ∧ v = some (.int 0)))) := by
  obtain ⟨i1, i2, _, _, i5, _, i7, i8⟩ := id hI
  obtain ⟨hs, ro, Kk, cY, FY, Y1, Y2, Y3, hg, hY, g8, g40, hkk, hri, hHS⟩ := i5 kc (Nat.le_refl _)
  obtain ⟨hs', ro', Kt, cZ, FZ, Z1, Z2, Z3, hgt, hZ, t8, t40, hkt, hrt, hHt⟩ := i5 x (by omega)
  obtain ⟨z1, z2, z3, z4, z5, z6, z7, z8⟩ := id i8
  have a1 := z1 kc (Nat.le_refl _)
  have a2 := z1 x (by omega)
  have a3 := z4 x kc (by omega) (Nat.le_refl _) (by omega)
  have ex : (nI x).toInt = x := nI_toInt (by omega)
  have exn : (nI x).toInt.toNat = x := by rw [ex]; rfl
  have hr : ∀ j, j < kc → ab_rho [0, 28, gp kc, gp kc + 1, gp x, gp x + 1] (101 :: 101 :: 111 :: 114 :: 118 :: (bp kc + 100) :: (bp x + 100) :: [gp 0 + 100, gp 1 + 100, gp 2 + 100, gp 3 + 100, gp 4 + 100, gp 5 + 100, gp 6 + 100, gp 7 + 100]) w.length (if j = x then 104 else 11 + j) = gp j + 100 := fun j hj => by
    by_cases e : j = x
    · rw [if_pos e, e]; rfl
    · rw [if_neg e]
      match j, (show j < 8 by omega) with
      | 0, _ => rfl
      | 1, _ => rfl
      | 2, _ => rfl
      | 3, _ => rfl
      | 4, _ => rfl
      | 5, _ => rfl
      | 6, _ => rfl
      | 7, _ => rfl
  have e := kf_map (T := fun j => gp j + 100) (kc := kc) (r := ab_rho [0, 28, gp kc, gp kc + 1, gp x, gp x + 1] (101 :: 101 :: 111 :: 114 :: 118 :: (bp kc + 100) :: (bp x + 100) :: [gp 0 + 100, gp 1 + 100, gp 2 + 100, gp 3 + 100, gp 4 + 100, gp 5 + 100, gp 6 + 100, gp 7 + 100]) w.length) (S := fun j => if j = x then 104 else 11 + j) hr
  have hf : ab_fits [0, 28, gp kc, gp kc + 1, gp x, gp x + 1] (101 :: 101 :: 111 :: 114 :: 118 :: (bp kc + 100) :: (bp x + 100) :: [gp 0 + 100, gp 1 + 100, gp 2 + 100, gp 3 + 100, gp 4 + 100, gp 5 + 100, gp 6 + 100, gp 7 + 100]) [c7 4 5 6 7 8 101 (nI kc) 102, .inl (4, 8, .inr (.inr (.inr (.inr (kf (fun j => if j = x then 104 else 11 + j) kc))))), cG 103 (nbs kc) (nts kc) hs ro (.ref 9), cI 40 Kk, cG 105 (nbs x) (nts x) hs' ro' (.ref 10), cI 40 Kt] w := by
    unfold ab_fits
    simp only [List.map_cons, List.map_nil]
    rw [show w[0]? = _ from i2, i7, hg.1, hg.2, hgt.1, hgt.2, ← e]
    rfl
  refine ⟨_, _, _, [.ref 100, .int (nI x)], _, con_equal d kc (nbs kc) (nts kc) (nbs x) (nts x) i1 g8 g40 t8 t40 4 5 6 7 8 9 10 (fun j => if j = x then 104 else 11 + j) (nI x) hs ro hs' ro' Kk Kt (by rw [ex]; omega) (by rw [exn]; exact if_pos rfl), hf, nd_of ?_, rfl, fun w' v h => by rw [h.1], fun w' v h => ?_⟩
  · simp
    omega
  obtain ⟨rfl, h⟩ := h
  rw [hf.same]
  refine ⟨CPost_same hI, ?_⟩
  have hkq : nts kc = nts x → ((∀ i, i < nts kc → Kk i = Kt i) ↔ ∀ i, i < nts kc → ks kc i = ks x i) := fun en => ⟨fun h i hi => by
      have := h i hi
      rw [(hkk i hi).1, (hkt i (by omega)).1] at this
      exact nI_inj30 (hkk i hi).2.1 (hkt i (by omega)).2.1 this, fun h i hi => by rw [(hkk i hi).1, (hkt i (by omega)).1, h i hi]⟩
  rcases h with ⟨⟨q1, q2, q3⟩, rfl⟩ | ⟨q, rfl⟩
  · exact Or.inl ⟨⟨q1, q2, (hkq q2).mp q3⟩, rfl⟩
  · exact Or.inr ⟨fun z => q ⟨z.1, z.2.1, (hkq z.2.1).mpr z.2.2⟩, rfl⟩
end CL3
abbrev IS29 (x g b t z : Nat) : List Nat := [0, 1, 2, 3, 4, 5, x, x + 1, x + 2, x + 3, x + 4, g, g + 1, b, b + 1, b + 2, b + 3, b + 4, 11, 12, 13, t, t + 1, z, z + 1, z + 2, z + 3, z + 4, 28]
abbrev FO29 (gp : Nat → Nat) : List Nat := [114, 118, gp 0 + 100, gp 1 + 100, gp 2 + 100, gp 3 + 100, gp 4 + 100, gp 5 + 100, gp 6 + 100, gp 7 + 100]
theorem rho29 {x g b t z xi : Nat} {gp : Nat → Nat} (ht : t = gp xi) (n : Nat) : ∀ j, j < 8 → ab_rho (IS29 x g b t z) (FO29 gp) n (if j = xi then 121 else 6 + j) = gp j + 100 := fun j hj => by
  by_cases e : j = xi
  · rw [if_pos e, e, ← ht]; rfl
  · rw [if_neg e]
    match j, hj with
    | 0, _ => rfl
    | 1, _ => rfl
    | 2, _ => rfl
    | 3, _ => rfl
    | 4, _ => rfl
    | 5, _ => rfl
    | 6, _ => rfl
    | 7, _ => rfl
def MaA (w : List ab_C) (I La : Nat → Int32) : Prop := w[11]? = some (.inr (5, [.ref 112, .ref 113])) ∧ w[12]? = some (cI 8 I) ∧ w[13]? = some (cI 40 La)
def KeA (w : List ab_C) (gp : Nat → Nat) (kc : Nat) : Prop := w[28]? = some (.inl (4, 8, .inr (.inr (.inr (.inr (kf (fun j => gp j + 100) kc))))))
set_option maxRecDepth 20000 in
theorem ifit {w : List ab_C} {kc xi g b x t z : Nat} {gp : Nat → Nat} (hkc : kc ≤ 8) (ht : t = gp xi) {s : SS} {len : Int32} {D : Nat → Int32} {cX : Int32} {FX X1 X2 X3 : Nat → Int32} {nb nt : Nat} {hs ro : Int32} {K : Nat → Int32} {cY : Int32} {FY Y1 Y2 Y3 : Nat → Int32} {I La : Nat → Int32} {nb' nt' : Nat} {hs' ro' : Int32} {K' : Nat → Int32} {cZ : Int32} {FZ Z1 Z2 Z3 : Nat → Int32} (h7 : C7A w kc g) (hh : HaA w x s len D) (hg : GrA w g b nb nt hs ro K) (hX : BlA w x cX FX X1 X2 X3) (hY : BlA w b cY FY Y1 Y2 Y3) (hM : MaA w I La) (hgt : GrA w t z nb' nt' hs' ro' K') (hZ : BlA w z cZ FZ Z1 Z2 Z3) (hk : KeA w gp kc) : ab_fits (IS29 x g b t z) (FO29 gp) (iW (fun j => if j = xi then 121 else 6 + j) kc 106 113 123 4 5 s len D cX FX X1 X2 X3 nb nt hs ro K cY FY Y1 Y2 Y3 I La nb' nt' hs' ro' K' cZ FZ Z1 Z2 Z3) w := by
  have e := kf_map (T := fun j => gp j + 100) (kc := kc) (r := ab_rho (IS29 x g b t z) (FO29 gp) w.length) (S := (fun j => if j = xi then 121 else 6 + j)) (fun j hj => rho29 ht w.length j (by omega))
  unfold ab_fits
  simp only [List.map_cons, List.map_nil]
  rw [show w[0]? = _ from h7, hh.1, hh.2.1, hh.2.2.1, hh.2.2.2.1, hh.2.2.2.2, hX.1, hX.2.1, hX.2.2.1, hX.2.2.2.1, hX.2.2.2.2, hg.1, hg.2, hY.1, hY.2.1, hY.2.2.1, hY.2.2.2.1, hY.2.2.2.2, hM.1, hM.2.1, hM.2.2, hgt.1, hgt.2, hZ.1, hZ.2.1, hZ.2.2.1, hZ.2.2.2.1, hZ.2.2.2.2, show w[28]? = _ from hk, ← e]
  rfl
set_option maxRecDepth 20000 in
theorem irn11 (T : Nat → Nat) (n kc g b x t z : Nat) (gp : Nat → Nat) (s2 : SS) (len2 : Int32) (D2 : Nat → Int32) (cX2 : Int32) (GX G1 G2 G3 : Nat → Int32) (nb2 nt2 : Nat) (hs2 ro2 : Int32) (K2 : Nat → Int32) (cY2 : Int32) (HX H1 H2 H3 : Nat → Int32) (I2 La2 : Nat → Int32) (nb3 nt3 : Nat) (hs3 ro3 : Int32) (K3 : Nat → Int32) (cZ2 : Int32) (JX J1 J2 J3 : Nat → Int32) : (iW T kc 106 113 123 4 5 s2 len2 D2 cX2 GX G1 G2 G3 nb2 nt2 hs2 ro2 K2 cY2 HX H1 H2 H3 I2 La2 nb3 nt3 hs3 ro3 K3 cZ2 JX J1 J2 J3).map (ab_rc (ab_rho (IS29 x g b t z) (FO29 gp) n)) = [c7 101 101 111 114 118 128 (nI kc) (g + 100), .inr (3, [.ref 102, .ref 105, .ref (x + 100)]), .inr (7, [.ref 103, .ref 104, .int (nI s2.2.2), .int len2]), cI 8 s2.1, cI 64 s2.2.1, cI 40 D2, cB2 x cX2, cI 64 GX, cI 8 G1, cI 8 G2, cI 9 G3, .inr (1, [.ref (g + 1 + 100), .int (nI nb2), .int (nI nt2), .int hs2, .int ro2, .ref (b + 100)]), cI 40 K2, cB2 b cY2, cI 64 HX, cI 8 H1, cI 8 H2, cI 9 H3, .inr (5, [.ref 112, .ref 113]), cI 8 I2, cI 40 La2, .inr (1, [.ref (t + 1 + 100), .int (nI nb3), .int (nI nt3), .int hs3, .int ro3, .ref (z + 100)]), cI 40 K3, cB2 z cZ2, cI 64 JX, cI 8 J1, cI 8 J2, cI 9 J3, .inl (4, 8, .inr (.inr (.inr (.inr (fun j => (kf T kc j).map (ab_rho (IS29 x g b t z) (FO29 gp) n))))))] := rfl
set_option maxRecDepth 20000 in
theorem iput11 {w w1 : List ab_C} {kc xi g b x t z : Nat} {gp : Nat → Nat} (hkc : kc ≤ 8) (ht : t = gp xi) (hn : (IS29 x g b t z).Nodup) {s : SS} {len : Int32} {D : Nat → Int32} {cX : Int32} {FX X1 X2 X3 : Nat → Int32} {nb nt : Nat} {hs ro : Int32} {K : Nat → Int32} {cY : Int32} {FY Y1 Y2 Y3 : Nat → Int32} {I La : Nat → Int32} {nb' nt' : Nat} {hs' ro' : Int32} {K' : Nat → Int32} {cZ : Int32} {FZ Z1 Z2 Z3 : Nat → Int32} (h7 : C7A w kc g) (hh : HaA w x s len D) (hg : GrA w g b nb nt hs ro K) (hX : BlA w x cX FX X1 X2 X3) (hY : BlA w b cY FY Y1 Y2 Y3) (hM : MaA w I La) (hgt : GrA w t z nb' nt' hs' ro' K') (hZ : BlA w z cZ FZ Z1 Z2 Z3) (hk : KeA w gp kc) (s2 : SS) (len2 : Int32) (D2 : Nat → Int32) (cX2 : Int32) (GX G1 G2 G3 : Nat → Int32) (nb2 nt2 : Nat) (hs2 ro2 : Int32) (K2 : Nat → Int32) (cY2 : Int32) (HX H1 H2 H3 : Nat → Int32) (I2 La2 : Nat → Int32) (nb3 nt3 : Nat) (hs3 ro3 : Int32) (K3 : Nat → Int32) (cZ2 : Int32) (JX J1 J2 J3 : Nat → Int32) (hw1 : w1 = (ab_put w (IS29 x g b t z) ((iW (fun j => if j = xi then 121 else 6 + j) kc 106 113 123 4 5 s2 len2 D2 cX2 GX G1 G2 G3 nb2 nt2 hs2 ro2 K2 cY2 HX H1 H2 H3 I2 La2 nb3 nt3 hs3 ro3 K3 cZ2 JX J1 J2 J3).map (ab_rc (ab_rho (IS29 x g b t z) (FO29 gp) w.length))))) : C7A w1 kc g ∧ HaA w1 x s2 len2 D2 ∧ GrA w1 g b nb2 nt2 hs2 ro2 K2 ∧ BlA w1 x cX2 GX G1 G2 G3 ∧ BlA w1 b cY2 HX H1 H2 H3 ∧ MaA w1 I2 La2 ∧ GrA w1 t z nb3 nt3 hs3 ro3 K3 ∧ BlA w1 z cZ2 JX J1 J2 J3 ∧ KeA w1 gp kc := by
  have e := kf_map (T := fun j => gp j + 100) (kc := kc) (r := ab_rho (IS29 x g b t z) (FO29 gp) w.length) (S := (fun j => if j = xi then 121 else 6 + j)) (fun j hj => rho29 ht w.length j (by omega))
  rw [irn11, e] at hw1
  have p : ∀ (j i : Nat) (c : ab_C), (IS29 x g b t z)[j]? = some i → i < w.length → [c7 101 101 111 114 118 128 (nI kc) (g + 100), .inr (3, [.ref 102, .ref 105, .ref (x + 100)]), .inr (7, [.ref 103, .ref 104, .int (nI s2.2.2), .int len2]), cI 8 s2.1, cI 64 s2.2.1, cI 40 D2, cB2 x cX2, cI 64 GX, cI 8 G1, cI 8 G2, cI 9 G3, .inr (1, [.ref (g + 1 + 100), .int (nI nb2), .int (nI nt2), .int hs2, .int ro2, .ref (b + 100)]), cI 40 K2, cB2 b cY2, cI 64 HX, cI 8 H1, cI 8 H2, cI 9 H3, .inr (5, [.ref 112, .ref 113]), cI 8 I2, cI 40 La2, .inr (1, [.ref (t + 1 + 100), .int (nI nb3), .int (nI nt3), .int hs3, .int ro3, .ref (z + 100)]), cI 40 K3, cB2 z cZ2, cI 64 JX, cI 8 J1, cI 8 J2, cI 9 J3, .inl (4, 8, .inr (.inr (.inr (.inr (kf (fun j => gp j + 100) kc)))))][j]? = some c → w1[i]? = some c := fun j i c h1 h2 h3 => by rw [hw1]; exact put_in hn h1 h2 h3
  clear hw1 e
  exact ⟨p 0 _ _ rfl (at_lt h7) rfl, ⟨p 1 _ _ rfl (at_lt hh.1) rfl, p 2 _ _ rfl (at_lt hh.2.1) rfl, p 3 _ _ rfl (at_lt hh.2.2.1) rfl, p 4 _ _ rfl (at_lt hh.2.2.2.1) rfl, p 5 _ _ rfl (at_lt hh.2.2.2.2) rfl⟩, ⟨p 11 _ _ rfl (at_lt hg.1) rfl, p 12 _ _ rfl (at_lt hg.2) rfl⟩, ⟨p 6 _ _ rfl (at_lt hX.1) rfl, p 7 _ _ rfl (at_lt hX.2.1) rfl, p 8 _ _ rfl (at_lt hX.2.2.1) rfl, p 9 _ _ rfl (at_lt hX.2.2.2.1) rfl, p 10 _ _ rfl (at_lt hX.2.2.2.2) rfl⟩, ⟨p 13 _ _ rfl (at_lt hY.1) rfl, p 14 _ _ rfl (at_lt hY.2.1) rfl, p 15 _ _ rfl (at_lt hY.2.2.1) rfl, p 16 _ _ rfl (at_lt hY.2.2.2.1) rfl, p 17 _ _ rfl (at_lt hY.2.2.2.2) rfl⟩, ⟨p 18 _ _ rfl (at_lt hM.1) rfl, p 19 _ _ rfl (at_lt hM.2.1) rfl, p 20 _ _ rfl (at_lt hM.2.2) rfl⟩, ⟨p 21 _ _ rfl (at_lt hgt.1) rfl, p 22 _ _ rfl (at_lt hgt.2) rfl⟩, ⟨p 23 _ _ rfl (at_lt hZ.1) rfl, p 24 _ _ rfl (at_lt hZ.2.1) rfl, p 25 _ _ rfl (at_lt hZ.2.2.1) rfl, p 26 _ _ rfl (at_lt hZ.2.2.2.1) rfl, p 27 _ _ rfl (at_lt hZ.2.2.2.2) rfl⟩, p 28 _ _ rfl (at_lt hk) rfl⟩
set_option maxRecDepth 20000 in
theorem irn12 (T : Nat → Nat) (n kc g b x t z : Nat) (gp : Nat → Nat) (s2 : SS) (len2 : Int32) (D2 : Nat → Int32) (cX2 : Int32) (GX G1 G2 G3 : Nat → Int32) (nb2 nt2 : Nat) (hs2 ro2 : Int32) (K2 : Nat → Int32) (cY2 : Int32) (HX H1 H2 H3 : Nat → Int32) (I2 La2 : Nat → Int32) (nb3 nt3 : Nat) (hs3 ro3 : Int32) (K3 : Nat → Int32) (cZ2 : Int32) (JX J1 J2 J3 : Nat → Int32) : (iW T kc 123 113 106 4 5 s2 len2 D2 cX2 GX G1 G2 G3 nb2 nt2 hs2 ro2 K2 cY2 HX H1 H2 H3 I2 La2 nb3 nt3 hs3 ro3 K3 cZ2 JX J1 J2 J3).map (ab_rc (ab_rho (IS29 x g b t z) (FO29 gp) n)) = [c7 101 101 111 114 118 128 (nI kc) (g + 100), .inr (3, [.ref 102, .ref 105, .ref (z + 100)]), .inr (7, [.ref 103, .ref 104, .int (nI s2.2.2), .int len2]), cI 8 s2.1, cI 64 s2.2.1, cI 40 D2, cB2 x cX2, cI 64 GX, cI 8 G1, cI 8 G2, cI 9 G3, .inr (1, [.ref (g + 1 + 100), .int (nI nb2), .int (nI nt2), .int hs2, .int ro2, .ref (b + 100)]), cI 40 K2, cB2 b cY2, cI 64 HX, cI 8 H1, cI 8 H2, cI 9 H3, .inr (5, [.ref 112, .ref 113]), cI 8 I2, cI 40 La2, .inr (1, [.ref (t + 1 + 100), .int (nI nb3), .int (nI nt3), .int hs3, .int ro3, .ref (x + 100)]), cI 40 K3, cB2 z cZ2, cI 64 JX, cI 8 J1, cI 8 J2, cI 9 J3, .inl (4, 8, .inr (.inr (.inr (.inr (fun j => (kf T kc j).map (ab_rho (IS29 x g b t z) (FO29 gp) n))))))] := rfl
set_option maxRecDepth 20000 in
theorem iput12 {w w1 : List ab_C} {kc xi g b x t z : Nat} {gp : Nat → Nat} (hkc : kc ≤ 8) (ht : t = gp xi) (hn : (IS29 x g b t z).Nodup) {s : SS} {len : Int32} {D : Nat → Int32} {cX : Int32} {FX X1 X2 X3 : Nat → Int32} {nb nt : Nat} {hs ro : Int32} {K : Nat → Int32} {cY : Int32} {FY Y1 Y2 Y3 : Nat → Int32} {I La : Nat → Int32} {nb' nt' : Nat} {hs' ro' : Int32} {K' : Nat → Int32} {cZ : Int32} {FZ Z1 Z2 Z3 : Nat → Int32} (h7 : C7A w kc g) (hh : HaA w x s len D) (hg : GrA w g b nb nt hs ro K) (hX : BlA w x cX FX X1 X2 X3) (hY : BlA w b cY FY Y1 Y2 Y3) (hM : MaA w I La) (hgt : GrA w t z nb' nt' hs' ro' K') (hZ : BlA w z cZ FZ Z1 Z2 Z3) (hk : KeA w gp kc) (s2 : SS) (len2 : Int32) (D2 : Nat → Int32) (cX2 : Int32) (GX G1 G2 G3 : Nat → Int32) (nb2 nt2 : Nat) (hs2 ro2 : Int32) (K2 : Nat → Int32) (cY2 : Int32) (HX H1 H2 H3 : Nat → Int32) (I2 La2 : Nat → Int32) (nb3 nt3 : Nat) (hs3 ro3 : Int32) (K3 : Nat → Int32) (cZ2 : Int32) (JX J1 J2 J3 : Nat → Int32) (hw1 : w1 = (ab_put w (IS29 x g b t z) ((iW (fun j => if j = xi then 121 else 6 + j) kc 123 113 106 4 5 s2 len2 D2 cX2 GX G1 G2 G3 nb2 nt2 hs2 ro2 K2 cY2 HX H1 H2 H3 I2 La2 nb3 nt3 hs3 ro3 K3 cZ2 JX J1 J2 J3).map (ab_rc (ab_rho (IS29 x g b t z) (FO29 gp) w.length))))) : C7A w1 kc g ∧ HaA w1 z s2 len2 D2 ∧ GrA w1 g b nb2 nt2 hs2 ro2 K2 ∧ BlA w1 x cX2 GX G1 G2 G3 ∧ BlA w1 b cY2 HX H1 H2 H3 ∧ MaA w1 I2 La2 ∧ GrA w1 t x nb3 nt3 hs3 ro3 K3 ∧ BlA w1 z cZ2 JX J1 J2 J3 ∧ KeA w1 gp kc := by
  have e := kf_map (T := fun j => gp j + 100) (kc := kc) (r := ab_rho (IS29 x g b t z) (FO29 gp) w.length) (S := (fun j => if j = xi then 121 else 6 + j)) (fun j hj => rho29 ht w.length j (by omega))
  rw [irn12, e] at hw1
  have p : ∀ (j i : Nat) (c : ab_C), (IS29 x g b t z)[j]? = some i → i < w.length → [c7 101 101 111 114 118 128 (nI kc) (g + 100), .inr (3, [.ref 102, .ref 105, .ref (z + 100)]), .inr (7, [.ref 103, .ref 104, .int (nI s2.2.2), .int len2]), cI 8 s2.1, cI 64 s2.2.1, cI 40 D2, cB2 x cX2, cI 64 GX, cI 8 G1, cI 8 G2, cI 9 G3, .inr (1, [.ref (g + 1 + 100), .int (nI nb2), .int (nI nt2), .int hs2, .int ro2, .ref (b + 100)]), cI 40 K2, cB2 b cY2, cI 64 HX, cI 8 H1, cI 8 H2, cI 9 H3, .inr (5, [.ref 112, .ref 113]), cI 8 I2, cI 40 La2, .inr (1, [.ref (t + 1 + 100), .int (nI nb3), .int (nI nt3), .int hs3, .int ro3, .ref (x + 100)]), cI 40 K3, cB2 z cZ2, cI 64 JX, cI 8 J1, cI 8 J2, cI 9 J3, .inl (4, 8, .inr (.inr (.inr (.inr (kf (fun j => gp j + 100) kc)))))][j]? = some c → w1[i]? = some c := fun j i c h1 h2 h3 => by rw [hw1]; exact put_in hn h1 h2 h3
  clear hw1 e
  exact ⟨p 0 _ _ rfl (at_lt h7) rfl, ⟨p 1 _ _ rfl (at_lt hh.1) rfl, p 2 _ _ rfl (at_lt hh.2.1) rfl, p 3 _ _ rfl (at_lt hh.2.2.1) rfl, p 4 _ _ rfl (at_lt hh.2.2.2.1) rfl, p 5 _ _ rfl (at_lt hh.2.2.2.2) rfl⟩, ⟨p 11 _ _ rfl (at_lt hg.1) rfl, p 12 _ _ rfl (at_lt hg.2) rfl⟩, ⟨p 6 _ _ rfl (at_lt hX.1) rfl, p 7 _ _ rfl (at_lt hX.2.1) rfl, p 8 _ _ rfl (at_lt hX.2.2.1) rfl, p 9 _ _ rfl (at_lt hX.2.2.2.1) rfl, p 10 _ _ rfl (at_lt hX.2.2.2.2) rfl⟩, ⟨p 13 _ _ rfl (at_lt hY.1) rfl, p 14 _ _ rfl (at_lt hY.2.1) rfl, p 15 _ _ rfl (at_lt hY.2.2.1) rfl, p 16 _ _ rfl (at_lt hY.2.2.2.1) rfl, p 17 _ _ rfl (at_lt hY.2.2.2.2) rfl⟩, ⟨p 18 _ _ rfl (at_lt hM.1) rfl, p 19 _ _ rfl (at_lt hM.2.1) rfl, p 20 _ _ rfl (at_lt hM.2.2) rfl⟩, ⟨p 21 _ _ rfl (at_lt hgt.1) rfl, p 22 _ _ rfl (at_lt hgt.2) rfl⟩, ⟨p 23 _ _ rfl (at_lt hZ.1) rfl, p 24 _ _ rfl (at_lt hZ.2.1) rfl, p 25 _ _ rfl (at_lt hZ.2.2.1) rfl, p 26 _ _ rfl (at_lt hZ.2.2.2.1) rfl, p 27 _ _ rfl (at_lt hZ.2.2.2.2) rfl⟩, p 28 _ _ rfl (at_lt hk) rfl⟩
set_option maxRecDepth 20000 in
theorem irn21 (T : Nat → Nat) (n kc g b x t z : Nat) (gp : Nat → Nat) (s2 : SS) (len2 : Int32) (D2 : Nat → Int32) (cX2 : Int32) (GX G1 G2 G3 : Nat → Int32) (nb2 nt2 : Nat) (hs2 ro2 : Int32) (K2 : Nat → Int32) (cY2 : Int32) (HX H1 H2 H3 : Nat → Int32) (I2 La2 : Nat → Int32) (nb3 nt3 : Nat) (hs3 ro3 : Int32) (K3 : Nat → Int32) (cZ2 : Int32) (JX J1 J2 J3 : Nat → Int32) : (iW T kc 113 106 123 4 5 s2 len2 D2 cX2 GX G1 G2 G3 nb2 nt2 hs2 ro2 K2 cY2 HX H1 H2 H3 I2 La2 nb3 nt3 hs3 ro3 K3 cZ2 JX J1 J2 J3).map (ab_rc (ab_rho (IS29 x g b t z) (FO29 gp) n)) = [c7 101 101 111 114 118 128 (nI kc) (g + 100), .inr (3, [.ref 102, .ref 105, .ref (b + 100)]), .inr (7, [.ref 103, .ref 104, .int (nI s2.2.2), .int len2]), cI 8 s2.1, cI 64 s2.2.1, cI 40 D2, cB2 x cX2, cI 64 GX, cI 8 G1, cI 8 G2, cI 9 G3, .inr (1, [.ref (g + 1 + 100), .int (nI nb2), .int (nI nt2), .int hs2, .int ro2, .ref (x + 100)]), cI 40 K2, cB2 b cY2, cI 64 HX, cI 8 H1, cI 8 H2, cI 9 H3, .inr (5, [.ref 112, .ref 113]), cI 8 I2, cI 40 La2, .inr (1, [.ref (t + 1 + 100), .int (nI nb3), .int (nI nt3), .int hs3, .int ro3, .ref (z + 100)]), cI 40 K3, cB2 z cZ2, cI 64 JX, cI 8 J1, cI 8 J2, cI 9 J3, .inl (4, 8, .inr (.inr (.inr (.inr (fun j => (kf T kc j).map (ab_rho (IS29 x g b t z) (FO29 gp) n))))))] := rfl
set_option maxRecDepth 20000 in
theorem iput21 {w w1 : List ab_C} {kc xi g b x t z : Nat} {gp : Nat → Nat} (hkc : kc ≤ 8) (ht : t = gp xi) (hn : (IS29 x g b t z).Nodup) {s : SS} {len : Int32} {D : Nat → Int32} {cX : Int32} {FX X1 X2 X3 : Nat → Int32} {nb nt : Nat} {hs ro : Int32} {K : Nat → Int32} {cY : Int32} {FY Y1 Y2 Y3 : Nat → Int32} {I La : Nat → Int32} {nb' nt' : Nat} {hs' ro' : Int32} {K' : Nat → Int32} {cZ : Int32} {FZ Z1 Z2 Z3 : Nat → Int32} (h7 : C7A w kc g) (hh : HaA w x s len D) (hg : GrA w g b nb nt hs ro K) (hX : BlA w x cX FX X1 X2 X3) (hY : BlA w b cY FY Y1 Y2 Y3) (hM : MaA w I La) (hgt : GrA w t z nb' nt' hs' ro' K') (hZ : BlA w z cZ FZ Z1 Z2 Z3) (hk : KeA w gp kc) (s2 : SS) (len2 : Int32) (D2 : Nat → Int32) (cX2 : Int32) (GX G1 G2 G3 : Nat → Int32) (nb2 nt2 : Nat) (hs2 ro2 : Int32) (K2 : Nat → Int32) (cY2 : Int32) (HX H1 H2 H3 : Nat → Int32) (I2 La2 : Nat → Int32) (nb3 nt3 : Nat) (hs3 ro3 : Int32) (K3 : Nat → Int32) (cZ2 : Int32) (JX J1 J2 J3 : Nat → Int32) (hw1 : w1 = (ab_put w (IS29 x g b t z) ((iW (fun j => if j = xi then 121 else 6 + j) kc 113 106 123 4 5 s2 len2 D2 cX2 GX G1 G2 G3 nb2 nt2 hs2 ro2 K2 cY2 HX H1 H2 H3 I2 La2 nb3 nt3 hs3 ro3 K3 cZ2 JX J1 J2 J3).map (ab_rc (ab_rho (IS29 x g b t z) (FO29 gp) w.length))))) : C7A w1 kc g ∧ HaA w1 b s2 len2 D2 ∧ GrA w1 g x nb2 nt2 hs2 ro2 K2 ∧ BlA w1 x cX2 GX G1 G2 G3 ∧ BlA w1 b cY2 HX H1 H2 H3 ∧ MaA w1 I2 La2 ∧ GrA w1 t z nb3 nt3 hs3 ro3 K3 ∧ BlA w1 z cZ2 JX J1 J2 J3 ∧ KeA w1 gp kc := by
  have e := kf_map (T := fun j => gp j + 100) (kc := kc) (r := ab_rho (IS29 x g b t z) (FO29 gp) w.length) (S := (fun j => if j = xi then 121 else 6 + j)) (fun j hj => rho29 ht w.length j (by omega))
  rw [irn21, e] at hw1
  have p : ∀ (j i : Nat) (c : ab_C), (IS29 x g b t z)[j]? = some i → i < w.length → [c7 101 101 111 114 118 128 (nI kc) (g + 100), .inr (3, [.ref 102, .ref 105, .ref (b + 100)]), .inr (7, [.ref 103, .ref 104, .int (nI s2.2.2), .int len2]), cI 8 s2.1, cI 64 s2.2.1, cI 40 D2, cB2 x cX2, cI 64 GX, cI 8 G1, cI 8 G2, cI 9 G3, .inr (1, [.ref (g + 1 + 100), .int (nI nb2), .int (nI nt2), .int hs2, .int ro2, .ref (x + 100)]), cI 40 K2, cB2 b cY2, cI 64 HX, cI 8 H1, cI 8 H2, cI 9 H3, .inr (5, [.ref 112, .ref 113]), cI 8 I2, cI 40 La2, .inr (1, [.ref (t + 1 + 100), .int (nI nb3), .int (nI nt3), .int hs3, .int ro3, .ref (z + 100)]), cI 40 K3, cB2 z cZ2, cI 64 JX, cI 8 J1, cI 8 J2, cI 9 J3, .inl (4, 8, .inr (.inr (.inr (.inr (kf (fun j => gp j + 100) kc)))))][j]? = some c → w1[i]? = some c := fun j i c h1 h2 h3 => by rw [hw1]; exact put_in hn h1 h2 h3
  clear hw1 e
  exact ⟨p 0 _ _ rfl (at_lt h7) rfl, ⟨p 1 _ _ rfl (at_lt hh.1) rfl, p 2 _ _ rfl (at_lt hh.2.1) rfl, p 3 _ _ rfl (at_lt hh.2.2.1) rfl, p 4 _ _ rfl (at_lt hh.2.2.2.1) rfl, p 5 _ _ rfl (at_lt hh.2.2.2.2) rfl⟩, ⟨p 11 _ _ rfl (at_lt hg.1) rfl, p 12 _ _ rfl (at_lt hg.2) rfl⟩, ⟨p 6 _ _ rfl (at_lt hX.1) rfl, p 7 _ _ rfl (at_lt hX.2.1) rfl, p 8 _ _ rfl (at_lt hX.2.2.1) rfl, p 9 _ _ rfl (at_lt hX.2.2.2.1) rfl, p 10 _ _ rfl (at_lt hX.2.2.2.2) rfl⟩, ⟨p 13 _ _ rfl (at_lt hY.1) rfl, p 14 _ _ rfl (at_lt hY.2.1) rfl, p 15 _ _ rfl (at_lt hY.2.2.1) rfl, p 16 _ _ rfl (at_lt hY.2.2.2.1) rfl, p 17 _ _ rfl (at_lt hY.2.2.2.2) rfl⟩, ⟨p 18 _ _ rfl (at_lt hM.1) rfl, p 19 _ _ rfl (at_lt hM.2.1) rfl, p 20 _ _ rfl (at_lt hM.2.2) rfl⟩, ⟨p 21 _ _ rfl (at_lt hgt.1) rfl, p 22 _ _ rfl (at_lt hgt.2) rfl⟩, ⟨p 23 _ _ rfl (at_lt hZ.1) rfl, p 24 _ _ rfl (at_lt hZ.2.1) rfl, p 25 _ _ rfl (at_lt hZ.2.2.1) rfl, p 26 _ _ rfl (at_lt hZ.2.2.2.1) rfl, p 27 _ _ rfl (at_lt hZ.2.2.2.2) rfl⟩, p 28 _ _ rfl (at_lt hk) rfl⟩
set_option maxRecDepth 20000 in
theorem irn22 (T : Nat → Nat) (n kc g b x t z : Nat) (gp : Nat → Nat) (s2 : SS) (len2 : Int32) (D2 : Nat → Int32) (cX2 : Int32) (GX G1 G2 G3 : Nat → Int32) (nb2 nt2 : Nat) (hs2 ro2 : Int32) (K2 : Nat → Int32) (cY2 : Int32) (HX H1 H2 H3 : Nat → Int32) (I2 La2 : Nat → Int32) (nb3 nt3 : Nat) (hs3 ro3 : Int32) (K3 : Nat → Int32) (cZ2 : Int32) (JX J1 J2 J3 : Nat → Int32) : (iW T kc 123 106 113 4 5 s2 len2 D2 cX2 GX G1 G2 G3 nb2 nt2 hs2 ro2 K2 cY2 HX H1 H2 H3 I2 La2 nb3 nt3 hs3 ro3 K3 cZ2 JX J1 J2 J3).map (ab_rc (ab_rho (IS29 x g b t z) (FO29 gp) n)) = [c7 101 101 111 114 118 128 (nI kc) (g + 100), .inr (3, [.ref 102, .ref 105, .ref (z + 100)]), .inr (7, [.ref 103, .ref 104, .int (nI s2.2.2), .int len2]), cI 8 s2.1, cI 64 s2.2.1, cI 40 D2, cB2 x cX2, cI 64 GX, cI 8 G1, cI 8 G2, cI 9 G3, .inr (1, [.ref (g + 1 + 100), .int (nI nb2), .int (nI nt2), .int hs2, .int ro2, .ref (x + 100)]), cI 40 K2, cB2 b cY2, cI 64 HX, cI 8 H1, cI 8 H2, cI 9 H3, .inr (5, [.ref 112, .ref 113]), cI 8 I2, cI 40 La2, .inr (1, [.ref (t + 1 + 100), .int (nI nb3), .int (nI nt3), .int hs3, .int ro3, .ref (b + 100)]), cI 40 K3, cB2 z cZ2, cI 64 JX, cI 8 J1, cI 8 J2, cI 9 J3, .inl (4, 8, .inr (.inr (.inr (.inr (fun j => (kf T kc j).map (ab_rho (IS29 x g b t z) (FO29 gp) n))))))] := rfl
set_option maxRecDepth 20000 in
theorem iput22 {w w1 : List ab_C} {kc xi g b x t z : Nat} {gp : Nat → Nat} (hkc : kc ≤ 8) (ht : t = gp xi) (hn : (IS29 x g b t z).Nodup) {s : SS} {len : Int32} {D : Nat → Int32} {cX : Int32} {FX X1 X2 X3 : Nat → Int32} {nb nt : Nat} {hs ro : Int32} {K : Nat → Int32} {cY : Int32} {FY Y1 Y2 Y3 : Nat → Int32} {I La : Nat → Int32} {nb' nt' : Nat} {hs' ro' : Int32} {K' : Nat → Int32} {cZ : Int32} {FZ Z1 Z2 Z3 : Nat → Int32} (h7 : C7A w kc g) (hh : HaA w x s len D) (hg : GrA w g b nb nt hs ro K) (hX : BlA w x cX FX X1 X2 X3) (hY : BlA w b cY FY Y1 Y2 Y3) (hM : MaA w I La) (hgt : GrA w t z nb' nt' hs' ro' K') (hZ : BlA w z cZ FZ Z1 Z2 Z3) (hk : KeA w gp kc) (s2 : SS) (len2 : Int32) (D2 : Nat → Int32) (cX2 : Int32) (GX G1 G2 G3 : Nat → Int32) (nb2 nt2 : Nat) (hs2 ro2 : Int32) (K2 : Nat → Int32) (cY2 : Int32) (HX H1 H2 H3 : Nat → Int32) (I2 La2 : Nat → Int32) (nb3 nt3 : Nat) (hs3 ro3 : Int32) (K3 : Nat → Int32) (cZ2 : Int32) (JX J1 J2 J3 : Nat → Int32) (hw1 : w1 = (ab_put w (IS29 x g b t z) ((iW (fun j => if j = xi then 121 else 6 + j) kc 123 106 113 4 5 s2 len2 D2 cX2 GX G1 G2 G3 nb2 nt2 hs2 ro2 K2 cY2 HX H1 H2 H3 I2 La2 nb3 nt3 hs3 ro3 K3 cZ2 JX J1 J2 J3).map (ab_rc (ab_rho (IS29 x g b t z) (FO29 gp) w.length))))) : C7A w1 kc g ∧ HaA w1 z s2 len2 D2 ∧ GrA w1 g x nb2 nt2 hs2 ro2 K2 ∧ BlA w1 x cX2 GX G1 G2 G3 ∧ BlA w1 b cY2 HX H1 H2 H3 ∧ MaA w1 I2 La2 ∧ GrA w1 t b nb3 nt3 hs3 ro3 K3 ∧ BlA w1 z cZ2 JX J1 J2 J3 ∧ KeA w1 gp kc := by
  have e := kf_map (T := fun j => gp j + 100) (kc := kc) (r := ab_rho (IS29 x g b t z) (FO29 gp) w.length) (S := (fun j => if j = xi then 121 else 6 + j)) (fun j hj => rho29 ht w.length j (by omega))
  rw [irn22, e] at hw1
  have p : ∀ (j i : Nat) (c : ab_C), (IS29 x g b t z)[j]? = some i → i < w.length → [c7 101 101 111 114 118 128 (nI kc) (g + 100), .inr (3, [.ref 102, .ref 105, .ref (z + 100)]), .inr (7, [.ref 103, .ref 104, .int (nI s2.2.2), .int len2]), cI 8 s2.1, cI 64 s2.2.1, cI 40 D2, cB2 x cX2, cI 64 GX, cI 8 G1, cI 8 G2, cI 9 G3, .inr (1, [.ref (g + 1 + 100), .int (nI nb2), .int (nI nt2), .int hs2, .int ro2, .ref (x + 100)]), cI 40 K2, cB2 b cY2, cI 64 HX, cI 8 H1, cI 8 H2, cI 9 H3, .inr (5, [.ref 112, .ref 113]), cI 8 I2, cI 40 La2, .inr (1, [.ref (t + 1 + 100), .int (nI nb3), .int (nI nt3), .int hs3, .int ro3, .ref (b + 100)]), cI 40 K3, cB2 z cZ2, cI 64 JX, cI 8 J1, cI 8 J2, cI 9 J3, .inl (4, 8, .inr (.inr (.inr (.inr (kf (fun j => gp j + 100) kc)))))][j]? = some c → w1[i]? = some c := fun j i c h1 h2 h3 => by rw [hw1]; exact put_in hn h1 h2 h3
  clear hw1 e
  exact ⟨p 0 _ _ rfl (at_lt h7) rfl, ⟨p 1 _ _ rfl (at_lt hh.1) rfl, p 2 _ _ rfl (at_lt hh.2.1) rfl, p 3 _ _ rfl (at_lt hh.2.2.1) rfl, p 4 _ _ rfl (at_lt hh.2.2.2.1) rfl, p 5 _ _ rfl (at_lt hh.2.2.2.2) rfl⟩, ⟨p 11 _ _ rfl (at_lt hg.1) rfl, p 12 _ _ rfl (at_lt hg.2) rfl⟩, ⟨p 6 _ _ rfl (at_lt hX.1) rfl, p 7 _ _ rfl (at_lt hX.2.1) rfl, p 8 _ _ rfl (at_lt hX.2.2.1) rfl, p 9 _ _ rfl (at_lt hX.2.2.2.1) rfl, p 10 _ _ rfl (at_lt hX.2.2.2.2) rfl⟩, ⟨p 13 _ _ rfl (at_lt hY.1) rfl, p 14 _ _ rfl (at_lt hY.2.1) rfl, p 15 _ _ rfl (at_lt hY.2.2.1) rfl, p 16 _ _ rfl (at_lt hY.2.2.2.1) rfl, p 17 _ _ rfl (at_lt hY.2.2.2.2) rfl⟩, ⟨p 18 _ _ rfl (at_lt hM.1) rfl, p 19 _ _ rfl (at_lt hM.2.1) rfl, p 20 _ _ rfl (at_lt hM.2.2) rfl⟩, ⟨p 21 _ _ rfl (at_lt hgt.1) rfl, p 22 _ _ rfl (at_lt hgt.2) rfl⟩, ⟨p 23 _ _ rfl (at_lt hZ.1) rfl, p 24 _ _ rfl (at_lt hZ.2.1) rfl, p 25 _ _ rfl (at_lt hZ.2.2.1) rfl, p 26 _ _ rfl (at_lt hZ.2.2.2.1) rfl, p 27 _ _ rfl (at_lt hZ.2.2.2.2) rfl⟩, p 28 _ _ rfl (at_lt hk) rfl⟩
theorem nd29 {x g b t z : Nat} (hx : x = 6 ∨ x = 31 ∨ 56 ≤ x) (hg : g = 29 ∨ 56 ≤ g) (hb : b = 6 ∨ b = 31 ∨ 56 ≤ b) (ht : t = 29 ∨ 56 ≤ t) (hz : z = 6 ∨ z = 31 ∨ 56 ≤ z) (h1 : x + 5 ≤ b ∨ b + 5 ≤ x) (h2 : g + 2 ≤ x ∨ x + 5 ≤ g) (h3 : g + 2 ≤ b ∨ b + 5 ≤ g) (h4 : g + 2 ≤ t ∨ t + 2 ≤ g) (h5 : t + 2 ≤ x ∨ x + 5 ≤ t) (h6 : t + 2 ≤ b ∨ b + 5 ≤ t) (h7 : x + 5 ≤ z ∨ z + 5 ≤ x) (h8 : b + 5 ≤ z ∨ z + 5 ≤ b) (h9 : g + 2 ≤ z ∨ z + 5 ≤ g) (h10 : t + 2 ≤ z ∨ z + 5 ≤ t) : (IS29 x g b t z).Nodup := by
  have e : IS29 x g b t z = [0, 1, 2, 3, 4, 5] ++ (List.range' x 5 ++ (List.range' g 2 ++ (List.range' b 5 ++ ([11, 12, 13] ++ (List.range' t 2 ++ (List.range' z 5 ++ [28])))))) := rfl
  rw [e]
  have mr : ∀ {a s n : Nat}, a ∈ List.range' s n → s ≤ a ∧ a < s + n := fun h => by rw [List.mem_range'_1] at h; exact h
  have m3 : ∀ {a : Nat}, a ∈ [11, 12, 13] → 11 ≤ a ∧ a < 14 := fun h => by simp at h; omega
  have m1 : ∀ {a : Nat}, a ∈ [28] → a = 28 := fun h => by simpa using h
  refine List.nodup_append.mpr ⟨by decide, List.nodup_append.mpr ⟨nd_iv, List.nodup_append.mpr ⟨nd_iv, List.nodup_append.mpr ⟨nd_iv, List.nodup_append.mpr ⟨by decide, List.nodup_append.mpr ⟨nd_iv, List.nodup_append.mpr ⟨nd_iv, by decide, fun a ha c hc => ?_⟩, fun a ha c hc => ?_⟩, fun a ha c hc => ?_⟩, fun a ha c hc => ?_⟩, fun a ha c hc => ?_⟩, fun a ha c hc => ?_⟩, fun a ha c hc => ?_⟩
  · have := mr ha; have := m1 hc; omega
  · have := mr ha
    rcases List.mem_append.mp hc with hc | hc
    · have := mr hc; omega
    · have := m1 hc; omega
  · have := m3 ha
    rcases List.mem_append.mp hc with hc | hc
    · have := mr hc; omega
    rcases List.mem_append.mp hc with hc | hc
    · have := mr hc; omega
    · have := m1 hc; omega
  · have := mr ha
    rcases List.mem_append.mp hc with hc | hc
    · have := m3 hc; omega
    rcases List.mem_append.mp hc with hc | hc
    · have := mr hc; omega
    rcases List.mem_append.mp hc with hc | hc
    · have := mr hc; omega
    · have := m1 hc; omega
  · have := mr ha
    rcases List.mem_append.mp hc with hc | hc
    · have := mr hc; omega
    rcases List.mem_append.mp hc with hc | hc
    · have := m3 hc; omega
    rcases List.mem_append.mp hc with hc | hc
    · have := mr hc; omega
    rcases List.mem_append.mp hc with hc | hc
    · have := mr hc; omega
    · have := m1 hc; omega
  · have := mr ha
    rcases List.mem_append.mp hc with hc | hc
    · have := mr hc; omega
    rcases List.mem_append.mp hc with hc | hc
    · have := mr hc; omega
    rcases List.mem_append.mp hc with hc | hc
    · have := m3 hc; omega
    rcases List.mem_append.mp hc with hc | hc
    · have := mr hc; omega
    rcases List.mem_append.mp hc with hc | hc
    · have := mr hc; omega
    · have := m1 hc; omega
  · have ha : a < 6 := by simp at ha; omega
    rcases List.mem_append.mp hc with hc | hc
    · have := mr hc; omega
    rcases List.mem_append.mp hc with hc | hc
    · have := mr hc; omega
    rcases List.mem_append.mp hc with hc | hc
    · have := mr hc; omega
    rcases List.mem_append.mp hc with hc | hc
    · have := m3 hc; omega
    rcases List.mem_append.mp hc with hc | hc
    · have := mr hc; omega
    rcases List.mem_append.mp hc with hc | hc
    · have := mr hc; omega
    · have := m1 hc; omega
