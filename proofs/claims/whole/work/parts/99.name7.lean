/-! name of the class, by facts. -/
abbrev IS31 (x g b : Nat) : List Nat := [0, 1, 2, 3, 4, 5, x, x + 1, x + 2, x + 3, x + 4, g, g + 1, b, b + 1, b + 2, b + 3, b + 4, 11, 12, 13, 14, 15, 16, 17, 18, 19, 20, 21, 24, 26]
abbrev FO31 : List Nat := [128, 127, 122, 123, 125]
def NmA (w : List ab_C) (I La : Nat → Int32) (fd : Int32) (P Qb tr : Nat → Int32) (dg fb ft hs' ro' : Int32) (Kf : Nat → Int32) (cv' : Int32) (RF Nn : Nat → Int32) : Prop :=
  (w[11]? = some (.inr (5, [.ref 112, .ref 113])) ∧ w[12]? = some (cI 8 I) ∧ w[13]? = some (cI 40 La) ∧ w[14]? = some (.inr (4, [.ref 115, .ref 116, .ref 117, .int fd])) ∧ w[15]? = some (cI 8 P) ∧ w[16]? = some (cI 8 Qb) ∧ w[17]? = some (cI 40 tr)) ∧
  (w[18]? = some (.inr (6, [.ref 119, .ref 126, .ref 127, .int dg])) ∧ w[19]? = some (.inr (1, [.ref 120, .int fb, .int ft, .int hs', .int ro', .ref 121])) ∧ w[20]? = some (cI 40 Kf) ∧ w[21]? = some (.inr (2, [.ref 122, .ref 123, .ref 124, .ref 125, .int cv'])) ∧ w[24]? = some (cI 8 RF) ∧ w[26]? = some (cI 8 Nn))
set_option maxRecDepth 20000 in
theorem nfit {w : List ab_C} {kc g b x nb nt : Nat} {s : SS} {len hs ro cX cY : Int32} {D K FX X1 X2 X3 FY Y1 Y2 Y3 : Nat → Int32} {I La : Nat → Int32} {fd : Int32} {P Qb tr : Nat → Int32} {dg fb ft hs' ro' : Int32} {Kf : Nat → Int32} {cv' : Int32} {RF Nn : Nat → Int32} (h7 : C7A w kc g) (hh : HaA w x s len D) (hg : GrA w g b nb nt hs ro K) (hX : BlA w x cX FX X1 X2 X3) (hY : BlA w b cY FY Y1 Y2 Y3) (hN : NmA w I La fd P Qb tr dg fb ft hs' ro' Kf cv' RF Nn) : ab_fits (IS31 x g b) FO31 (nW 106 113 4 5 6 7 8 (nI kc) s len D cX FX X1 X2 X3 nb nt hs ro K cY FY Y1 Y2 Y3 I La fd P Qb tr dg fb ft hs' ro' Kf cv' RF Nn) w := by
  unfold ab_fits
  simp only [List.map_cons, List.map_nil]
  rw [show w[0]? = _ from h7, hh.1, hh.2.1, hh.2.2.1, hh.2.2.2.1, hh.2.2.2.2, hX.1, hX.2.1, hX.2.2.1, hX.2.2.2.1, hX.2.2.2.2, hg.1, hg.2, hY.1, hY.2.1, hY.2.2.1, hY.2.2.2.1, hY.2.2.2.2, hN.1.1, hN.1.2.1, hN.1.2.2.1, hN.1.2.2.2.1, hN.1.2.2.2.2.1, hN.1.2.2.2.2.2.1, hN.1.2.2.2.2.2.2, hN.2.1, hN.2.2.1, hN.2.2.2.1, hN.2.2.2.2.1, hN.2.2.2.2.2.1, hN.2.2.2.2.2.2]
  rfl
theorem nd31 {x g b : Nat} (hx : x = 6 ∨ x = 31 ∨ 56 ≤ x) (hg : g = 29 ∨ 56 ≤ g) (hb : b = 6 ∨ b = 31 ∨ 56 ≤ b) (h1 : x + 5 ≤ b ∨ b + 5 ≤ x) (h2 : g + 2 ≤ x ∨ x + 5 ≤ g) (h3 : g + 2 ≤ b ∨ b + 5 ≤ g) : (IS31 x g b).Nodup := by
  have e : IS31 x g b = IS18 x g b ++ [11, 12, 13, 14, 15, 16, 17, 18, 19, 20, 21, 24, 26] := rfl
  rw [e]
  refine List.nodup_append.mpr ⟨nd18 hx hg hb h1 h2 h3, by decide, fun a ha c hc => ?_⟩
  have hc2 : 11 ≤ c ∧ c < 27 := by simp at hc; omega
  simp at ha
  omega
theorem nm31 {x g b i : Nat} (h0 : 28 ≤ i ∨ i = 27 ∨ i = 22 ∨ i = 23 ∨ i = 25) (h1 : i < x ∨ x + 5 ≤ i) (h2 : i < g ∨ g + 2 ≤ i) (h3 : i < b ∨ b + 5 ≤ i) : i ∉ IS31 x g b := by
  intro h
  simp at h
  omega
set_option maxRecDepth 20000 in
theorem nrn1 (n kc g b x : Nat) (s2 : SS) (len2 : Int32) (D2 : Nat → Int32) (cX2 : Int32) (GX G1 G2 G3 : Nat → Int32) (nb2 nt2 : Nat) (hs2 ro2 : Int32) (K2 : Nat → Int32) (cY2 : Int32) (HX H1 H2 H3 : Nat → Int32) (I2 La2 : Nat → Int32) (fd2 : Int32) (P2 Q2 tr2 : Nat → Int32) (dg2 fb2 ft2 hs3 ro3 : Int32) (Kf2 : Nat → Int32) (cv2 : Int32) (RF2 N2 : Nat → Int32) : (nW 106 113 4 5 6 7 8 (nI kc) s2 len2 D2 cX2 GX G1 G2 G3 nb2 nt2 hs2 ro2 K2 cY2 HX H1 H2 H3 I2 La2 fd2 P2 Q2 tr2 dg2 fb2 ft2 hs3 ro3 Kf2 cv2 RF2 N2).map (ab_rc (ab_rho (IS31 x g b) FO31 n)) = [c7 101 101 111 114 118 128 (nI kc) (g + 100), .inr (3, [.ref 102, .ref 105, .ref (x + 100)]), .inr (7, [.ref 103, .ref 104, .int (nI s2.2.2), .int len2]), cI 8 s2.1, cI 64 s2.2.1, cI 40 D2, cB2 x cX2, cI 64 GX, cI 8 G1, cI 8 G2, cI 9 G3, .inr (1, [.ref (g + 1 + 100), .int (nI nb2), .int (nI nt2), .int hs2, .int ro2, .ref (b + 100)]), cI 40 K2, cB2 b cY2, cI 64 HX, cI 8 H1, cI 8 H2, cI 9 H3, .inr (5, [.ref 112, .ref 113]), cI 8 I2, cI 40 La2, .inr (4, [.ref 115, .ref 116, .ref 117, .int fd2]), cI 8 P2, cI 8 Q2, cI 40 tr2, .inr (6, [.ref 119, .ref 126, .ref 127, .int dg2]), .inr (1, [.ref 120, .int fb2, .int ft2, .int hs3, .int ro3, .ref 121]), cI 40 Kf2, .inr (2, [.ref 122, .ref 123, .ref 124, .ref 125, .int cv2]), cI 8 RF2, cI 8 N2] := rfl
set_option maxRecDepth 20000 in
theorem nput1 {w w1 : List ab_C} {kc g b x nb nt : Nat} {s : SS} {len hs ro cX cY : Int32} {D K FX X1 X2 X3 FY Y1 Y2 Y3 : Nat → Int32} {I La : Nat → Int32} {fd : Int32} {P Qb tr : Nat → Int32} {dg fb ft hs' ro' : Int32} {Kf : Nat → Int32} {cv' : Int32} {RF Nn : Nat → Int32} (hn : (IS31 x g b).Nodup) (h7 : C7A w kc g) (hh : HaA w x s len D) (hg : GrA w g b nb nt hs ro K) (hX : BlA w x cX FX X1 X2 X3) (hY : BlA w b cY FY Y1 Y2 Y3) (hN : NmA w I La fd P Qb tr dg fb ft hs' ro' Kf cv' RF Nn) (s2 : SS) (len2 : Int32) (D2 : Nat → Int32) (cX2 : Int32) (GX G1 G2 G3 : Nat → Int32) (nb2 nt2 : Nat) (hs2 ro2 : Int32) (K2 : Nat → Int32) (cY2 : Int32) (HX H1 H2 H3 : Nat → Int32) (I2 La2 : Nat → Int32) (fd2 : Int32) (P2 Q2 tr2 : Nat → Int32) (dg2 fb2 ft2 hs3 ro3 : Int32) (Kf2 : Nat → Int32) (cv2 : Int32) (RF2 N2 : Nat → Int32) (hw1 : w1 = (ab_put w (IS31 x g b) ((nW 106 113 4 5 6 7 8 (nI kc) s2 len2 D2 cX2 GX G1 G2 G3 nb2 nt2 hs2 ro2 K2 cY2 HX H1 H2 H3 I2 La2 fd2 P2 Q2 tr2 dg2 fb2 ft2 hs3 ro3 Kf2 cv2 RF2 N2).map (ab_rc (ab_rho (IS31 x g b) FO31 w.length))))) : C7A w1 kc g ∧ HaA w1 x s2 len2 D2 ∧ GrA w1 g b nb2 nt2 hs2 ro2 K2 ∧ BlA w1 x cX2 GX G1 G2 G3 ∧ BlA w1 b cY2 HX H1 H2 H3 ∧ NmA w1 I2 La2 fd2 P2 Q2 tr2 dg2 fb2 ft2 hs3 ro3 Kf2 cv2 RF2 N2 := by
  rw [nrn1] at hw1
  have p : ∀ (j i : Nat) (c : ab_C), (IS31 x g b)[j]? = some i → i < w.length → [c7 101 101 111 114 118 128 (nI kc) (g + 100), .inr (3, [.ref 102, .ref 105, .ref (x + 100)]), .inr (7, [.ref 103, .ref 104, .int (nI s2.2.2), .int len2]), cI 8 s2.1, cI 64 s2.2.1, cI 40 D2, cB2 x cX2, cI 64 GX, cI 8 G1, cI 8 G2, cI 9 G3, .inr (1, [.ref (g + 1 + 100), .int (nI nb2), .int (nI nt2), .int hs2, .int ro2, .ref (b + 100)]), cI 40 K2, cB2 b cY2, cI 64 HX, cI 8 H1, cI 8 H2, cI 9 H3, .inr (5, [.ref 112, .ref 113]), cI 8 I2, cI 40 La2, .inr (4, [.ref 115, .ref 116, .ref 117, .int fd2]), cI 8 P2, cI 8 Q2, cI 40 tr2, .inr (6, [.ref 119, .ref 126, .ref 127, .int dg2]), .inr (1, [.ref 120, .int fb2, .int ft2, .int hs3, .int ro3, .ref 121]), cI 40 Kf2, .inr (2, [.ref 122, .ref 123, .ref 124, .ref 125, .int cv2]), cI 8 RF2, cI 8 N2][j]? = some c → w1[i]? = some c := fun j i c h1 h2 h3 => by rw [hw1]; exact put_in hn h1 h2 h3
  clear hw1
  exact ⟨p 0 _ _ rfl (at_lt h7) rfl, ⟨p 1 _ _ rfl (at_lt hh.1) rfl, p 2 _ _ rfl (at_lt hh.2.1) rfl, p 3 _ _ rfl (at_lt hh.2.2.1) rfl, p 4 _ _ rfl (at_lt hh.2.2.2.1) rfl, p 5 _ _ rfl (at_lt hh.2.2.2.2) rfl⟩, ⟨p 11 _ _ rfl (at_lt hg.1) rfl, p 12 _ _ rfl (at_lt hg.2) rfl⟩, ⟨p 6 _ _ rfl (at_lt hX.1) rfl, p 7 _ _ rfl (at_lt hX.2.1) rfl, p 8 _ _ rfl (at_lt hX.2.2.1) rfl, p 9 _ _ rfl (at_lt hX.2.2.2.1) rfl, p 10 _ _ rfl (at_lt hX.2.2.2.2) rfl⟩, ⟨p 13 _ _ rfl (at_lt hY.1) rfl, p 14 _ _ rfl (at_lt hY.2.1) rfl, p 15 _ _ rfl (at_lt hY.2.2.1) rfl, p 16 _ _ rfl (at_lt hY.2.2.2.1) rfl, p 17 _ _ rfl (at_lt hY.2.2.2.2) rfl⟩, ⟨p 18 _ _ rfl (at_lt hN.1.1) rfl, p 19 _ _ rfl (at_lt hN.1.2.1) rfl, p 20 _ _ rfl (at_lt hN.1.2.2.1) rfl, p 21 _ _ rfl (at_lt hN.1.2.2.2.1) rfl, p 22 _ _ rfl (at_lt hN.1.2.2.2.2.1) rfl, p 23 _ _ rfl (at_lt hN.1.2.2.2.2.2.1) rfl, p 24 _ _ rfl (at_lt hN.1.2.2.2.2.2.2) rfl⟩, p 25 _ _ rfl (at_lt hN.2.1) rfl, p 26 _ _ rfl (at_lt hN.2.2.1) rfl, p 27 _ _ rfl (at_lt hN.2.2.2.1) rfl, p 28 _ _ rfl (at_lt hN.2.2.2.2.1) rfl, p 29 _ _ rfl (at_lt hN.2.2.2.2.2.1) rfl, p 30 _ _ rfl (at_lt hN.2.2.2.2.2.2) rfl⟩
set_option maxRecDepth 20000 in
theorem nrn2 (n kc g b x : Nat) (s2 : SS) (len2 : Int32) (D2 : Nat → Int32) (cX2 : Int32) (GX G1 G2 G3 : Nat → Int32) (nb2 nt2 : Nat) (hs2 ro2 : Int32) (K2 : Nat → Int32) (cY2 : Int32) (HX H1 H2 H3 : Nat → Int32) (I2 La2 : Nat → Int32) (fd2 : Int32) (P2 Q2 tr2 : Nat → Int32) (dg2 fb2 ft2 hs3 ro3 : Int32) (Kf2 : Nat → Int32) (cv2 : Int32) (RF2 N2 : Nat → Int32) : (nW 113 106 4 5 6 7 8 (nI kc) s2 len2 D2 cX2 GX G1 G2 G3 nb2 nt2 hs2 ro2 K2 cY2 HX H1 H2 H3 I2 La2 fd2 P2 Q2 tr2 dg2 fb2 ft2 hs3 ro3 Kf2 cv2 RF2 N2).map (ab_rc (ab_rho (IS31 x g b) FO31 n)) = [c7 101 101 111 114 118 128 (nI kc) (g + 100), .inr (3, [.ref 102, .ref 105, .ref (b + 100)]), .inr (7, [.ref 103, .ref 104, .int (nI s2.2.2), .int len2]), cI 8 s2.1, cI 64 s2.2.1, cI 40 D2, cB2 x cX2, cI 64 GX, cI 8 G1, cI 8 G2, cI 9 G3, .inr (1, [.ref (g + 1 + 100), .int (nI nb2), .int (nI nt2), .int hs2, .int ro2, .ref (x + 100)]), cI 40 K2, cB2 b cY2, cI 64 HX, cI 8 H1, cI 8 H2, cI 9 H3, .inr (5, [.ref 112, .ref 113]), cI 8 I2, cI 40 La2, .inr (4, [.ref 115, .ref 116, .ref 117, .int fd2]), cI 8 P2, cI 8 Q2, cI 40 tr2, .inr (6, [.ref 119, .ref 126, .ref 127, .int dg2]), .inr (1, [.ref 120, .int fb2, .int ft2, .int hs3, .int ro3, .ref 121]), cI 40 Kf2, .inr (2, [.ref 122, .ref 123, .ref 124, .ref 125, .int cv2]), cI 8 RF2, cI 8 N2] := rfl
set_option maxRecDepth 20000 in
theorem nput2 {w w1 : List ab_C} {kc g b x nb nt : Nat} {s : SS} {len hs ro cX cY : Int32} {D K FX X1 X2 X3 FY Y1 Y2 Y3 : Nat → Int32} {I La : Nat → Int32} {fd : Int32} {P Qb tr : Nat → Int32} {dg fb ft hs' ro' : Int32} {Kf : Nat → Int32} {cv' : Int32} {RF Nn : Nat → Int32} (hn : (IS31 x g b).Nodup) (h7 : C7A w kc g) (hh : HaA w x s len D) (hg : GrA w g b nb nt hs ro K) (hX : BlA w x cX FX X1 X2 X3) (hY : BlA w b cY FY Y1 Y2 Y3) (hN : NmA w I La fd P Qb tr dg fb ft hs' ro' Kf cv' RF Nn) (s2 : SS) (len2 : Int32) (D2 : Nat → Int32) (cX2 : Int32) (GX G1 G2 G3 : Nat → Int32) (nb2 nt2 : Nat) (hs2 ro2 : Int32) (K2 : Nat → Int32) (cY2 : Int32) (HX H1 H2 H3 : Nat → Int32) (I2 La2 : Nat → Int32) (fd2 : Int32) (P2 Q2 tr2 : Nat → Int32) (dg2 fb2 ft2 hs3 ro3 : Int32) (Kf2 : Nat → Int32) (cv2 : Int32) (RF2 N2 : Nat → Int32) (hw1 : w1 = (ab_put w (IS31 x g b) ((nW 113 106 4 5 6 7 8 (nI kc) s2 len2 D2 cX2 GX G1 G2 G3 nb2 nt2 hs2 ro2 K2 cY2 HX H1 H2 H3 I2 La2 fd2 P2 Q2 tr2 dg2 fb2 ft2 hs3 ro3 Kf2 cv2 RF2 N2).map (ab_rc (ab_rho (IS31 x g b) FO31 w.length))))) : C7A w1 kc g ∧ HaA w1 b s2 len2 D2 ∧ GrA w1 g x nb2 nt2 hs2 ro2 K2 ∧ BlA w1 x cX2 GX G1 G2 G3 ∧ BlA w1 b cY2 HX H1 H2 H3 ∧ NmA w1 I2 La2 fd2 P2 Q2 tr2 dg2 fb2 ft2 hs3 ro3 Kf2 cv2 RF2 N2 := by
  rw [nrn2] at hw1
  have p : ∀ (j i : Nat) (c : ab_C), (IS31 x g b)[j]? = some i → i < w.length → [c7 101 101 111 114 118 128 (nI kc) (g + 100), .inr (3, [.ref 102, .ref 105, .ref (b + 100)]), .inr (7, [.ref 103, .ref 104, .int (nI s2.2.2), .int len2]), cI 8 s2.1, cI 64 s2.2.1, cI 40 D2, cB2 x cX2, cI 64 GX, cI 8 G1, cI 8 G2, cI 9 G3, .inr (1, [.ref (g + 1 + 100), .int (nI nb2), .int (nI nt2), .int hs2, .int ro2, .ref (x + 100)]), cI 40 K2, cB2 b cY2, cI 64 HX, cI 8 H1, cI 8 H2, cI 9 H3, .inr (5, [.ref 112, .ref 113]), cI 8 I2, cI 40 La2, .inr (4, [.ref 115, .ref 116, .ref 117, .int fd2]), cI 8 P2, cI 8 Q2, cI 40 tr2, .inr (6, [.ref 119, .ref 126, .ref 127, .int dg2]), .inr (1, [.ref 120, .int fb2, .int ft2, .int hs3, .int ro3, .ref 121]), cI 40 Kf2, .inr (2, [.ref 122, .ref 123, .ref 124, .ref 125, .int cv2]), cI 8 RF2, cI 8 N2][j]? = some c → w1[i]? = some c := fun j i c h1 h2 h3 => by rw [hw1]; exact put_in hn h1 h2 h3
  clear hw1
  exact ⟨p 0 _ _ rfl (at_lt h7) rfl, ⟨p 1 _ _ rfl (at_lt hh.1) rfl, p 2 _ _ rfl (at_lt hh.2.1) rfl, p 3 _ _ rfl (at_lt hh.2.2.1) rfl, p 4 _ _ rfl (at_lt hh.2.2.2.1) rfl, p 5 _ _ rfl (at_lt hh.2.2.2.2) rfl⟩, ⟨p 11 _ _ rfl (at_lt hg.1) rfl, p 12 _ _ rfl (at_lt hg.2) rfl⟩, ⟨p 6 _ _ rfl (at_lt hX.1) rfl, p 7 _ _ rfl (at_lt hX.2.1) rfl, p 8 _ _ rfl (at_lt hX.2.2.1) rfl, p 9 _ _ rfl (at_lt hX.2.2.2.1) rfl, p 10 _ _ rfl (at_lt hX.2.2.2.2) rfl⟩, ⟨p 13 _ _ rfl (at_lt hY.1) rfl, p 14 _ _ rfl (at_lt hY.2.1) rfl, p 15 _ _ rfl (at_lt hY.2.2.1) rfl, p 16 _ _ rfl (at_lt hY.2.2.2.1) rfl, p 17 _ _ rfl (at_lt hY.2.2.2.2) rfl⟩, ⟨p 18 _ _ rfl (at_lt hN.1.1) rfl, p 19 _ _ rfl (at_lt hN.1.2.1) rfl, p 20 _ _ rfl (at_lt hN.1.2.2.1) rfl, p 21 _ _ rfl (at_lt hN.1.2.2.2.1) rfl, p 22 _ _ rfl (at_lt hN.1.2.2.2.2.1) rfl, p 23 _ _ rfl (at_lt hN.1.2.2.2.2.2.1) rfl, p 24 _ _ rfl (at_lt hN.1.2.2.2.2.2.2) rfl⟩, p 25 _ _ rfl (at_lt hN.2.1) rfl, p 26 _ _ rfl (at_lt hN.2.2.1) rfl, p 27 _ _ rfl (at_lt hN.2.2.2.1) rfl, p 28 _ _ rfl (at_lt hN.2.2.2.2.1) rfl, p 29 _ _ rfl (at_lt hN.2.2.2.2.2.1) rfl, p 30 _ _ rfl (at_lt hN.2.2.2.2.2.2) rfl⟩
/-- behind a name: the invariant with the latest as it now is -/
theorem CInv_nm {w w1 : List ab_C} {kc : Nat} {gp bp : Nat → Nat} {bn : Nat} {nbs nts : Nat → Nat} {ks : Nat → Nat → Nat} {n m n' m' : Nat} {N K N' K' : Nat → Nat} (hI : CInv w kc gp bp bn nbs nts ks n m N K) {hs ro : Int32} {Kk : Nat → Int32} {s : SS} {len : Int32} {D : Nat → Int32} {cX cY : Int32} {FX X1 X2 X3 FY Y1 Y2 Y3 : Nat → Int32} {I La : Nat → Int32} {fd : Int32} {P Qb tr : Nat → Int32} {dg fb ft hs' ro' : Int32} {Kf : Nat → Int32} {cv' : Int32} {RF Nn : Nat → Int32} (hh : HaA w bn s len D) (hg : GrA w (gp kc) (bp kc) (nbs kc) (nts kc) hs ro Kk) (hX : BlA w bn cX FX X1 X2 X3) (hY : BlA w (bp kc) cY FY Y1 Y2 Y3) (hN : NmA w I La fd P Qb tr dg fb ft hs' ro' Kf cv' RF Nn) (hkk : keysOk Kk (ks kc) (nts kc) (nbs kc)) (hri : ∀ i j, i < j → j < nts kc → Kk i < Kk j) {s2 : SS} {len2 : Int32} {D2 : Nat → Int32} {R : Nat} {F2 f1 f2 f3 E e1 e2 e3 : Nat → Int32} {ce : Int32} {o rk st : Nat → Nat} {cn : Nat} (hHs : Hsh (nbs kc) (nts kc) (ks kc) F2 R) (hGr : grpOk F2 f1 f2 f3 (nbs kc) o rk st cn) {I2 La2 : Nat → Int32} {fd2 : Int32} {P2 Q2 tr2 : Nat → Int32} {dg2 fb2 ft2 hs3 ro3 : Int32} {Kf2 : Nat → Int32} {cv2 : Int32} {RF2 N2 : Nat → Int32} {w' : List ab_C} (hq : w' = (nW 106 113 4 5 6 7 8 (nI kc) s2 len2 D2 ce E e1 e2 e3 (nbs kc) (nts kc) 1 (nI R) Kk (nI cn) F2 f1 f2 f3 I2 La2 fd2 P2 Q2 tr2 dg2 fb2 ft2 hs3 ro3 Kf2 cv2 RF2 N2) ∨ w' = (nW 113 106 4 5 6 7 8 (nI kc) s2 len2 D2 (nI cn) F2 f1 f2 f3 (nbs kc) (nts kc) 1 (nI R) Kk ce E e1 e2 e3 I2 La2 fd2 P2 Q2 tr2 dg2 fb2 ft2 hs3 ro3 Kf2 cv2 RF2 N2)) (hL : ∀ Dg : Nat → Int32, w[27]? = some (cI 8 Dg) → NmA w1 I2 La2 fd2 P2 Q2 tr2 dg2 fb2 ft2 hs3 ro3 Kf2 cv2 RF2 N2 → w1[27]? = some (cI 8 Dg) → LatA w1 n' m' N' K') (hw1 : w1 = (ab_put w (IS31 bn (gp kc) (bp kc)) (w'.map (ab_rc (ab_rho (IS31 bn (gp kc) (bp kc)) FO31 w.length))))) : CPost w kc gp nbs nts ks n' m' N' K' w1 := by
  obtain ⟨i1, i2, i3, i4, i5, i6, i7, i8⟩ := id hI
  obtain ⟨z1, z2, z3, z4, z5, z6, z7, z8⟩ := id i8
  have lk := Nat.le_refl kc
  have hn : (IS31 bn (gp kc) (bp kc)).Nodup := nd31 z3 (z1 kc lk) (z2 kc lk) (z7 kc lk) (z8 kc lk) (z6 kc kc lk lk)
  obtain ⟨_, _, _, _, _, _, _, _, _, _, g8, g40, _, _, _⟩ := i5 kc lk
  have hmid : ∀ (i : Nat), (i = 27 ∨ i = 28 ∨ i = 22 ∨ i = 23 ∨ i = 25) ∨ (36 ≤ i ∧ i < 56) → w1[i]? = w[i]? := fun i hi => by
    rw [hw1]
    exact put_out (nm31 (by omega) (by omega) (by have := z1 kc lk; omega) (by have := z2 kc lk; omega))
  have hoth : ∀ (a : Nat), a < kc → ∀ i, (gp a ≤ i ∧ i < gp a + 2) ∨ (bp a ≤ i ∧ i < bp a + 5) → w1[i]? = w[i]? := fun a ha i hi => by
    have la : a ≤ kc := by omega
    by_cases h6 : i < 28
    · have b1 := z1 a la
      have b2 := z2 a la
      have e6 : bp a = 6 := by omega
      rw [hw1]
      refine put_out (fun h => ?_)
      have c1 := z7 a la
      have c2 := z5 a kc la lk (by omega)
      have c3 := z6 kc a lk la
      simp at h
      omega
    · rw [hw1]
      exact put_out (nm31 (by omega) (by have := z7 a la; have := z8 a la; omega) (by have := z4 a kc la lk (by omega); have := z6 kc a lk la; omega) (by have := z5 a kc la lk (by omega); have := z6 a kc la lk; omega))
  have hl27 : NmA w1 I2 La2 fd2 P2 Q2 tr2 dg2 fb2 ft2 hs3 ro3 Kf2 cv2 RF2 N2 → LatA w1 n' m' N' K' := fun hN1 => by
    obtain ⟨I0, La0, fd0, P0, Qb0, tr0, dg0, hs0, ro0, Kf0, cv0, RF0, Nn0, Dg, gI, gP, gQ, _, ⟨_, _, _, _, _, _, b7⟩, _⟩ := i6
    exact hL Dg b7 hN1 (at_congr (hmid 27 (by omega)) b7)
  refine ⟨?_, fun i hi => hmid i (by omega), by rw [hw1]; exact ab_put_len _ _ _⟩
  have mk : ∀ {bp' : Nat → Nat} {bn' : Nat}, Sep kc gp bp' bn' → (∀ a, a < kc → bp' a = bp a) → C7A w1 kc (gp kc) → (∃ s len D, HaA w1 bn' s len D) → (∃ ce E e1 e2 e3, BlA w1 bn' ce E e1 e2 e3) → GOk w1 (gp kc) (bp' kc) (nbs kc) (nts kc) (ks kc) → LatA w1 n' m' N' K' → CInv w1 kc gp bp' bn' nbs nts ks n' m' N' K' := fun {bp' bn'} hS hb h7 hH hB hG hl => by
    refine ⟨i1, h7, hH, hB, fun a ha => ?_, hl, at_congr (hmid 28 (by omega)) i7, hS⟩
    by_cases e : a = kc
    · rw [e]; exact hG
    · rw [hb a (by omega)]
      exact GOk_out (hoth a (by omega)) (i5 a ha)
  rcases hq with hq | hq
  all_goals rw [hq] at hw1
  · obtain ⟨p1, p2, p3, p4, p5, p6⟩ := nput1 hn i2 hh hg hX hY hN s2 len2 D2 ce E e1 e2 e3 (nbs kc) (nts kc) 1 (nI R) Kk (nI cn) F2 f1 f2 f3 I2 La2 fd2 P2 Q2 tr2 dg2 fb2 ft2 hs3 ro3 Kf2 cv2 RF2 N2 hw1
    exact ⟨bp, bn, mk i8 (fun _ _ => rfl) p1 ⟨_, _, _, p2⟩ ⟨_, _, _, _, _, p4⟩ ⟨1, nI R, Kk, nI cn, F2, f1, f2, f3, p3, p5, g8, g40, hkk, hri, Or.inr ⟨rfl, R, o, rk, st, cn, rfl, rfl, hHs, hGr⟩⟩ (hl27 p6)⟩
  · obtain ⟨p1, p2, p3, p4, p5, p6⟩ := nput2 hn i2 hh hg hX hY hN s2 len2 D2 (nI cn) F2 f1 f2 f3 (nbs kc) (nts kc) 1 (nI R) Kk ce E e1 e2 e3 I2 La2 fd2 P2 Q2 tr2 dg2 fb2 ft2 hs3 ro3 Kf2 cv2 RF2 N2 hw1
    have u1 : updN bp kc bn kc = bn := updN_s
    refine ⟨updN bp kc bn, bp kc, mk (Sep_swap i8) (fun a ha => updN_n (by omega)) p1 ⟨_, _, _, p2⟩ ⟨_, _, _, _, _, p5⟩ ?_ (hl27 p6)⟩
    rw [u1]
    exact ⟨1, nI R, Kk, nI cn, F2, f1, f2, f3, p3, p4, g8, g40, hkk, hri, Or.inr ⟨rfl, R, o, rk, st, cn, rfl, rfl, hHs, hGr⟩⟩
theorem rowF_30 {q h : Nat → Nat} {nt nb : Nat} (hnb : nb ≤ 8) (hq : Vk q nt nb) (hp : PermH nb h) : ∀ j, j < nt → rowF q nt h j < 2 ^ 30 := fun j hj => by
  have hm : rowF q nt h j ∈ rowL q nt h := by
    unfold rowF
    rw [List.getD_eq_getElem?_getD, List.getElem?_eq_getElem (by rw [rowL_len]; exact hj)]
    exact List.getElem_mem _
  unfold rowL at hm
  have hm := (srtN_perm _).mem_iff.mp hm
  rw [List.mem_map] at hm
  obtain ⟨i, hi, e⟩ := hm
  rw [← e]
  exact (keyK_rn hnb hp (hq.1 i (List.mem_range.mp hi))).1
/-- the answer of name and what it leaves -/
def NamP (w : List ab_C) (kc : Nat) (gp : Nat → Nat) (nbs nts : Nat → Nat) (ks : Nat → Nat → Nat) (n m : Nat) (N K : Nat → Nat) (steps : Int64) (w1 : List ab_C) (v : Option Value) : Prop := ∃ (F : Nat → Int32) (R : Nat) (o rk st : Nat → Nat) (cn : Nat), Hsh (nbs kc) (nts kc) (ks kc) F R ∧ GP (hv F) (nbs kc) o rk st cn ∧ (((¬ lN (nmg st cn) ≤ steps) ∧ CPost w kc gp nbs nts ks n m N K w1 ∧ v = some (.int (-1))) ∨ (lN (nmg st cn) ≤ steps ∧ ∃ (y : SX) (h : Nat → Nat), (Nam (nbs kc) o rk y.2.2.1 ∧ (∀ j, j < nts kc → y.2.2.2 j = rowF (ks kc) (nts kc) y.2.2.1 j) ∧ ∀ s, Nam (nbs kc) o rk s → ¬ LtR (rowF (ks kc) (nts kc) s) y.2.2.2 (nts kc)) ∧ (PermH (nbs kc) h ∧ NMg (nbs kc) o rk h ∧ Bc (ks kc) (nts kc) y.2.2.2 (nts kc) h ∧ ∀ h2, PermH (nbs kc) h2 → NMg (nbs kc) o rk h2 → Bc (ks kc) (nts kc) y.2.2.2 (nts kc) h2 → LexLe 0 (nbs kc) h h2) ∧ CPost w kc gp nbs nts ks (nbs kc) (nts kc) h y.2.2.2 w1 ∧ v = some (.int (nI (nP (nbs kc) (Bc (ks kc) (nts kc) (ks kc) (nts kc)) (9 ^ nbs kc))))))
set_option maxHeartbeats 1000000 in
theorem cal_name {w : List ab_C} {kc : Nat} {gp bp : Nat → Nat} {bn : Nat} {nbs nts : Nat → Nat} {ks : Nat → Nat → Nat} {n m : Nat} {N K : Nat → Nat} (d : Nat) (steps : Int64) (hI : CInv w kc gp bp bn nbs nts ks n m N K) : Cal mX7_name (d + 13) w [.ref 100, .long steps] (NamP w kc gp nbs nts ks n m N K steps) := by
  obtain ⟨i1, i2, ⟨s, len, D, hh⟩, ⟨cX, FX, X1, X2, X3, hX⟩, i5, i6, i7, i8⟩ := id hI
  obtain ⟨hs, ro, Kk, cY, FY, Y1, Y2, Y3, hg, hY, g8, g40, hkk, hri, hHS⟩ := i5 kc (Nat.le_refl _)
  obtain ⟨I, La, fd, P, Qb, tr, dg, hs', ro', Kf, cv', RF, Nn, Dg, gI, gP, gQ, l1, ⟨l2, l3, l4, l5, l6, l7, l8⟩, hIg, hPg, hQg, hn8, hm40, hKf, hNn, hDg⟩ := id i6
  have hN : NmA w I La fd P Qb tr dg (nI n) (nI m) hs' ro' Kf cv' RF Nn := ⟨l1, l2, l3, l4, l5, l6, l7⟩
  obtain ⟨z1, z2, z3, z4, z5, z6, z7, z8⟩ := id i8
  have lk := Nat.le_refl kc
  have hnd : (IS31 bn (gp kc) (bp kc)).Nodup := nd31 z3 (z1 kc lk) (z2 kc lk) (z7 kc lk) (z8 kc lk) (z6 kc kc lk lk)
  have hf := nfit i2 hh hg hX hY hN
  have V1 := keysOk_V hkk hri
  have hsl := fun (o rk st : Nat → Nat) (cn R : Nat) (F : Nat → Int32) (hH : Hsh (nbs kc) (nts kc) (ks kc) F R) (hG : GP (hv F) (nbs kc) o rk st cn) => srch_least g8 V1 hG (fun h h1 h2 => auto_rank g8 V1 hH hG h1 h2) gP gQ (fun _ => 0)
  refine ⟨IS31 bn (gp kc) (bp kc), FO31, _, [.ref 100, .long steps], _, con_name d (nbs kc) (nts kc) g8 g40 4 5 6 7 8 (nI kc) s len hs ro cX cY D FX X1 X2 X3 Kk FY Y1 Y2 Y3 (ks kc) hkk hri hHS I La fd P Qb tr dg (nI n) (nI m) hs' ro' Kf cv' RF Nn gI gP gQ hIg hPg hQg (fun o rk st cn R F hH hG => ?_) steps, hf, nd_of hnd, rfl, fun w' v h => ?_, fun w' v h => ?_⟩
  · obtain ⟨y, hy, y1, y2, y3, y4⟩ := hsl o rk st cn R F hH hG
    rw [hy]
    exact ⟨y1, fun i j hij hj => by rw [y3 i (by omega), y3 j hj]; exact rowF_strict g8 V1 y2.1 i j hij hj⟩
  · obtain ⟨_, _, _, _, _, _, _, _, _, _, _, _, _, _, _, _, _, _, _, h⟩ := h
    rcases h with ⟨_, h | h, _⟩ | ⟨_, _, _, _, _, _, _, _, _, _, _, _, _, _, h | h, _⟩ <;> rw [h] <;> exact (rfl : (31 : Nat) = 31)
  · obtain ⟨s2, len2, D2, R, F2, f1, f2, f3, E, e1, e2, e3, ce, o, rk, st, cn, hHs, hGr, h⟩ := h
    have hsi := step_iff (nmg_lt g8 hGr.1) steps
    refine ⟨F2, R, o, rk, st, cn, hHs, hGr.1, ?_⟩
    rcases h with ⟨hst, hq, rfl⟩ | ⟨hst, I2, I3, La3, fd2, P2, Q2, tr2, Kf2, RF2, N2, dg2, h, h3, hq, hrep, hRF, hI2, hI3, hres, rfl⟩
    · exact Or.inl ⟨fun z => hst (hsi.mpr z), CInv_nm hI hh hg hX hY hN hkk hri hHs hGr hq (fun Dg' hD hN1 hD1 => ⟨I, La, fd, P, Qb, tr, dg, hs', ro', Kf, cv', RF, Nn, Dg', gI, gP, gQ, hN1.1, ⟨hN1.2.1, hN1.2.2.1, hN1.2.2.2.1, hN1.2.2.2.2.1, hN1.2.2.2.2.2.1, hN1.2.2.2.2.2.2, hD1⟩, hIg, hPg, hQg, hn8, hm40, hKf, hNn, by
        have e : cI 8 Dg = cI 8 Dg' := Option.some.inj (l8.symm.trans hD)
        have e : Dg = Dg' := by injection e with e; injection e with _ e; injection e with _ e; injection e
        rw [← e]
        exact hDg⟩) rfl, rfl⟩
    · obtain ⟨y, hy, y1, y2, y3, y4⟩ := hsl o rk st cn R F2 hHs hGr.1
      rw [hy] at hrep
      have y30 : ∀ j, j < nts kc → y.2.2.2 j < 2 ^ 30 := fun j hj => by rw [y3 j hj]; exact rowF_30 g8 V1 y2.1 j hj
      have hK2 : ∀ j, j < nts kc → Kf2 j = nI (y.2.2.2 j) ∧ y.2.2.2 j < 2 ^ 30 := fun j hj => ⟨(hrep.2.2.1 y1 j hj).1, y30 j hj⟩
      have rl : ∀ c, c < nbs kc → rk c < 8 := fun c hc => by
        have h1 := hGr.1.2.2.2.1 c hc
        have h2 := hGr.1.2.2.2.2.2.2.2.1
        omega
      have wi : ∀ h2, Way (ks kc) (nts kc) (nbs kc) f2 Kf2 RF2 (nts kc) (nbs kc) h2 ↔ PermH (nbs kc) h2 ∧ (∀ c, c < nbs kc → rk c = rk (o (h2 c - 1))) ∧ Bc (ks kc) (nts kc) y.2.2.2 (nts kc) h2 := fun h2 => way_iff (rk' := fun j => rk (o j)) V1.1 hK2 (fun c hc => ⟨hGr.2.2.1 c hc, rl c hc⟩) (fun c hc => ⟨hRF c hc, rl _ (hGr.1.1 c hc)⟩)
      have wi2 : ∀ h2, Way (ks kc) (nts kc) (nbs kc) f2 Kf2 RF2 (nts kc) (nbs kc) h2 ↔ PermH (nbs kc) h2 ∧ NMg (nbs kc) o rk h2 ∧ Bc (ks kc) (nts kc) y.2.2.2 (nts kc) h2 := fun h2 => by
        rw [wi h2]
        exact ⟨fun z => ⟨z.1, fun c hc => (z.2.1 c hc).symm, z.2.2⟩, fun z => ⟨z.1, fun c hc => (z.2.1 c hc).symm, z.2.2⟩⟩
      have hex : Way (ks kc) (nts kc) (nbs kc) f2 Kf2 RF2 (nts kc) (nbs kc) y.2.2.1 := (wi2 _).mpr ⟨y2.1, y2.2, (Bc_tgt y3).mpr ((row_Bc g8 V1 y2.1).mpr (fun _ _ => rfl))⟩
      rcases hres with ⟨hW, hlex, hN2, hdg⟩ | ⟨hno, _⟩
      rotate_left
      · exact absurd ⟨_, hex⟩ hno
      obtain ⟨w1, w2, w3⟩ := (wi2 h).mp hW
      refine Or.inr ⟨hsi.mp hst, y, h, ⟨y2, y3, y4⟩, ⟨w1, w2, w3, fun h2 a b c => hlex h2 ((wi2 h2).mpr ⟨a, b, c⟩)⟩, CInv_nm hI hh hg hX hY hN hkk hri hHs hGr hq (fun Dg' hD hN1 hD1 => ⟨I3, La3, fd2, P2, Q2, tr2, dg2, hs', ro', Kf2, cv', RF2, N2, Dg', h3, y.1, y.2.2.1, hN1.1, ⟨hN1.2.1, hN1.2.2.1, hN1.2.2.2.1, hN1.2.2.2.2.1, hN1.2.2.2.2.2.1, hN1.2.2.2.2.2.2, hD1⟩, hI3, hrep.1, hrep.2.1, g8, g40, hK2, fun c hc => ?_, Or.inl hdg⟩) rfl, ?_⟩
      · rw [hN2]
        show (if 0 ≤ c ∧ c < 0 + nbs kc then I2 (0 + (c - 0)) else Nn c) = nI (h c)
        rw [if_pos (by omega), Nat.sub_zero, Nat.zero_add]
        exact (hI2 c (by omega)).1
      · rw [aut_eq (rk := rk) g8 V1 (fun j hj => ⟨(hkk j hj).1, (hkk j hj).2.1⟩) (fun c hc => ⟨hGr.2.2.1 c hc, rl c hc⟩) (fun h h1 h2 => auto_rank g8 V1 hHs hGr.1 h1 h2)]
        rfl
