/-! The class in the law's world. -/
abbrev cB2 (b : Nat) (c : Int32) : ab_C := .inr (2, [.ref (b + 1 + 100), .ref (b + 2 + 100), .ref (b + 3 + 100), .ref (b + 4 + 100), .int c])
def BlA (w : List ab_C) (b : Nat) (c : Int32) (F f1 f2 f3 : Nat → Int32) : Prop := w[b]? = some (cB2 b c) ∧ w[b + 1]? = some (cI 64 F) ∧ w[b + 2]? = some (cI 8 f1) ∧ w[b + 3]? = some (cI 8 f2) ∧ w[b + 4]? = some (cI 9 f3)
def GrA (w : List ab_C) (g b nb nt : Nat) (hs ro : Int32) (K : Nat → Int32) : Prop := w[g]? = some (.inr (1, [.ref (g + 1 + 100), .int (nI nb), .int (nI nt), .int hs, .int ro, .ref (b + 100)])) ∧ w[g + 1]? = some (cI 40 K)
/-- hasher and sha -/
def HaA (w : List ab_C) (x : Nat) (s : SS) (len : Int32) (D : Nat → Int32) : Prop := w[1]? = some (.inr (3, [.ref 102, .ref 105, .ref (x + 100)])) ∧ w[2]? = some (.inr (7, [.ref 103, .ref 104, .int (nI s.2.2), .int len])) ∧ w[3]? = some (cI 8 s.1) ∧ w[4]? = some (cI 64 s.2.1) ∧ w[5]? = some (cI 40 D)
def C7A (w : List ab_C) (kc g : Nat) : Prop := w[0]? = some (c7 101 101 111 114 118 128 (nI kc) (g + 100))
set_option maxRecDepth 20000 in
theorem vfit {w : List ab_C} {kc g b x nb nt : Nat} {s : SS} {len hs ro cX cY : Int32} {D K FX X1 X2 X3 FY Y1 Y2 Y3 : Nat → Int32} (h7 : C7A w kc g) (hh : HaA w x s len D) (hg : GrA w g b nb nt hs ro K) (hX : BlA w x cX FX X1 X2 X3) (hY : BlA w b cY FY Y1 Y2 Y3) : ab_fits [0, 1, 2, 3, 4, 5, x, x + 1, x + 2, x + 3, x + 4, g, g + 1, b, b + 1, b + 2, b + 3, b + 4] [111, 114, 118, 128] (vW 106 113 4 5 6 7 (nI kc) s len D cX FX X1 X2 X3 nb nt hs ro K cY FY Y1 Y2 Y3) w := by
  unfold ab_fits
  simp only [List.map_cons, List.map_nil]
  rw [show w[0]? = _ from h7, hh.1, hh.2.1, hh.2.2.1, hh.2.2.2.1, hh.2.2.2.2, hX.1, hX.2.1, hX.2.2.1, hX.2.2.2.1, hX.2.2.2.2, hg.1, hg.2, hY.1, hY.2.1, hY.2.2.1, hY.2.2.2.1, hY.2.2.2.2]
  rfl
