/-! CanonNames.becomes -/
abbrev bW (nx gr tg : Nat) (m2 m3 m4 : Nat) (kc : Int32) (s : SS) (len : Int32) (D : Nat → Int32) (cX : Int32) (FX X1 X2 X3 : Nat → Int32) (nb nt : Nat) (hs ro : Int32) (K : Nat → Int32) (cY : Int32) (FY Y1 Y2 Y3 : Nat → Int32) (I La : Nat → Int32) (nb' nt' : Nat) (hs' ro' : Int32) (K' : Nat → Int32) (cZ : Int32) (FZ Z1 Z2 Z3 : Nat → Int32) : List ab_C :=
  [c7 102 101 118 m2 m3 m4 kc 111, .inr (3, [.ref 102, .ref 105, .ref nx]), .inr (7, [.ref 103, .ref 104, .int (nI s.2.2), .int len]), cI 8 s.1, cI 64 s.2.1, cI 40 D, .inr (2, [.ref 107, .ref 108, .ref 109, .ref 110, .int cX]), cI 64 FX, cI 8 X1, cI 8 X2, cI 9 X3,
   .inr (1, [.ref 112, .int (nI nb), .int (nI nt), .int hs, .int ro, .ref gr]), cI 40 K, .inr (2, [.ref 114, .ref 115, .ref 116, .ref 117, .int cY]), cI 64 FY, cI 8 Y1, cI 8 Y2, cI 9 Y3,
   .inr (5, [.ref 119, .ref 120]), cI 8 I, cI 40 La, .inr (1, [.ref 122, .int (nI nb'), .int (nI nt'), .int hs', .int ro', .ref tg]), cI 40 K', .inr (2, [.ref 124, .ref 125, .ref 126, .ref 127, .int cZ]), cI 64 FZ, cI 8 Z1, cI 8 Z2, cI 9 Z3]
set_option maxRecDepth 20000 in
set_option maxHeartbeats 8000000 in
theorem con_becomes (d nb nt nb' nt' : Nat) (hnb : nb ≤ 8) (hnt : nt ≤ 40) (hnb' : nb' ≤ 8) (hnt' : nt' ≤ 40) (m2 m3 m4 : Nat) (kc : Int32) (s : SS) (len hs ro hs' ro' : Int32) (D K K' : Nat → Int32) (k k' : Nat → Nat) (cX : Int32) (FX X1 X2 X3 : Nat → Int32) (cY : Int32) (FY Y1 Y2 Y3 : Nat → Int32) (cZ : Int32) (FZ Z1 Z2 Z3 : Nat → Int32) (hk : keysOk K k nt nb) (hH : HS hs ro cY nb nt k FY Y1 Y2 Y3) (hk' : keysOk K' k' nt' nb') (hH' : HS hs' ro' cZ nb' nt' k' FZ Z1 Z2 Z3) (hKs' : ∀ i j, i < j → j < nt' → K' i < K' j) (I La : Nat → Int32) (g : Nat → Nat) (hI : ∀ j, j < 8 → I j = nI (g j) ∧ g j ≤ 8) : Con mX7_becomes (d + 13) 0 0 (bW 106 113 123 m2 m3 m4 kc s len D cX FX X1 X2 X3 nb nt hs ro K cY FY Y1 Y2 Y3 I La nb' nt' hs' ro' K' cZ FZ Z1 Z2 Z3) [.ref 100, .ref 121] (fun w' v => ((¬ (nb = nb' ∧ nt = nt')) ∧ w' = (bW 106 113 123 m2 m3 m4 kc s len D cX FX X1 X2 X3 nb nt hs ro K cY FY Y1 Y2 Y3 I La nb' nt' hs' ro' K' cZ FZ Z1 Z2 Z3) ∧ v = some (.int 0)) ∨ ((nb = nb' ∧ nt = nt') ∧ ∃ (s2 : SS) (len2 : Int32) (D2 : Nat → Int32) (R : Nat) (F2 f1 f2 f3 E e1 e2 e3 : Nat → Int32) (ce : Int32) (o rk st : Nat → Nat) (cn : Nat), Hsh nb nt k F2 R ∧ grpOk F2 f1 f2 f3 nb o rk st cn ∧ ∃ (s4 : SS) (len4 : Int32) (D4 : Nat → Int32) (R' : Nat) (F4 g1 g2 g3 E' x1 x2 x3 : Nat → Int32) (ce' : Int32) (o' rk' st' : Nat → Nat) (cn' : Nat), Hsh nb' nt' k' F4 R' ∧ grpOk F4 g1 g2 g3 nb' o' rk' st' cn' ∧ ∃ (I2 La2 : Nat → Int32) (h : Nat → Nat), (w' = (bW 106 113 123 m2 m3 m4 kc s4 len4 D4 ce' E' x1 x2 x3 nb nt 1 (nI R) K (nI cn) F2 f1 f2 f3 I2 La2 nb' nt' 1 (nI R') K' (nI cn') F4 g1 g2 g3) ∨ w' = (bW 123 113 106 m2 m3 m4 kc s4 len4 D4 (nI cn') F4 g1 g2 g3 nb nt 1 (nI R) K (nI cn) F2 f1 f2 f3 I2 La2 nb' nt' 1 (nI R') K' ce' E' x1 x2 x3) ∨ w' = (bW 113 106 123 m2 m3 m4 kc s4 len4 D4 (nI cn) F2 f1 f2 f3 nb nt 1 (nI R) K ce' E' x1 x2 x3 I2 La2 nb' nt' 1 (nI R') K' (nI cn') F4 g1 g2 g3) ∨ w' = (bW 123 106 113 m2 m3 m4 kc s4 len4 D4 (nI cn) F2 f1 f2 f3 nb nt 1 (nI R) K (nI cn') F4 g1 g2 g3 I2 La2 nb' nt' 1 (nI R') K' ce' E' x1 x2 x3)) ∧ (∀ j, j < 8 → I2 j = nI (h j) ∧ h j ≤ 8) ∧ (((¬ (∀ j, j < nb → hv F2 (o j) = hv F4 (o' j))) ∧ v = some (.int 0)) ∨ ((∀ j, j < nb → hv F2 (o j) = hv F4 (o' j)) ∧ ((Way k nt nb f2 K' g2 nt' nb' h ∧ v = some (.int 1)) ∨ ((¬ ∃ h2, Way k nt nb f2 K' g2 nt' nb' h2) ∧ v = some (.int 0))))))) := by
  refine Con.of (ab_okc rfl (by decide)) (Nat.le_of_ble_eq_true rfl) ?_
  show G ab_x0 mX7_becomes (d + 12 + 1) 0 0 _ 0 [some (.ref 100), some (.ref 121)] [] _
  have hK30 : ∀ i, i < nt → K i = nI (k i) ∧ k i < 2 ^ 30 := fun i hi => ⟨(hk i hi).1, (hk i hi).2.1⟩
  refine G_aload_n dX7_becomes_0 rfl ?_
  refine G_get (f := 6) kc8 dX7_becomes_1 fX7_48 (by decide) rfl rfl ?_
  refine G_aload_n dX7_becomes_4 rfl ?_
  refine G_V (is := [11, 21]) (fo := [112, 113, 122, 123]) (as := [.ref 100, .ref 101]) (as' := [.ref 121]) (st := []) (k := 0) (n := 0) cX7_becomes_5 (con_hasSizesOf (d + 12) nb nt nb' nt' hnb hnt hnb' hnt' (.ref 4) (.int hs) (.int ro) (.ref 5) (.ref 6) (.int hs') (.int ro') (.ref 7)) ab_pfx rfl (by decide) rfl rfl rfl rfl rfl rfl (Nat.le_of_ble_eq_true rfl) dX7_becomes_5 (fun w' v h => by rw [h.1]) (fun w2 v2 hq => ?_)
  obtain ⟨rfl, rfl⟩ := hq
  refine G_w (st' := [.int (bi (decide (nb = nb' ∧ nt = nt')))]) (w' := (bW 106 113 123 m2 m3 m4 kc s len D cX FX X1 X2 X3 nb nt hs ro K cY FY Y1 Y2 Y3 I La nb' nt' hs' ro' K' cZ FZ Z1 Z2 Z3)) rfl rfl ?_
  refine G_if_ne (tgt := 13) dX7_becomes_8 (by decide) (fun h => ?_) (fun h => ?_)
  rotate_left
  · have hp : ¬ (nb = nb' ∧ nt = nt') := fun q => by rw [decide_eq_true q] at h; exact absurd h (by decide)
    refine G_iconst (v := 0) dX7_becomes_11 (by decide) ?_
    exact G_ret (v := some (.int _)) ⟨dX7_becomes_12, _, rfl, rfl⟩ (Or.inl ⟨hp, rfl, rfl⟩)
  have hsz : nb = nb' ∧ nt = nt' := of_decide_eq_true (bi_eq1.mp h)
  clear h
  refine G_aload_n dX7_becomes_13 rfl ?_
  refine G_get (f := 0) kc8 dX7_becomes_14 fX7_10 (by decide) rfl rfl ?_
  refine G_aload_n dX7_becomes_17 rfl ?_
  refine G_get (f := 6) kc8 dX7_becomes_18 fX7_48 (by decide) rfl rfl ?_
  refine G_V (is := [1, 2, 3, 4, 5, 6, 7, 8, 9, 10, 11, 12, 13, 14, 15, 16, 17]) (fo := []) (as := [.ref 100, .ref 110]) (as' := [.ref 111]) (st := []) (k := 0) (n := 0) cX7_becomes_21 (con_refreshU (d + 8) nb nt hnb hnt s len hs ro cX cY D FX X1 X2 X3 K FY Y1 Y2 Y3 k hk hH) ab_pfx rfl (by decide) rfl rfl rfl rfl rfl rfl (Nat.le_of_ble_eq_true rfl) dX7_becomes_21 (fun w' v h => by obtain ⟨_, _, _, _, _, _, _, _, _, _, _, _, _, _, _, _, _, _, _, _, h | h⟩ := h <;> rw [h] <;> exact (rfl : (17 : Nat) = 17)) (fun w2 v2 hq => ?_)
  obtain ⟨rfl, s2, len2, D2, R, F2, f1, f2, f3, E, e1, e2, e3, ce, o, rk, st, cn, hHs, hGr, hq⟩ := hq
  have hO1 : ∀ j, j < nb → f1 j = nI (o j) ∧ o j < 8 := fun j hj => ⟨hGr.2.1 j hj, by have := hGr.1.1 j hj; omega⟩
  rcases hq with rfl | rfl
  · skip
    refine G_w (st' := []) (w' := (bW 106 113 123 m2 m3 m4 kc s2 len2 D2 ce E e1 e2 e3 nb nt 1 (nI R) K (nI cn) F2 f1 f2 f3 I La nb' nt' hs' ro' K' cZ FZ Z1 Z2 Z3)) rfl rfl ?_
    refine G_aload_n dX7_becomes_24 rfl ?_
    refine G_get (f := 0) kc8 dX7_becomes_25 fX7_10 (by decide) rfl rfl ?_
    refine G_aload_n dX7_becomes_28 rfl ?_
    refine G_V (is := [1, 2, 3, 4, 5, 6, 7, 8, 9, 10, 21, 22, 23, 24, 25, 26, 27]) (fo := []) (as := [.ref 100, .ref 110]) (as' := [.ref 121]) (st := []) (k := 0) (n := 0) cX7_becomes_29 (con_refreshU (d + 8) nb' nt' hnb' hnt' s2 len2 hs' ro' ce cZ D2 E e1 e2 e3 K' FZ Z1 Z2 Z3 k' hk' hH') ab_pfx rfl (by decide) rfl rfl rfl rfl rfl rfl (Nat.le_of_ble_eq_true rfl) dX7_becomes_29 (fun w' v h => by obtain ⟨_, _, _, _, _, _, _, _, _, _, _, _, _, _, _, _, _, _, _, _, h | h⟩ := h <;> rw [h] <;> exact (rfl : (17 : Nat) = 17)) (fun w2 v2 hq => ?_)
    obtain ⟨rfl, s4, len4, D4, R', F4, g1, g2, g3, E', x1, x2, x3, ce', o', rk', st', cn', hHs', hGr', hq⟩ := hq
    have hO2 : ∀ j, j < nb → g1 j = nI (o' j) ∧ o' j < 8 := fun j hj => ⟨hGr'.2.1 j (by omega), by have := hGr'.1.1 j (by omega); omega⟩
    rcases hq with rfl | rfl
    · skip
      refine G_w (st' := []) (w' := (bW 106 113 123 m2 m3 m4 kc s4 len4 D4 ce' E' x1 x2 x3 nb nt 1 (nI R) K (nI cn) F2 f1 f2 f3 I La nb' nt' 1 (nI R') K' (nI cn') F4 g1 g2 g3)) rfl rfl ?_
      refine G_aload_n dX7_becomes_32 rfl ?_
      refine G_get (f := 6) kc8 dX7_becomes_33 fX7_48 (by decide) rfl rfl ?_
      refine G_get (f := 5) kc1 dX7_becomes_36 fX7_85 (by decide) rfl rfl ?_
      refine G_aload_n dX7_becomes_39 rfl ?_
      refine G_get (f := 5) kc1 dX7_becomes_40 fX7_85 (by decide) rfl rfl ?_
      refine G_aload_n dX7_becomes_43 rfl ?_
      refine G_get (f := 6) kc8 dX7_becomes_44 fX7_48 (by decide) rfl rfl ?_
      refine G_get (f := 1) kc1 dX7_becomes_47 fX7_52 (by decide) rfl rfl ?_
      refine G_V (is := [13, 14, 15, 23, 24, 25]) (fo := [116, 117, 126, 127]) (as := [.ref 100, .ref 103, .int (nI nb)]) (as' := [.ref 123, .int (nI nb)]) (st := []) (k := 0) (n := 0) cX7_becomes_50 (con_hasHashesOf (d + 12) nb hnb F2 f1 F4 g1 o o' hO1 hO2 (.ref 4) (.ref 5) (.int (nI cn)) (.ref 6) (.ref 7) (.int (nI cn'))) ab_pfx rfl (by decide) rfl rfl rfl rfl rfl rfl (Nat.le_of_ble_eq_true rfl) dX7_becomes_50 (fun w' v h => by rw [h.1]) (fun w2 v2 hq => ?_)
      obtain ⟨rfl, hq⟩ := hq
      rcases hq with ⟨hsame, rfl⟩ | ⟨hno, rfl⟩
      rotate_left
      · refine G_w (st' := [.int 0]) (w' := (bW 106 113 123 m2 m3 m4 kc s4 len4 D4 ce' E' x1 x2 x3 nb nt 1 (nI R) K (nI cn) F2 f1 f2 f3 I La nb' nt' 1 (nI R') K' (nI cn') F4 g1 g2 g3)) rfl rfl ?_
        refine G_if_ne (tgt := 58) dX7_becomes_53 (by decide) (fun h => absurd rfl h) (fun _ => ?_)
        refine G_iconst (v := 0) dX7_becomes_56 (by decide) ?_
        exact G_ret (v := some (.int _)) ⟨dX7_becomes_57, _, rfl, rfl⟩ (Or.inr ⟨hsz, s2, len2, D2, R, F2, f1, f2, f3, E, e1, e2, e3, ce, o, rk, st, cn, hHs, hGr, s4, len4, D4, R', F4, g1, g2, g3, E', x1, x2, x3, ce', o', rk', st', cn', hHs', hGr', I, La, g, Or.inl rfl, hI, Or.inl ⟨hno, rfl⟩⟩)
      refine G_w (st' := [.int 1]) (w' := (bW 106 113 123 m2 m3 m4 kc s4 len4 D4 ce' E' x1 x2 x3 nb nt 1 (nI R) K (nI cn) F2 f1 f2 f3 I La nb' nt' 1 (nI R') K' (nI cn') F4 g1 g2 g3)) rfl rfl ?_
      refine G_if_ne (tgt := 58) dX7_becomes_53 (by decide) (fun _ => ?_) (fun h => absurd h (by decide))
      refine G_aload_n dX7_becomes_58 rfl ?_
      refine G_get (f := 1) kc8 dX7_becomes_59 fX7_19 (by decide) rfl rfl ?_
      refine G_aload_n dX7_becomes_62 rfl ?_
      refine G_get (f := 6) kc8 dX7_becomes_63 fX7_48 (by decide) rfl rfl ?_
      refine G_aload_n dX7_becomes_66 rfl ?_
      refine G_V (is := [18, 19, 20, 11, 12, 13, 16, 21, 22, 23, 26]) (fo := [114, 115, 117, 124, 125, 127]) (as := [.ref 100, .ref 103, .ref 107]) (as' := [.ref 111, .ref 121]) (st := []) (k := 0) (n := 0) cX7_becomes_67 (con_matches d I La K f2 nb nt 1 (nI R) (nI cn) 4 5 6 K' g2 nb' nt' 1 (nI R') (nI cn') 7 8 9 hnb hnb' hnt hnt' k g hK30 hKs' hI) ab_pfx rfl (by decide) rfl rfl rfl rfl rfl rfl (Nat.le_of_ble_eq_true rfl) dX7_becomes_67 (fun w' v h => by obtain ⟨_, _, _, h, _⟩ := h; rw [h]; exact (rfl : (11 : Nat) = 11)) (fun w2 v2 hq => ?_)
      obtain ⟨I2, La2, h, rfl, hI2, hway⟩ := hq
      rcases hway with ⟨hw1, hw2, rfl⟩ | ⟨hw1, rfl⟩
      · refine G_w (st' := [.int 1]) (w' := (bW 106 113 123 m2 m3 m4 kc s4 len4 D4 ce' E' x1 x2 x3 nb nt 1 (nI R) K (nI cn) F2 f1 f2 f3 I2 La2 nb' nt' 1 (nI R') K' (nI cn') F4 g1 g2 g3)) rfl rfl ?_
        exact G_ret (v := some (.int _)) ⟨dX7_becomes_70, _, rfl, rfl⟩ (Or.inr ⟨hsz, s2, len2, D2, R, F2, f1, f2, f3, E, e1, e2, e3, ce, o, rk, st, cn, hHs, hGr, s4, len4, D4, R', F4, g1, g2, g3, E', x1, x2, x3, ce', o', rk', st', cn', hHs', hGr', I2, La2, h, Or.inl rfl, hI2, Or.inr ⟨hsame, Or.inl ⟨hw1, rfl⟩⟩⟩)
      · refine G_w (st' := [.int 0]) (w' := (bW 106 113 123 m2 m3 m4 kc s4 len4 D4 ce' E' x1 x2 x3 nb nt 1 (nI R) K (nI cn) F2 f1 f2 f3 I2 La2 nb' nt' 1 (nI R') K' (nI cn') F4 g1 g2 g3)) rfl rfl ?_
        exact G_ret (v := some (.int _)) ⟨dX7_becomes_70, _, rfl, rfl⟩ (Or.inr ⟨hsz, s2, len2, D2, R, F2, f1, f2, f3, E, e1, e2, e3, ce, o, rk, st, cn, hHs, hGr, s4, len4, D4, R', F4, g1, g2, g3, E', x1, x2, x3, ce', o', rk', st', cn', hHs', hGr', I2, La2, h, Or.inl rfl, hI2, Or.inr ⟨hsame, Or.inr ⟨hw1, rfl⟩⟩⟩)
    · skip
      refine G_w (st' := []) (w' := (bW 123 113 106 m2 m3 m4 kc s4 len4 D4 (nI cn') F4 g1 g2 g3 nb nt 1 (nI R) K (nI cn) F2 f1 f2 f3 I La nb' nt' 1 (nI R') K' ce' E' x1 x2 x3)) rfl rfl ?_
      refine G_aload_n dX7_becomes_32 rfl ?_
      refine G_get (f := 6) kc8 dX7_becomes_33 fX7_48 (by decide) rfl rfl ?_
      refine G_get (f := 5) kc1 dX7_becomes_36 fX7_85 (by decide) rfl rfl ?_
      refine G_aload_n dX7_becomes_39 rfl ?_
      refine G_get (f := 5) kc1 dX7_becomes_40 fX7_85 (by decide) rfl rfl ?_
      refine G_aload_n dX7_becomes_43 rfl ?_
      refine G_get (f := 6) kc8 dX7_becomes_44 fX7_48 (by decide) rfl rfl ?_
      refine G_get (f := 1) kc1 dX7_becomes_47 fX7_52 (by decide) rfl rfl ?_
      refine G_V (is := [13, 14, 15, 6, 7, 8]) (fo := [116, 117, 109, 110]) (as := [.ref 100, .ref 103, .int (nI nb)]) (as' := [.ref 106, .int (nI nb)]) (st := []) (k := 0) (n := 0) cX7_becomes_50 (con_hasHashesOf (d + 12) nb hnb F2 f1 F4 g1 o o' hO1 hO2 (.ref 4) (.ref 5) (.int (nI cn)) (.ref 6) (.ref 7) (.int (nI cn'))) ab_pfx rfl (by decide) rfl rfl rfl rfl rfl rfl (Nat.le_of_ble_eq_true rfl) dX7_becomes_50 (fun w' v h => by rw [h.1]) (fun w2 v2 hq => ?_)
      obtain ⟨rfl, hq⟩ := hq
      rcases hq with ⟨hsame, rfl⟩ | ⟨hno, rfl⟩
      rotate_left
      · refine G_w (st' := [.int 0]) (w' := (bW 123 113 106 m2 m3 m4 kc s4 len4 D4 (nI cn') F4 g1 g2 g3 nb nt 1 (nI R) K (nI cn) F2 f1 f2 f3 I La nb' nt' 1 (nI R') K' ce' E' x1 x2 x3)) rfl rfl ?_
        refine G_if_ne (tgt := 58) dX7_becomes_53 (by decide) (fun h => absurd rfl h) (fun _ => ?_)
        refine G_iconst (v := 0) dX7_becomes_56 (by decide) ?_
        exact G_ret (v := some (.int _)) ⟨dX7_becomes_57, _, rfl, rfl⟩ (Or.inr ⟨hsz, s2, len2, D2, R, F2, f1, f2, f3, E, e1, e2, e3, ce, o, rk, st, cn, hHs, hGr, s4, len4, D4, R', F4, g1, g2, g3, E', x1, x2, x3, ce', o', rk', st', cn', hHs', hGr', I, La, g, Or.inr (Or.inl rfl), hI, Or.inl ⟨hno, rfl⟩⟩)
      refine G_w (st' := [.int 1]) (w' := (bW 123 113 106 m2 m3 m4 kc s4 len4 D4 (nI cn') F4 g1 g2 g3 nb nt 1 (nI R) K (nI cn) F2 f1 f2 f3 I La nb' nt' 1 (nI R') K' ce' E' x1 x2 x3)) rfl rfl ?_
      refine G_if_ne (tgt := 58) dX7_becomes_53 (by decide) (fun _ => ?_) (fun h => absurd h (by decide))
      refine G_aload_n dX7_becomes_58 rfl ?_
      refine G_get (f := 1) kc8 dX7_becomes_59 fX7_19 (by decide) rfl rfl ?_
      refine G_aload_n dX7_becomes_62 rfl ?_
      refine G_get (f := 6) kc8 dX7_becomes_63 fX7_48 (by decide) rfl rfl ?_
      refine G_aload_n dX7_becomes_66 rfl ?_
      refine G_V (is := [18, 19, 20, 11, 12, 13, 16, 21, 22, 6, 9]) (fo := [114, 115, 117, 107, 108, 110]) (as := [.ref 100, .ref 103, .ref 107]) (as' := [.ref 111, .ref 121]) (st := []) (k := 0) (n := 0) cX7_becomes_67 (con_matches d I La K f2 nb nt 1 (nI R) (nI cn) 4 5 6 K' g2 nb' nt' 1 (nI R') (nI cn') 7 8 9 hnb hnb' hnt hnt' k g hK30 hKs' hI) ab_pfx rfl (by decide) rfl rfl rfl rfl rfl rfl (Nat.le_of_ble_eq_true rfl) dX7_becomes_67 (fun w' v h => by obtain ⟨_, _, _, h, _⟩ := h; rw [h]; exact (rfl : (11 : Nat) = 11)) (fun w2 v2 hq => ?_)
      obtain ⟨I2, La2, h, rfl, hI2, hway⟩ := hq
      rcases hway with ⟨hw1, hw2, rfl⟩ | ⟨hw1, rfl⟩
      · refine G_w (st' := [.int 1]) (w' := (bW 123 113 106 m2 m3 m4 kc s4 len4 D4 (nI cn') F4 g1 g2 g3 nb nt 1 (nI R) K (nI cn) F2 f1 f2 f3 I2 La2 nb' nt' 1 (nI R') K' ce' E' x1 x2 x3)) rfl rfl ?_
        exact G_ret (v := some (.int _)) ⟨dX7_becomes_70, _, rfl, rfl⟩ (Or.inr ⟨hsz, s2, len2, D2, R, F2, f1, f2, f3, E, e1, e2, e3, ce, o, rk, st, cn, hHs, hGr, s4, len4, D4, R', F4, g1, g2, g3, E', x1, x2, x3, ce', o', rk', st', cn', hHs', hGr', I2, La2, h, Or.inr (Or.inl rfl), hI2, Or.inr ⟨hsame, Or.inl ⟨hw1, rfl⟩⟩⟩)
      · refine G_w (st' := [.int 0]) (w' := (bW 123 113 106 m2 m3 m4 kc s4 len4 D4 (nI cn') F4 g1 g2 g3 nb nt 1 (nI R) K (nI cn) F2 f1 f2 f3 I2 La2 nb' nt' 1 (nI R') K' ce' E' x1 x2 x3)) rfl rfl ?_
        exact G_ret (v := some (.int _)) ⟨dX7_becomes_70, _, rfl, rfl⟩ (Or.inr ⟨hsz, s2, len2, D2, R, F2, f1, f2, f3, E, e1, e2, e3, ce, o, rk, st, cn, hHs, hGr, s4, len4, D4, R', F4, g1, g2, g3, E', x1, x2, x3, ce', o', rk', st', cn', hHs', hGr', I2, La2, h, Or.inr (Or.inl rfl), hI2, Or.inr ⟨hsame, Or.inr ⟨hw1, rfl⟩⟩⟩)
  · skip
    refine G_w (st' := []) (w' := (bW 113 106 123 m2 m3 m4 kc s2 len2 D2 (nI cn) F2 f1 f2 f3 nb nt 1 (nI R) K ce E e1 e2 e3 I La nb' nt' hs' ro' K' cZ FZ Z1 Z2 Z3)) rfl rfl ?_
    refine G_aload_n dX7_becomes_24 rfl ?_
    refine G_get (f := 0) kc8 dX7_becomes_25 fX7_10 (by decide) rfl rfl ?_
    refine G_aload_n dX7_becomes_28 rfl ?_
    refine G_V (is := [1, 2, 3, 4, 5, 13, 14, 15, 16, 17, 21, 22, 23, 24, 25, 26, 27]) (fo := []) (as := [.ref 100, .ref 110]) (as' := [.ref 121]) (st := []) (k := 0) (n := 0) cX7_becomes_29 (con_refreshU (d + 8) nb' nt' hnb' hnt' s2 len2 hs' ro' ce cZ D2 E e1 e2 e3 K' FZ Z1 Z2 Z3 k' hk' hH') ab_pfx rfl (by decide) rfl rfl rfl rfl rfl rfl (Nat.le_of_ble_eq_true rfl) dX7_becomes_29 (fun w' v h => by obtain ⟨_, _, _, _, _, _, _, _, _, _, _, _, _, _, _, _, _, _, _, _, h | h⟩ := h <;> rw [h] <;> exact (rfl : (17 : Nat) = 17)) (fun w2 v2 hq => ?_)
    obtain ⟨rfl, s4, len4, D4, R', F4, g1, g2, g3, E', x1, x2, x3, ce', o', rk', st', cn', hHs', hGr', hq⟩ := hq
    have hO2 : ∀ j, j < nb → g1 j = nI (o' j) ∧ o' j < 8 := fun j hj => ⟨hGr'.2.1 j (by omega), by have := hGr'.1.1 j (by omega); omega⟩
    rcases hq with rfl | rfl
    · skip
      refine G_w (st' := []) (w' := (bW 113 106 123 m2 m3 m4 kc s4 len4 D4 (nI cn) F2 f1 f2 f3 nb nt 1 (nI R) K ce' E' x1 x2 x3 I La nb' nt' 1 (nI R') K' (nI cn') F4 g1 g2 g3)) rfl rfl ?_
      refine G_aload_n dX7_becomes_32 rfl ?_
      refine G_get (f := 6) kc8 dX7_becomes_33 fX7_48 (by decide) rfl rfl ?_
      refine G_get (f := 5) kc1 dX7_becomes_36 fX7_85 (by decide) rfl rfl ?_
      refine G_aload_n dX7_becomes_39 rfl ?_
      refine G_get (f := 5) kc1 dX7_becomes_40 fX7_85 (by decide) rfl rfl ?_
      refine G_aload_n dX7_becomes_43 rfl ?_
      refine G_get (f := 6) kc8 dX7_becomes_44 fX7_48 (by decide) rfl rfl ?_
      refine G_get (f := 1) kc1 dX7_becomes_47 fX7_52 (by decide) rfl rfl ?_
      refine G_V (is := [6, 7, 8, 23, 24, 25]) (fo := [109, 110, 126, 127]) (as := [.ref 100, .ref 103, .int (nI nb)]) (as' := [.ref 123, .int (nI nb)]) (st := []) (k := 0) (n := 0) cX7_becomes_50 (con_hasHashesOf (d + 12) nb hnb F2 f1 F4 g1 o o' hO1 hO2 (.ref 4) (.ref 5) (.int (nI cn)) (.ref 6) (.ref 7) (.int (nI cn'))) ab_pfx rfl (by decide) rfl rfl rfl rfl rfl rfl (Nat.le_of_ble_eq_true rfl) dX7_becomes_50 (fun w' v h => by rw [h.1]) (fun w2 v2 hq => ?_)
      obtain ⟨rfl, hq⟩ := hq
      rcases hq with ⟨hsame, rfl⟩ | ⟨hno, rfl⟩
      rotate_left
      · refine G_w (st' := [.int 0]) (w' := (bW 113 106 123 m2 m3 m4 kc s4 len4 D4 (nI cn) F2 f1 f2 f3 nb nt 1 (nI R) K ce' E' x1 x2 x3 I La nb' nt' 1 (nI R') K' (nI cn') F4 g1 g2 g3)) rfl rfl ?_
        refine G_if_ne (tgt := 58) dX7_becomes_53 (by decide) (fun h => absurd rfl h) (fun _ => ?_)
        refine G_iconst (v := 0) dX7_becomes_56 (by decide) ?_
        exact G_ret (v := some (.int _)) ⟨dX7_becomes_57, _, rfl, rfl⟩ (Or.inr ⟨hsz, s2, len2, D2, R, F2, f1, f2, f3, E, e1, e2, e3, ce, o, rk, st, cn, hHs, hGr, s4, len4, D4, R', F4, g1, g2, g3, E', x1, x2, x3, ce', o', rk', st', cn', hHs', hGr', I, La, g, Or.inr (Or.inr (Or.inl rfl)), hI, Or.inl ⟨hno, rfl⟩⟩)
      refine G_w (st' := [.int 1]) (w' := (bW 113 106 123 m2 m3 m4 kc s4 len4 D4 (nI cn) F2 f1 f2 f3 nb nt 1 (nI R) K ce' E' x1 x2 x3 I La nb' nt' 1 (nI R') K' (nI cn') F4 g1 g2 g3)) rfl rfl ?_
      refine G_if_ne (tgt := 58) dX7_becomes_53 (by decide) (fun _ => ?_) (fun h => absurd h (by decide))
      refine G_aload_n dX7_becomes_58 rfl ?_
      refine G_get (f := 1) kc8 dX7_becomes_59 fX7_19 (by decide) rfl rfl ?_
      refine G_aload_n dX7_becomes_62 rfl ?_
      refine G_get (f := 6) kc8 dX7_becomes_63 fX7_48 (by decide) rfl rfl ?_
      refine G_aload_n dX7_becomes_66 rfl ?_
      refine G_V (is := [18, 19, 20, 11, 12, 6, 9, 21, 22, 23, 26]) (fo := [107, 108, 110, 124, 125, 127]) (as := [.ref 100, .ref 103, .ref 107]) (as' := [.ref 111, .ref 121]) (st := []) (k := 0) (n := 0) cX7_becomes_67 (con_matches d I La K f2 nb nt 1 (nI R) (nI cn) 4 5 6 K' g2 nb' nt' 1 (nI R') (nI cn') 7 8 9 hnb hnb' hnt hnt' k g hK30 hKs' hI) ab_pfx rfl (by decide) rfl rfl rfl rfl rfl rfl (Nat.le_of_ble_eq_true rfl) dX7_becomes_67 (fun w' v h => by obtain ⟨_, _, _, h, _⟩ := h; rw [h]; exact (rfl : (11 : Nat) = 11)) (fun w2 v2 hq => ?_)
      obtain ⟨I2, La2, h, rfl, hI2, hway⟩ := hq
      rcases hway with ⟨hw1, hw2, rfl⟩ | ⟨hw1, rfl⟩
      · refine G_w (st' := [.int 1]) (w' := (bW 113 106 123 m2 m3 m4 kc s4 len4 D4 (nI cn) F2 f1 f2 f3 nb nt 1 (nI R) K ce' E' x1 x2 x3 I2 La2 nb' nt' 1 (nI R') K' (nI cn') F4 g1 g2 g3)) rfl rfl ?_
        exact G_ret (v := some (.int _)) ⟨dX7_becomes_70, _, rfl, rfl⟩ (Or.inr ⟨hsz, s2, len2, D2, R, F2, f1, f2, f3, E, e1, e2, e3, ce, o, rk, st, cn, hHs, hGr, s4, len4, D4, R', F4, g1, g2, g3, E', x1, x2, x3, ce', o', rk', st', cn', hHs', hGr', I2, La2, h, Or.inr (Or.inr (Or.inl rfl)), hI2, Or.inr ⟨hsame, Or.inl ⟨hw1, rfl⟩⟩⟩)
      · refine G_w (st' := [.int 0]) (w' := (bW 113 106 123 m2 m3 m4 kc s4 len4 D4 (nI cn) F2 f1 f2 f3 nb nt 1 (nI R) K ce' E' x1 x2 x3 I2 La2 nb' nt' 1 (nI R') K' (nI cn') F4 g1 g2 g3)) rfl rfl ?_
        exact G_ret (v := some (.int _)) ⟨dX7_becomes_70, _, rfl, rfl⟩ (Or.inr ⟨hsz, s2, len2, D2, R, F2, f1, f2, f3, E, e1, e2, e3, ce, o, rk, st, cn, hHs, hGr, s4, len4, D4, R', F4, g1, g2, g3, E', x1, x2, x3, ce', o', rk', st', cn', hHs', hGr', I2, La2, h, Or.inr (Or.inr (Or.inl rfl)), hI2, Or.inr ⟨hsame, Or.inr ⟨hw1, rfl⟩⟩⟩)
    · skip
      refine G_w (st' := []) (w' := (bW 123 106 113 m2 m3 m4 kc s4 len4 D4 (nI cn) F2 f1 f2 f3 nb nt 1 (nI R) K (nI cn') F4 g1 g2 g3 I La nb' nt' 1 (nI R') K' ce' E' x1 x2 x3)) rfl rfl ?_
      refine G_aload_n dX7_becomes_32 rfl ?_
      refine G_get (f := 6) kc8 dX7_becomes_33 fX7_48 (by decide) rfl rfl ?_
      refine G_get (f := 5) kc1 dX7_becomes_36 fX7_85 (by decide) rfl rfl ?_
      refine G_aload_n dX7_becomes_39 rfl ?_
      refine G_get (f := 5) kc1 dX7_becomes_40 fX7_85 (by decide) rfl rfl ?_
      refine G_aload_n dX7_becomes_43 rfl ?_
      refine G_get (f := 6) kc8 dX7_becomes_44 fX7_48 (by decide) rfl rfl ?_
      refine G_get (f := 1) kc1 dX7_becomes_47 fX7_52 (by decide) rfl rfl ?_
      refine G_V (is := [6, 7, 8, 13, 14, 15]) (fo := [109, 110, 116, 117]) (as := [.ref 100, .ref 103, .int (nI nb)]) (as' := [.ref 113, .int (nI nb)]) (st := []) (k := 0) (n := 0) cX7_becomes_50 (con_hasHashesOf (d + 12) nb hnb F2 f1 F4 g1 o o' hO1 hO2 (.ref 4) (.ref 5) (.int (nI cn)) (.ref 6) (.ref 7) (.int (nI cn'))) ab_pfx rfl (by decide) rfl rfl rfl rfl rfl rfl (Nat.le_of_ble_eq_true rfl) dX7_becomes_50 (fun w' v h => by rw [h.1]) (fun w2 v2 hq => ?_)
      obtain ⟨rfl, hq⟩ := hq
      rcases hq with ⟨hsame, rfl⟩ | ⟨hno, rfl⟩
      rotate_left
      · refine G_w (st' := [.int 0]) (w' := (bW 123 106 113 m2 m3 m4 kc s4 len4 D4 (nI cn) F2 f1 f2 f3 nb nt 1 (nI R) K (nI cn') F4 g1 g2 g3 I La nb' nt' 1 (nI R') K' ce' E' x1 x2 x3)) rfl rfl ?_
        refine G_if_ne (tgt := 58) dX7_becomes_53 (by decide) (fun h => absurd rfl h) (fun _ => ?_)
        refine G_iconst (v := 0) dX7_becomes_56 (by decide) ?_
        exact G_ret (v := some (.int _)) ⟨dX7_becomes_57, _, rfl, rfl⟩ (Or.inr ⟨hsz, s2, len2, D2, R, F2, f1, f2, f3, E, e1, e2, e3, ce, o, rk, st, cn, hHs, hGr, s4, len4, D4, R', F4, g1, g2, g3, E', x1, x2, x3, ce', o', rk', st', cn', hHs', hGr', I, La, g, Or.inr (Or.inr (Or.inr (rfl))), hI, Or.inl ⟨hno, rfl⟩⟩)
      refine G_w (st' := [.int 1]) (w' := (bW 123 106 113 m2 m3 m4 kc s4 len4 D4 (nI cn) F2 f1 f2 f3 nb nt 1 (nI R) K (nI cn') F4 g1 g2 g3 I La nb' nt' 1 (nI R') K' ce' E' x1 x2 x3)) rfl rfl ?_
      refine G_if_ne (tgt := 58) dX7_becomes_53 (by decide) (fun _ => ?_) (fun h => absurd h (by decide))
      refine G_aload_n dX7_becomes_58 rfl ?_
      refine G_get (f := 1) kc8 dX7_becomes_59 fX7_19 (by decide) rfl rfl ?_
      refine G_aload_n dX7_becomes_62 rfl ?_
      refine G_get (f := 6) kc8 dX7_becomes_63 fX7_48 (by decide) rfl rfl ?_
      refine G_aload_n dX7_becomes_66 rfl ?_
      refine G_V (is := [18, 19, 20, 11, 12, 6, 9, 21, 22, 13, 16]) (fo := [107, 108, 110, 114, 115, 117]) (as := [.ref 100, .ref 103, .ref 107]) (as' := [.ref 111, .ref 121]) (st := []) (k := 0) (n := 0) cX7_becomes_67 (con_matches d I La K f2 nb nt 1 (nI R) (nI cn) 4 5 6 K' g2 nb' nt' 1 (nI R') (nI cn') 7 8 9 hnb hnb' hnt hnt' k g hK30 hKs' hI) ab_pfx rfl (by decide) rfl rfl rfl rfl rfl rfl (Nat.le_of_ble_eq_true rfl) dX7_becomes_67 (fun w' v h => by obtain ⟨_, _, _, h, _⟩ := h; rw [h]; exact (rfl : (11 : Nat) = 11)) (fun w2 v2 hq => ?_)
      obtain ⟨I2, La2, h, rfl, hI2, hway⟩ := hq
      rcases hway with ⟨hw1, hw2, rfl⟩ | ⟨hw1, rfl⟩
      · refine G_w (st' := [.int 1]) (w' := (bW 123 106 113 m2 m3 m4 kc s4 len4 D4 (nI cn) F2 f1 f2 f3 nb nt 1 (nI R) K (nI cn') F4 g1 g2 g3 I2 La2 nb' nt' 1 (nI R') K' ce' E' x1 x2 x3)) rfl rfl ?_
        exact G_ret (v := some (.int _)) ⟨dX7_becomes_70, _, rfl, rfl⟩ (Or.inr ⟨hsz, s2, len2, D2, R, F2, f1, f2, f3, E, e1, e2, e3, ce, o, rk, st, cn, hHs, hGr, s4, len4, D4, R', F4, g1, g2, g3, E', x1, x2, x3, ce', o', rk', st', cn', hHs', hGr', I2, La2, h, Or.inr (Or.inr (Or.inr (rfl))), hI2, Or.inr ⟨hsame, Or.inl ⟨hw1, rfl⟩⟩⟩)
      · refine G_w (st' := [.int 0]) (w' := (bW 123 106 113 m2 m3 m4 kc s4 len4 D4 (nI cn) F2 f1 f2 f3 nb nt 1 (nI R) K (nI cn') F4 g1 g2 g3 I2 La2 nb' nt' 1 (nI R') K' ce' E' x1 x2 x3)) rfl rfl ?_
        exact G_ret (v := some (.int _)) ⟨dX7_becomes_70, _, rfl, rfl⟩ (Or.inr ⟨hsz, s2, len2, D2, R, F2, f1, f2, f3, E, e1, e2, e3, ce, o, rk, st, cn, hHs, hGr, s4, len4, D4, R', F4, g1, g2, g3, E', x1, x2, x3, ce', o', rk', st', cn', hHs', hGr', I2, La2, h, Or.inr (Or.inr (Or.inr (rfl))), hI2, Or.inr ⟨hsame, Or.inr ⟨hw1, rfl⟩⟩⟩)
