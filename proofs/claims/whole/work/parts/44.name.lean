/-! CanonNames.name; that the search finds a row, and a rising one, is a premise here (hsr): mathematics, further down. -/
abbrev nW (nx gr : Nat) (m4 m5 u2 u3 u4 : Nat) (kc : Int32) (s : SS) (len : Int32) (D : Nat → Int32) (cA : Int32) (FA a1 a2 a3 : Nat → Int32) (nb nt : Nat) (hs ro : Int32) (K : Nat → Int32) (cB : Int32) (FB b1 b2 b3 : Nat → Int32) (I La : Nat → Int32) (fd : Int32) (P Q tr : Nat → Int32) (dg fb ft hs' ro' : Int32) (Kf : Nat → Int32) (cv' : Int32) (RF N : Nat → Int32) : List ab_C :=
  [c7 102 101 118 121 125 m4 kc 111, .inr (3, [.ref 102, .ref 105, .ref nx]), .inr (7, [.ref 103, .ref 104, .int (nI s.2.2), .int len]), cI 8 s.1, cI 64 s.2.1, cI 40 D, .inr (2, [.ref 107, .ref 108, .ref 109, .ref 110, .int cA]), cI 64 FA, cI 8 a1, cI 8 a2, cI 9 a3,
   .inr (1, [.ref 112, .int (nI nb), .int (nI nt), .int hs, .int ro, .ref gr]), cI 40 K, .inr (2, [.ref 114, .ref 115, .ref 116, .ref 117, .int cB]), cI 64 FB, cI 8 b1, cI 8 b2, cI 9 b3,
   .inr (5, [.ref 119, .ref 120]), cI 8 I, cI 40 La, .inr (4, [.ref 122, .ref 123, .ref 124, .int fd]), cI 8 P, cI 8 Q, cI 40 tr, .inr (6, [.ref 126, .ref 130, .ref m5, .int dg]), .inr (1, [.ref 127, .int fb, .int ft, .int hs', .int ro', .ref 128]), cI 40 Kf, .inr (2, [.ref u2, .ref u3, .ref 129, .ref u4, .int cv']), cI 8 RF, cI 8 N]
set_option maxRecDepth 20000 in
set_option maxHeartbeats 8000000 in
theorem con_name (d nb nt : Nat) (hnb : nb ≤ 8) (hnt : nt ≤ 40) (m4 m5 u2 u3 u4 : Nat) (kc : Int32) (s : SS) (len hs ro cA cB : Int32) (D FA a1 a2 a3 K FB b1 b2 b3 : Nat → Int32) (k : Nat → Nat) (hk : keysOk K k nt nb) (hKs : ∀ i j, i < j → j < nt → K i < K j) (hH : HS hs ro cB nb nt k FB b1 b2 b3) (I La : Nat → Int32) (fd : Int32) (P Qb tr : Nat → Int32) (dg fb ft hs' ro' : Int32) (Kf : Nat → Int32) (cv' : Int32) (RF N : Nat → Int32) (g p q : Nat → Nat) (hI : ∀ j, j < 8 → I j = nI (g j) ∧ g j ≤ 8) (hP : ∀ j, j < 8 → P j = nI (p j) ∧ p j ≤ 8) (hQb : ∀ j, j < 8 → Qb j = nI (q j) ∧ q j ≤ 8) (hsr : ∀ (o rk st : Nat → Nat) (cn R : Nat) (F : Nat → Int32), Hsh nb nt k F R → GP (hv F) nb o rk st cn → (srch k nt nb o rk st nb 0 ((p, false, q, fun _ => 0) : SX)).1.2.1 = true ∧ ∀ i j, i < j → j < nt → (srch k nt nb o rk st nb 0 ((p, false, q, fun _ => 0) : SX)).1.2.2.2 i < (srch k nt nb o rk st nb 0 ((p, false, q, fun _ => 0) : SX)).1.2.2.2 j) (steps : Int64) : Con mX7_name (d + 13) 0 0 (nW 106 113 m4 m5 u2 u3 u4 kc s len D cA FA a1 a2 a3 nb nt hs ro K cB FB b1 b2 b3 I La fd P Qb tr dg fb ft hs' ro' Kf cv' RF N) [.ref 100, .long steps] (fun w' v => ∃ (s2 : SS) (len2 : Int32) (D2 : Nat → Int32) (R : Nat) (F2 f1 f2 f3 E e1 e2 e3 : Nat → Int32) (ce : Int32) (o rk st : Nat → Nat) (cn : Nat), Hsh nb nt k F2 R ∧ grpOk F2 f1 f2 f3 nb o rk st cn ∧ (((¬ lg_cmp (nI (nmg st cn)).toInt64 steps ≤ 0) ∧ (w' = (nW 106 113 m4 m5 u2 u3 u4 kc s2 len2 D2 ce E e1 e2 e3 nb nt 1 (nI R) K (nI cn) F2 f1 f2 f3 I La fd P Qb tr dg fb ft hs' ro' Kf cv' RF N) ∨ w' = (nW 113 106 m4 m5 u2 u3 u4 kc s2 len2 D2 (nI cn) F2 f1 f2 f3 nb nt 1 (nI R) K ce E e1 e2 e3 I La fd P Qb tr dg fb ft hs' ro' Kf cv' RF N)) ∧ v = some (.int (-1))) ∨ (lg_cmp (nI (nmg st cn)).toInt64 steps ≤ 0 ∧ ∃ (I2 I3 La3 : Nat → Int32) (fd2 : Int32) (P2 Q2 tr2 Kf2 RF2 N2 : Nat → Int32) (dg2 : Int32) (h h3 : Nat → Nat), (w' = (nW 106 113 m4 m5 u2 u3 u4 kc s2 len2 D2 ce E e1 e2 e3 nb nt 1 (nI R) K (nI cn) F2 f1 f2 f3 I3 La3 fd2 P2 Q2 tr2 dg2 (nI nb) (nI nt) hs' ro' Kf2 cv' RF2 N2) ∨ w' = (nW 113 106 m4 m5 u2 u3 u4 kc s2 len2 D2 (nI cn) F2 f1 f2 f3 nb nt 1 (nI R) K ce E e1 e2 e3 I3 La3 fd2 P2 Q2 tr2 dg2 (nI nb) (nI nt) hs' ro' Kf2 cv' RF2 N2)) ∧ RepX nt (srch k nt nb o rk st nb 0 ((p, false, q, fun _ => 0) : SX)).1 fd2 P2 Q2 Kf2 ∧ (∀ j, j < nb → RF2 j = nI (rk (o j))) ∧ (∀ j, j < 8 → I2 j = nI (h j) ∧ h j ≤ 8) ∧ (∀ j, j < 8 → I3 j = nI (h3 j) ∧ h3 j ≤ 8) ∧ ((Way k nt nb f2 Kf2 RF2 nt nb h ∧ (∀ h2, Way k nt nb f2 Kf2 RF2 nt nb h2 → LexLe 0 nb h h2) ∧ N2 = va_cpy I2 N 0 0 nb ∧ dg2 = 0) ∨ ((¬ ∃ h2, Way k nt nb f2 Kf2 RF2 nt nb h2) ∧ N2 = N ∧ dg2 = dg)) ∧ v = some (.int (nI (aut k nt nb f2 K nb)))))) := by
  refine Con.of (ab_okc rfl (by decide)) (Nat.le_of_ble_eq_true rfl) ?_
  show G ab_x0 mX7_name (d + 12 + 1) 0 0 _ 0 [some (.ref 100), some (.long steps), none] [] _
  have hK30 : ∀ i, i < nt → K i = nI (k i) ∧ k i < 2 ^ 30 := fun i hi => ⟨(hk i hi).1, (hk i hi).2.1⟩
  refine G_aload_n dX7_name_0 rfl ?_
  refine G_get (f := 0) kc8 dX7_name_1 fX7_10 (by decide) rfl rfl ?_
  refine G_aload_n dX7_name_4 rfl ?_
  refine G_get (f := 6) kc8 dX7_name_5 fX7_48 (by decide) rfl rfl ?_
  refine G_V (is := [1, 2, 3, 4, 5, 6, 7, 8, 9, 10, 11, 12, 13, 14, 15, 16, 17]) (fo := []) (as := [.ref 100, .ref 110]) (as' := [.ref 111]) (st := []) (k := 0) (n := 0) cX7_name_8 (con_refreshU (d + 8) nb nt hnb hnt s len hs ro cA cB D FA a1 a2 a3 K FB b1 b2 b3 k hk hH) ab_pfx rfl (by decide) rfl rfl rfl rfl rfl rfl (Nat.le_of_ble_eq_true rfl) dX7_name_8 (fun w' v h => by obtain ⟨_, _, _, _, _, _, _, _, _, _, _, _, _, _, _, _, _, _, _, _, h | h⟩ := h <;> rw [h] <;> exact (rfl : (17 : Nat) = 17)) (fun w2 v2 hq => ?_)
  obtain ⟨rfl, s2, len2, D2, R, F2, f1, f2, f3, E, e1, e2, e3, ce, o, rk, st, cn, hHs, hGr, hq⟩ := hq
  obtain ⟨hG, hf1, hf2, hf3⟩ := id hGr
  obtain ⟨gp1, gp2, gp3, gp4, gp5, gp6, gp7, gp8, gp9⟩ := id hG
  have hfind := con_find (d + 8 - nb) nb nt cn hnb hnt (by omega) 1 (nI R) (nI cn) hs' ro' cv' K f1 f2 f3 k o rk st hK30 (fun j hj => ⟨hf1 j hj, gp1 j hj⟩) (fun b hb => ⟨hf2 b hb, gp4 b hb⟩) (fun g hg => ⟨hf3 g hg, Nat.le_trans (gp_le hG hg) hnb⟩) (fun g hg => gp_le hG (by omega)) fd fb ft P Qb tr Kf RF p q hP hQb 4 5 6 7
  rw [show d + 8 - nb + 3 + nb + 1 = d + 12 by omega] at hfind
  rcases hq with rfl | rfl
  · refine G_w (st' := []) (w' := (nW 106 113 m4 m5 u2 u3 u4 kc s2 len2 D2 ce E e1 e2 e3 nb nt 1 (nI R) K (nI cn) F2 f1 f2 f3 I La fd P Qb tr dg fb ft hs' ro' Kf cv' RF N)) rfl rfl ?_
    refine G_aload_n dX7_name_11 rfl ?_
    refine G_get (f := 6) kc8 dX7_name_12 fX7_48 (by decide) rfl rfl ?_
    refine G_get (f := 5) kc1 dX7_name_15 fX7_85 (by decide) rfl rfl ?_
    refine G_V (is := [13, 17]) (fo := [114, 115, 116]) (as := [.ref 100]) (as' := []) (st := []) (k := 0) (n := 0) cX7_name_18 (con_namings (d + 11) cn (by omega) f3 st hf3 (fun g hg => ⟨Nat.le_of_lt (gp6 g hg).1, Nat.le_trans (gp_le hG (g := g + 1) (by omega)) hnb⟩) 4 5 6) ab_pfx rfl (by decide) rfl rfl rfl rfl rfl rfl (Nat.le_of_ble_eq_true rfl) dX7_name_18 (fun w' v h => by rw [h.1]) (fun w2 v2 hq => ?_)
    obtain ⟨rfl, rfl⟩ := hq
    refine G_w (st' := [.int (nI (nmg st cn))]) (w' := (nW 106 113 m4 m5 u2 u3 u4 kc s2 len2 D2 ce E e1 e2 e3 nb nt 1 (nI R) K (nI cn) F2 f1 f2 f3 I La fd P Qb tr dg fb ft hs' ro' Kf cv' RF N)) rfl rfl ?_
    refine G_i2l dX7_name_21 ?_
    refine G_lload_n dX7_name_22 rfl ?_
    refine G_lcmp dX7_name_23 ?_
    refine G_if_le (tgt := 29) dX7_name_24 (by decide) (fun hle => ?_) (fun hgt => ?_)
    rotate_left
    · refine G_iconst (v := -1) dX7_name_27 (by decide) ?_
      exact G_ret (v := some (.int _)) ⟨dX7_name_28, _, rfl, rfl⟩ ⟨s2, len2, D2, R, F2, f1, f2, f3, E, e1, e2, e3, ce, o, rk, st, cn, hHs, hGr, Or.inl ⟨hgt, Or.inl rfl, rfl⟩⟩
    obtain ⟨hfo, hri⟩ := hsr o rk st cn R F2 hHs hG
    refine G_aload_n dX7_name_29 rfl ?_
    refine G_get (f := 2) kc8 dX7_name_30 fX7_26 (by decide) rfl rfl ?_
    refine G_aload_n dX7_name_33 rfl ?_
    refine G_get (f := 6) kc8 dX7_name_34 fX7_48 (by decide) rfl rfl ?_
    refine G_aload_n dX7_name_37 rfl ?_
    refine G_get (f := 3) kc8 dX7_name_38 fX7_33 (by decide) rfl rfl ?_
    refine G_get (f := 0) kc6 dX7_name_41 fX7_95 (by decide) rfl rfl ?_
    refine G_V (is := [21, 22, 23, 24, 11, 12, 13, 15, 16, 17, 26, 27, 28, 29]) (fo := [114, u2, u3, u4]) (as := [.ref 100, .ref 104, .ref 110]) (as' := [.ref 111, .ref 126]) (st := []) (k := 0) (n := 0) cX7_name_44 hfind ab_pfx rfl (by decide) rfl rfl rfl rfl rfl rfl (Nat.le_of_ble_eq_true rfl) dX7_name_44 (fun w' v h => by obtain ⟨_, _, _, _, _, _, _, h, _⟩ := h; rw [h]; exact (rfl : (14 : Nat) = 14)) (fun w2 v2 hq => ?_)
    obtain ⟨rfl, fd2, P2, Q2, tr2, Kf2, RF2, rfl, hrep, hRF⟩ := hq
    refine G_w (st' := []) (w' := (nW 106 113 m4 m5 u2 u3 u4 kc s2 len2 D2 ce E e1 e2 e3 nb nt 1 (nI R) K (nI cn) F2 f1 f2 f3 I La fd2 P2 Q2 tr2 dg (nI nb) (nI nt) hs' ro' Kf2 cv' RF2 N)) rfl rfl ?_
    have hKf : ∀ i j, i < j → j < nt → Kf2 i < Kf2 j := fun i j hij hj => by
      obtain ⟨x1, x2⟩ := hrep.2.2.1 hfo i (by omega)
      obtain ⟨x3, x4⟩ := hrep.2.2.1 hfo j hj
      rw [x1, x3]
      exact (nI_ltI x2 x4).mpr (hri i j hij hj)
    refine G_aload_n dX7_name_47 rfl ?_
    refine G_get (f := 1) kc8 dX7_name_48 fX7_19 (by decide) rfl rfl ?_
    refine G_aload_n dX7_name_51 rfl ?_
    refine G_get (f := 6) kc8 dX7_name_52 fX7_48 (by decide) rfl rfl ?_
    refine G_aload_n dX7_name_55 rfl ?_
    refine G_get (f := 3) kc8 dX7_name_56 fX7_33 (by decide) rfl rfl ?_
    refine G_get (f := 0) kc6 dX7_name_59 fX7_95 (by decide) rfl rfl ?_
    refine G_V (is := [18, 19, 20, 11, 12, 13, 16, 26, 27, 28, 29]) (fo := [114, 115, 117, u2, u3, u4]) (as := [.ref 100, .ref 103, .ref 107]) (as' := [.ref 111, .ref 126]) (st := []) (k := 0) (n := 0) cX7_name_62 (con_matches d I La K f2 nb nt 1 (nI R) (nI cn) 4 5 6 Kf2 RF2 nb nt hs' ro' cv' 7 8 9 hnb hnb hnt hnt k g hK30 hKf hI) ab_pfx rfl (by decide) rfl rfl rfl rfl rfl rfl (Nat.le_of_ble_eq_true rfl) dX7_name_62 (fun w' v h => by obtain ⟨_, _, _, h, _⟩ := h; rw [h]; exact (rfl : (11 : Nat) = 11)) (fun w2 v2 hq => ?_)
    obtain ⟨I2, La2, h, rfl, hI2, hway⟩ := hq
    have fin : ∀ (N2 : Nat → Int32) (dg2 : Int32), ((Way k nt nb f2 Kf2 RF2 nt nb h ∧ (∀ h2, Way k nt nb f2 Kf2 RF2 nt nb h2 → LexLe 0 nb h h2) ∧ N2 = va_cpy I2 N 0 0 nb ∧ dg2 = 0) ∨ ((¬ ∃ h2, Way k nt nb f2 Kf2 RF2 nt nb h2) ∧ N2 = N ∧ dg2 = dg)) → G ab_x0 mX7_name (d + 12 + 1) 0 0 (fun w' v => ∃ (s2 : SS) (len2 : Int32) (D2 : Nat → Int32) (R : Nat) (F2 f1 f2 f3 E e1 e2 e3 : Nat → Int32) (ce : Int32) (o rk st : Nat → Nat) (cn : Nat), Hsh nb nt k F2 R ∧ grpOk F2 f1 f2 f3 nb o rk st cn ∧ (((¬ lg_cmp (nI (nmg st cn)).toInt64 steps ≤ 0) ∧ (w' = (nW 106 113 m4 m5 u2 u3 u4 kc s2 len2 D2 ce E e1 e2 e3 nb nt 1 (nI R) K (nI cn) F2 f1 f2 f3 I La fd P Qb tr dg fb ft hs' ro' Kf cv' RF N) ∨ w' = (nW 113 106 m4 m5 u2 u3 u4 kc s2 len2 D2 (nI cn) F2 f1 f2 f3 nb nt 1 (nI R) K ce E e1 e2 e3 I La fd P Qb tr dg fb ft hs' ro' Kf cv' RF N)) ∧ v = some (.int (-1))) ∨ (lg_cmp (nI (nmg st cn)).toInt64 steps ≤ 0 ∧ ∃ (I2 I3 La3 : Nat → Int32) (fd2 : Int32) (P2 Q2 tr2 Kf2 RF2 N2 : Nat → Int32) (dg2 : Int32) (h h3 : Nat → Nat), (w' = (nW 106 113 m4 m5 u2 u3 u4 kc s2 len2 D2 ce E e1 e2 e3 nb nt 1 (nI R) K (nI cn) F2 f1 f2 f3 I3 La3 fd2 P2 Q2 tr2 dg2 (nI nb) (nI nt) hs' ro' Kf2 cv' RF2 N2) ∨ w' = (nW 113 106 m4 m5 u2 u3 u4 kc s2 len2 D2 (nI cn) F2 f1 f2 f3 nb nt 1 (nI R) K ce E e1 e2 e3 I3 La3 fd2 P2 Q2 tr2 dg2 (nI nb) (nI nt) hs' ro' Kf2 cv' RF2 N2)) ∧ RepX nt (srch k nt nb o rk st nb 0 ((p, false, q, fun _ => 0) : SX)).1 fd2 P2 Q2 Kf2 ∧ (∀ j, j < nb → RF2 j = nI (rk (o j))) ∧ (∀ j, j < 8 → I2 j = nI (h j) ∧ h j ≤ 8) ∧ (∀ j, j < 8 → I3 j = nI (h3 j) ∧ h3 j ≤ 8) ∧ ((Way k nt nb f2 Kf2 RF2 nt nb h ∧ (∀ h2, Way k nt nb f2 Kf2 RF2 nt nb h2 → LexLe 0 nb h h2) ∧ N2 = va_cpy I2 N 0 0 nb ∧ dg2 = 0) ∨ ((¬ ∃ h2, Way k nt nb f2 Kf2 RF2 nt nb h2) ∧ N2 = N ∧ dg2 = dg)) ∧ v = some (.int (nI (aut k nt nb f2 K nb)))))) 89 [some (.ref 100), some (.long steps), none] [] (nW 106 113 m4 m5 u2 u3 u4 kc s2 len2 D2 ce E e1 e2 e3 nb nt 1 (nI R) K (nI cn) F2 f1 f2 f3 I2 La2 fd2 P2 Q2 tr2 dg2 (nI nb) (nI nt) hs' ro' Kf2 cv' RF2 N2) := by
      intro N2 dg2 hcase
      refine G_aload_n dX7_name_89 rfl ?_
      refine G_get (f := 1) kc8 dX7_name_90 fX7_19 (by decide) rfl rfl ?_
      refine G_aload_n dX7_name_93 rfl ?_
      refine G_get (f := 6) kc8 dX7_name_94 fX7_48 (by decide) rfl rfl ?_
      refine G_V (is := [18, 19, 20, 11, 12, 13, 16]) (fo := [114, 115, 117]) (as := [.ref 100, .ref 103]) (as' := [.ref 111]) (st := []) (k := 0) (n := 0) cX7_name_97 (con_automorphisms d I2 La2 K f2 nb nt 1 (nI R) (nI cn) 4 5 6 hnb hnt k h hK30 hKs hI2) ab_pfx rfl (by decide) rfl rfl rfl rfl rfl rfl (Nat.le_of_ble_eq_true rfl) dX7_name_97 (fun w' v h => by obtain ⟨_, _, _, h, _⟩ := h; rw [h]; exact (rfl : (7 : Nat) = 7)) (fun w2 v2 hq => ?_)
      obtain ⟨I3, La3, h3, rfl, hI3, rfl⟩ := hq
      refine G_w (st' := [.int (nI (aut k nt nb f2 K nb))]) (w' := (nW 106 113 m4 m5 u2 u3 u4 kc s2 len2 D2 ce E e1 e2 e3 nb nt 1 (nI R) K (nI cn) F2 f1 f2 f3 I3 La3 fd2 P2 Q2 tr2 dg2 (nI nb) (nI nt) hs' ro' Kf2 cv' RF2 N2)) rfl rfl ?_
      exact G_ret (v := some (.int _)) ⟨dX7_name_100, _, rfl, rfl⟩ ⟨s2, len2, D2, R, F2, f1, f2, f3, E, e1, e2, e3, ce, o, rk, st, cn, hHs, hGr, Or.inr ⟨hle, I2, I3, La3, fd2, P2, Q2, tr2, Kf2, RF2, N2, dg2, h, h3, Or.inl rfl, hrep, hRF, hI2, hI3, hcase, rfl⟩⟩
    rcases hway with ⟨hw1, hw2, rfl⟩ | ⟨hw1, rfl⟩
    · refine G_w (st' := [.int 1]) (w' := (nW 106 113 m4 m5 u2 u3 u4 kc s2 len2 D2 ce E e1 e2 e3 nb nt 1 (nI R) K (nI cn) F2 f1 f2 f3 I2 La2 fd2 P2 Q2 tr2 dg (nI nb) (nI nt) hs' ro' Kf2 cv' RF2 N)) rfl rfl ?_
      refine G_if_eq (tgt := 89) dX7_name_65 (by decide) (fun h => absurd h (by decide)) (fun _ => ?_)
      refine G_aload_n dX7_name_68 rfl ?_
      refine G_get (f := 3) kc8 dX7_name_69 fX7_33 (by decide) rfl rfl ?_
      refine G_aload_n dX7_name_72 rfl ?_
      refine G_get (f := 1) kc8 dX7_name_73 fX7_19 (by decide) rfl rfl ?_
      refine G_get (f := 0) kc5 dX7_name_76 fX7_106 (by decide) rfl rfl ?_
      refine G_aload_n dX7_name_79 rfl ?_
      refine G_get (f := 6) kc8 dX7_name_80 fX7_48 (by decide) rfl rfl ?_
      refine G_get (f := 1) kc1 dX7_name_83 fX7_52 (by decide) rfl rfl ?_
      refine G_V (is := [25, 30, 19]) (fo := [126, m5]) (as := [.ref 100, .ref 102, .int (nI nb)]) (as' := [.ref 119, .int (nI nb)]) (st := []) (k := 0) (n := 0) cX7_name_86 (con_adopt (d + 11) nb hnb I2 N dg 4 5) ab_pfx rfl (by decide) rfl rfl rfl rfl rfl rfl (Nat.le_of_ble_eq_true rfl) dX7_name_86 (fun w' v h => by rw [h.2]; exact (rfl : (3 : Nat) = 3)) (fun w2 v2 hq => ?_)
      obtain ⟨rfl, rfl⟩ := hq
      exact fin (va_cpy I2 N 0 0 nb) 0 (Or.inl ⟨hw1, hw2, rfl, rfl⟩)
    · refine G_w (st' := [.int 0]) (w' := (nW 106 113 m4 m5 u2 u3 u4 kc s2 len2 D2 ce E e1 e2 e3 nb nt 1 (nI R) K (nI cn) F2 f1 f2 f3 I2 La2 fd2 P2 Q2 tr2 dg (nI nb) (nI nt) hs' ro' Kf2 cv' RF2 N)) rfl rfl ?_
      refine G_if_eq (tgt := 89) dX7_name_65 (by decide) (fun _ => ?_) (fun h => absurd rfl h)
      exact fin N dg (Or.inr ⟨hw1, rfl, rfl⟩)
  · refine G_w (st' := []) (w' := (nW 113 106 m4 m5 u2 u3 u4 kc s2 len2 D2 (nI cn) F2 f1 f2 f3 nb nt 1 (nI R) K ce E e1 e2 e3 I La fd P Qb tr dg fb ft hs' ro' Kf cv' RF N)) rfl rfl ?_
    refine G_aload_n dX7_name_11 rfl ?_
    refine G_get (f := 6) kc8 dX7_name_12 fX7_48 (by decide) rfl rfl ?_
    refine G_get (f := 5) kc1 dX7_name_15 fX7_85 (by decide) rfl rfl ?_
    refine G_V (is := [6, 10]) (fo := [107, 108, 109]) (as := [.ref 100]) (as' := []) (st := []) (k := 0) (n := 0) cX7_name_18 (con_namings (d + 11) cn (by omega) f3 st hf3 (fun g hg => ⟨Nat.le_of_lt (gp6 g hg).1, Nat.le_trans (gp_le hG (g := g + 1) (by omega)) hnb⟩) 4 5 6) ab_pfx rfl (by decide) rfl rfl rfl rfl rfl rfl (Nat.le_of_ble_eq_true rfl) dX7_name_18 (fun w' v h => by rw [h.1]) (fun w2 v2 hq => ?_)
    obtain ⟨rfl, rfl⟩ := hq
    refine G_w (st' := [.int (nI (nmg st cn))]) (w' := (nW 113 106 m4 m5 u2 u3 u4 kc s2 len2 D2 (nI cn) F2 f1 f2 f3 nb nt 1 (nI R) K ce E e1 e2 e3 I La fd P Qb tr dg fb ft hs' ro' Kf cv' RF N)) rfl rfl ?_
    refine G_i2l dX7_name_21 ?_
    refine G_lload_n dX7_name_22 rfl ?_
    refine G_lcmp dX7_name_23 ?_
    refine G_if_le (tgt := 29) dX7_name_24 (by decide) (fun hle => ?_) (fun hgt => ?_)
    rotate_left
    · refine G_iconst (v := -1) dX7_name_27 (by decide) ?_
      exact G_ret (v := some (.int _)) ⟨dX7_name_28, _, rfl, rfl⟩ ⟨s2, len2, D2, R, F2, f1, f2, f3, E, e1, e2, e3, ce, o, rk, st, cn, hHs, hGr, Or.inl ⟨hgt, Or.inr rfl, rfl⟩⟩
    obtain ⟨hfo, hri⟩ := hsr o rk st cn R F2 hHs hG
    refine G_aload_n dX7_name_29 rfl ?_
    refine G_get (f := 2) kc8 dX7_name_30 fX7_26 (by decide) rfl rfl ?_
    refine G_aload_n dX7_name_33 rfl ?_
    refine G_get (f := 6) kc8 dX7_name_34 fX7_48 (by decide) rfl rfl ?_
    refine G_aload_n dX7_name_37 rfl ?_
    refine G_get (f := 3) kc8 dX7_name_38 fX7_33 (by decide) rfl rfl ?_
    refine G_get (f := 0) kc6 dX7_name_41 fX7_95 (by decide) rfl rfl ?_
    refine G_V (is := [21, 22, 23, 24, 11, 12, 6, 8, 9, 10, 26, 27, 28, 29]) (fo := [107, u2, u3, u4]) (as := [.ref 100, .ref 104, .ref 110]) (as' := [.ref 111, .ref 126]) (st := []) (k := 0) (n := 0) cX7_name_44 hfind ab_pfx rfl (by decide) rfl rfl rfl rfl rfl rfl (Nat.le_of_ble_eq_true rfl) dX7_name_44 (fun w' v h => by obtain ⟨_, _, _, _, _, _, _, h, _⟩ := h; rw [h]; exact (rfl : (14 : Nat) = 14)) (fun w2 v2 hq => ?_)
    obtain ⟨rfl, fd2, P2, Q2, tr2, Kf2, RF2, rfl, hrep, hRF⟩ := hq
    refine G_w (st' := []) (w' := (nW 113 106 m4 m5 u2 u3 u4 kc s2 len2 D2 (nI cn) F2 f1 f2 f3 nb nt 1 (nI R) K ce E e1 e2 e3 I La fd2 P2 Q2 tr2 dg (nI nb) (nI nt) hs' ro' Kf2 cv' RF2 N)) rfl rfl ?_
    have hKf : ∀ i j, i < j → j < nt → Kf2 i < Kf2 j := fun i j hij hj => by
      obtain ⟨x1, x2⟩ := hrep.2.2.1 hfo i (by omega)
      obtain ⟨x3, x4⟩ := hrep.2.2.1 hfo j hj
      rw [x1, x3]
      exact (nI_ltI x2 x4).mpr (hri i j hij hj)
    refine G_aload_n dX7_name_47 rfl ?_
    refine G_get (f := 1) kc8 dX7_name_48 fX7_19 (by decide) rfl rfl ?_
    refine G_aload_n dX7_name_51 rfl ?_
    refine G_get (f := 6) kc8 dX7_name_52 fX7_48 (by decide) rfl rfl ?_
    refine G_aload_n dX7_name_55 rfl ?_
    refine G_get (f := 3) kc8 dX7_name_56 fX7_33 (by decide) rfl rfl ?_
    refine G_get (f := 0) kc6 dX7_name_59 fX7_95 (by decide) rfl rfl ?_
    refine G_V (is := [18, 19, 20, 11, 12, 6, 9, 26, 27, 28, 29]) (fo := [107, 108, 110, u2, u3, u4]) (as := [.ref 100, .ref 103, .ref 107]) (as' := [.ref 111, .ref 126]) (st := []) (k := 0) (n := 0) cX7_name_62 (con_matches d I La K f2 nb nt 1 (nI R) (nI cn) 4 5 6 Kf2 RF2 nb nt hs' ro' cv' 7 8 9 hnb hnb hnt hnt k g hK30 hKf hI) ab_pfx rfl (by decide) rfl rfl rfl rfl rfl rfl (Nat.le_of_ble_eq_true rfl) dX7_name_62 (fun w' v h => by obtain ⟨_, _, _, h, _⟩ := h; rw [h]; exact (rfl : (11 : Nat) = 11)) (fun w2 v2 hq => ?_)
    obtain ⟨I2, La2, h, rfl, hI2, hway⟩ := hq
    have fin : ∀ (N2 : Nat → Int32) (dg2 : Int32), ((Way k nt nb f2 Kf2 RF2 nt nb h ∧ (∀ h2, Way k nt nb f2 Kf2 RF2 nt nb h2 → LexLe 0 nb h h2) ∧ N2 = va_cpy I2 N 0 0 nb ∧ dg2 = 0) ∨ ((¬ ∃ h2, Way k nt nb f2 Kf2 RF2 nt nb h2) ∧ N2 = N ∧ dg2 = dg)) → G ab_x0 mX7_name (d + 12 + 1) 0 0 (fun w' v => ∃ (s2 : SS) (len2 : Int32) (D2 : Nat → Int32) (R : Nat) (F2 f1 f2 f3 E e1 e2 e3 : Nat → Int32) (ce : Int32) (o rk st : Nat → Nat) (cn : Nat), Hsh nb nt k F2 R ∧ grpOk F2 f1 f2 f3 nb o rk st cn ∧ (((¬ lg_cmp (nI (nmg st cn)).toInt64 steps ≤ 0) ∧ (w' = (nW 106 113 m4 m5 u2 u3 u4 kc s2 len2 D2 ce E e1 e2 e3 nb nt 1 (nI R) K (nI cn) F2 f1 f2 f3 I La fd P Qb tr dg fb ft hs' ro' Kf cv' RF N) ∨ w' = (nW 113 106 m4 m5 u2 u3 u4 kc s2 len2 D2 (nI cn) F2 f1 f2 f3 nb nt 1 (nI R) K ce E e1 e2 e3 I La fd P Qb tr dg fb ft hs' ro' Kf cv' RF N)) ∧ v = some (.int (-1))) ∨ (lg_cmp (nI (nmg st cn)).toInt64 steps ≤ 0 ∧ ∃ (I2 I3 La3 : Nat → Int32) (fd2 : Int32) (P2 Q2 tr2 Kf2 RF2 N2 : Nat → Int32) (dg2 : Int32) (h h3 : Nat → Nat), (w' = (nW 106 113 m4 m5 u2 u3 u4 kc s2 len2 D2 ce E e1 e2 e3 nb nt 1 (nI R) K (nI cn) F2 f1 f2 f3 I3 La3 fd2 P2 Q2 tr2 dg2 (nI nb) (nI nt) hs' ro' Kf2 cv' RF2 N2) ∨ w' = (nW 113 106 m4 m5 u2 u3 u4 kc s2 len2 D2 (nI cn) F2 f1 f2 f3 nb nt 1 (nI R) K ce E e1 e2 e3 I3 La3 fd2 P2 Q2 tr2 dg2 (nI nb) (nI nt) hs' ro' Kf2 cv' RF2 N2)) ∧ RepX nt (srch k nt nb o rk st nb 0 ((p, false, q, fun _ => 0) : SX)).1 fd2 P2 Q2 Kf2 ∧ (∀ j, j < nb → RF2 j = nI (rk (o j))) ∧ (∀ j, j < 8 → I2 j = nI (h j) ∧ h j ≤ 8) ∧ (∀ j, j < 8 → I3 j = nI (h3 j) ∧ h3 j ≤ 8) ∧ ((Way k nt nb f2 Kf2 RF2 nt nb h ∧ (∀ h2, Way k nt nb f2 Kf2 RF2 nt nb h2 → LexLe 0 nb h h2) ∧ N2 = va_cpy I2 N 0 0 nb ∧ dg2 = 0) ∨ ((¬ ∃ h2, Way k nt nb f2 Kf2 RF2 nt nb h2) ∧ N2 = N ∧ dg2 = dg)) ∧ v = some (.int (nI (aut k nt nb f2 K nb)))))) 89 [some (.ref 100), some (.long steps), none] [] (nW 113 106 m4 m5 u2 u3 u4 kc s2 len2 D2 (nI cn) F2 f1 f2 f3 nb nt 1 (nI R) K ce E e1 e2 e3 I2 La2 fd2 P2 Q2 tr2 dg2 (nI nb) (nI nt) hs' ro' Kf2 cv' RF2 N2) := by
      intro N2 dg2 hcase
      refine G_aload_n dX7_name_89 rfl ?_
      refine G_get (f := 1) kc8 dX7_name_90 fX7_19 (by decide) rfl rfl ?_
      refine G_aload_n dX7_name_93 rfl ?_
      refine G_get (f := 6) kc8 dX7_name_94 fX7_48 (by decide) rfl rfl ?_
      refine G_V (is := [18, 19, 20, 11, 12, 6, 9]) (fo := [107, 108, 110]) (as := [.ref 100, .ref 103]) (as' := [.ref 111]) (st := []) (k := 0) (n := 0) cX7_name_97 (con_automorphisms d I2 La2 K f2 nb nt 1 (nI R) (nI cn) 4 5 6 hnb hnt k h hK30 hKs hI2) ab_pfx rfl (by decide) rfl rfl rfl rfl rfl rfl (Nat.le_of_ble_eq_true rfl) dX7_name_97 (fun w' v h => by obtain ⟨_, _, _, h, _⟩ := h; rw [h]; exact (rfl : (7 : Nat) = 7)) (fun w2 v2 hq => ?_)
      obtain ⟨I3, La3, h3, rfl, hI3, rfl⟩ := hq
      refine G_w (st' := [.int (nI (aut k nt nb f2 K nb))]) (w' := (nW 113 106 m4 m5 u2 u3 u4 kc s2 len2 D2 (nI cn) F2 f1 f2 f3 nb nt 1 (nI R) K ce E e1 e2 e3 I3 La3 fd2 P2 Q2 tr2 dg2 (nI nb) (nI nt) hs' ro' Kf2 cv' RF2 N2)) rfl rfl ?_
      exact G_ret (v := some (.int _)) ⟨dX7_name_100, _, rfl, rfl⟩ ⟨s2, len2, D2, R, F2, f1, f2, f3, E, e1, e2, e3, ce, o, rk, st, cn, hHs, hGr, Or.inr ⟨hle, I2, I3, La3, fd2, P2, Q2, tr2, Kf2, RF2, N2, dg2, h, h3, Or.inr rfl, hrep, hRF, hI2, hI3, hcase, rfl⟩⟩
    rcases hway with ⟨hw1, hw2, rfl⟩ | ⟨hw1, rfl⟩
    · refine G_w (st' := [.int 1]) (w' := (nW 113 106 m4 m5 u2 u3 u4 kc s2 len2 D2 (nI cn) F2 f1 f2 f3 nb nt 1 (nI R) K ce E e1 e2 e3 I2 La2 fd2 P2 Q2 tr2 dg (nI nb) (nI nt) hs' ro' Kf2 cv' RF2 N)) rfl rfl ?_
      refine G_if_eq (tgt := 89) dX7_name_65 (by decide) (fun h => absurd h (by decide)) (fun _ => ?_)
      refine G_aload_n dX7_name_68 rfl ?_
      refine G_get (f := 3) kc8 dX7_name_69 fX7_33 (by decide) rfl rfl ?_
      refine G_aload_n dX7_name_72 rfl ?_
      refine G_get (f := 1) kc8 dX7_name_73 fX7_19 (by decide) rfl rfl ?_
      refine G_get (f := 0) kc5 dX7_name_76 fX7_106 (by decide) rfl rfl ?_
      refine G_aload_n dX7_name_79 rfl ?_
      refine G_get (f := 6) kc8 dX7_name_80 fX7_48 (by decide) rfl rfl ?_
      refine G_get (f := 1) kc1 dX7_name_83 fX7_52 (by decide) rfl rfl ?_
      refine G_V (is := [25, 30, 19]) (fo := [126, m5]) (as := [.ref 100, .ref 102, .int (nI nb)]) (as' := [.ref 119, .int (nI nb)]) (st := []) (k := 0) (n := 0) cX7_name_86 (con_adopt (d + 11) nb hnb I2 N dg 4 5) ab_pfx rfl (by decide) rfl rfl rfl rfl rfl rfl (Nat.le_of_ble_eq_true rfl) dX7_name_86 (fun w' v h => by rw [h.2]; exact (rfl : (3 : Nat) = 3)) (fun w2 v2 hq => ?_)
      obtain ⟨rfl, rfl⟩ := hq
      exact fin (va_cpy I2 N 0 0 nb) 0 (Or.inl ⟨hw1, hw2, rfl, rfl⟩)
    · refine G_w (st' := [.int 0]) (w' := (nW 113 106 m4 m5 u2 u3 u4 kc s2 len2 D2 (nI cn) F2 f1 f2 f3 nb nt 1 (nI R) K ce E e1 e2 e3 I2 La2 fd2 P2 Q2 tr2 dg (nI nb) (nI nt) hs' ro' Kf2 cv' RF2 N)) rfl rfl ?_
      refine G_if_eq (tgt := 89) dX7_name_65 (by decide) (fun _ => ?_) (fun h => absurd rfl h)
      exact fin N dg (Or.inr ⟨hw1, rfl, rfl⟩)
