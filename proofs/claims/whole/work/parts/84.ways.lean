theorem ab_put_pre {n : Nat} {is : List Nat} (w cs : List ab_C) (x : ab_C) (hi : is = List.range' 0 n) (h1 : w.length = n) (h2 : cs.length = n) : ab_put (w ++ [x]) is cs = cs ++ [x] := by
  subst hi
  have := ab_put_all cs [] w [x] (by omega)
  rw [h2] at this
  exact this
/-! CanonNames.isomorphic, ways where the kept graph is there -/
abbrev iW (T : Nat → Nat) (kc : Nat) (nx gr tg : Nat) (m2 m3 : Nat) (s : SS) (len : Int32) (D : Nat → Int32) (cX : Int32) (FX X1 X2 X3 : Nat → Int32) (nb nt : Nat) (hs ro : Int32) (K : Nat → Int32) (cY : Int32) (FY Y1 Y2 Y3 : Nat → Int32) (I La : Nat → Int32) (nb' nt' : Nat) (hs' ro' : Int32) (K' : Nat → Int32) (cZ : Int32) (FZ Z1 Z2 Z3 : Nat → Int32) : List ab_C :=
  [c7 102 101 118 m2 m3 128 (nI kc) 111, .inr (3, [.ref 102, .ref 105, .ref nx]), .inr (7, [.ref 103, .ref 104, .int (nI s.2.2), .int len]), cI 8 s.1, cI 64 s.2.1, cI 40 D, .inr (2, [.ref 107, .ref 108, .ref 109, .ref 110, .int cX]), cI 64 FX, cI 8 X1, cI 8 X2, cI 9 X3,
   .inr (1, [.ref 112, .int (nI nb), .int (nI nt), .int hs, .int ro, .ref gr]), cI 40 K, .inr (2, [.ref 114, .ref 115, .ref 116, .ref 117, .int cY]), cI 64 FY, cI 8 Y1, cI 8 Y2, cI 9 Y3,
   .inr (5, [.ref 119, .ref 120]), cI 8 I, cI 40 La, .inr (1, [.ref 122, .int (nI nb'), .int (nI nt'), .int hs', .int ro', .ref tg]), cI 40 K', .inr (2, [.ref 124, .ref 125, .ref 126, .ref 127, .int cZ]), cI 64 FZ, cI 8 Z1, cI 8 Z2, cI 9 Z3, .inl (4, 8, .inr (.inr (.inr (.inr (kf T kc)))))]
set_option maxRecDepth 20000 in
theorem rcb11 (m2 m3 n : Nat) (kc : Int32) (s : SS) (len : Int32) (D : Nat → Int32) (cX : Int32) (FX X1 X2 X3 : Nat → Int32) (nb nt : Nat) (hs ro : Int32) (K : Nat → Int32) (cY : Int32) (FY Y1 Y2 Y3 : Nat → Int32) (I La : Nat → Int32) (nb' nt' : Nat) (hs' ro' : Int32) (K' : Nat → Int32) (cZ : Int32) (FZ Z1 Z2 Z3 : Nat → Int32) : (bW 106 113 123 4 5 6 kc s len D cX FX X1 X2 X3 nb nt hs ro K cY FY Y1 Y2 Y3 I La nb' nt' hs' ro' K' cZ FZ Z1 Z2 Z3).map (ab_rc (ab_rho [0, 1, 2, 3, 4, 5, 6, 7, 8, 9, 10, 11, 12, 13, 14, 15, 16, 17, 18, 19, 20, 21, 22, 23, 24, 25, 26, 27] [m2, m3, 128] n)) = bW 106 113 123 m2 m3 128 kc s len D cX FX X1 X2 X3 nb nt hs ro K cY FY Y1 Y2 Y3 I La nb' nt' hs' ro' K' cZ FZ Z1 Z2 Z3 := rfl
set_option maxRecDepth 20000 in
theorem rcb12 (m2 m3 n : Nat) (kc : Int32) (s : SS) (len : Int32) (D : Nat → Int32) (cX : Int32) (FX X1 X2 X3 : Nat → Int32) (nb nt : Nat) (hs ro : Int32) (K : Nat → Int32) (cY : Int32) (FY Y1 Y2 Y3 : Nat → Int32) (I La : Nat → Int32) (nb' nt' : Nat) (hs' ro' : Int32) (K' : Nat → Int32) (cZ : Int32) (FZ Z1 Z2 Z3 : Nat → Int32) : (bW 123 113 106 4 5 6 kc s len D cX FX X1 X2 X3 nb nt hs ro K cY FY Y1 Y2 Y3 I La nb' nt' hs' ro' K' cZ FZ Z1 Z2 Z3).map (ab_rc (ab_rho [0, 1, 2, 3, 4, 5, 6, 7, 8, 9, 10, 11, 12, 13, 14, 15, 16, 17, 18, 19, 20, 21, 22, 23, 24, 25, 26, 27] [m2, m3, 128] n)) = bW 123 113 106 m2 m3 128 kc s len D cX FX X1 X2 X3 nb nt hs ro K cY FY Y1 Y2 Y3 I La nb' nt' hs' ro' K' cZ FZ Z1 Z2 Z3 := rfl
set_option maxRecDepth 20000 in
theorem rcb21 (m2 m3 n : Nat) (kc : Int32) (s : SS) (len : Int32) (D : Nat → Int32) (cX : Int32) (FX X1 X2 X3 : Nat → Int32) (nb nt : Nat) (hs ro : Int32) (K : Nat → Int32) (cY : Int32) (FY Y1 Y2 Y3 : Nat → Int32) (I La : Nat → Int32) (nb' nt' : Nat) (hs' ro' : Int32) (K' : Nat → Int32) (cZ : Int32) (FZ Z1 Z2 Z3 : Nat → Int32) : (bW 113 106 123 4 5 6 kc s len D cX FX X1 X2 X3 nb nt hs ro K cY FY Y1 Y2 Y3 I La nb' nt' hs' ro' K' cZ FZ Z1 Z2 Z3).map (ab_rc (ab_rho [0, 1, 2, 3, 4, 5, 6, 7, 8, 9, 10, 11, 12, 13, 14, 15, 16, 17, 18, 19, 20, 21, 22, 23, 24, 25, 26, 27] [m2, m3, 128] n)) = bW 113 106 123 m2 m3 128 kc s len D cX FX X1 X2 X3 nb nt hs ro K cY FY Y1 Y2 Y3 I La nb' nt' hs' ro' K' cZ FZ Z1 Z2 Z3 := rfl
set_option maxRecDepth 20000 in
theorem rcb22 (m2 m3 n : Nat) (kc : Int32) (s : SS) (len : Int32) (D : Nat → Int32) (cX : Int32) (FX X1 X2 X3 : Nat → Int32) (nb nt : Nat) (hs ro : Int32) (K : Nat → Int32) (cY : Int32) (FY Y1 Y2 Y3 : Nat → Int32) (I La : Nat → Int32) (nb' nt' : Nat) (hs' ro' : Int32) (K' : Nat → Int32) (cZ : Int32) (FZ Z1 Z2 Z3 : Nat → Int32) : (bW 123 106 113 4 5 6 kc s len D cX FX X1 X2 X3 nb nt hs ro K cY FY Y1 Y2 Y3 I La nb' nt' hs' ro' K' cZ FZ Z1 Z2 Z3).map (ab_rc (ab_rho [0, 1, 2, 3, 4, 5, 6, 7, 8, 9, 10, 11, 12, 13, 14, 15, 16, 17, 18, 19, 20, 21, 22, 23, 24, 25, 26, 27] [m2, m3, 128] n)) = bW 123 106 113 m2 m3 128 kc s len D cX FX X1 X2 X3 nb nt hs ro K cY FY Y1 Y2 Y3 I La nb' nt' hs' ro' K' cZ FZ Z1 Z2 Z3 := rfl
set_option maxRecDepth 20000 in
theorem fitb (T : Nat → Nat) (kc m2 m3 : Nat) (s : SS) (len : Int32) (D : Nat → Int32) (cX : Int32) (FX X1 X2 X3 : Nat → Int32) (nb nt : Nat) (hs ro : Int32) (K : Nat → Int32) (cY : Int32) (FY Y1 Y2 Y3 : Nat → Int32) (I La : Nat → Int32) (nb' nt' : Nat) (hs' ro' : Int32) (K' : Nat → Int32) (cZ : Int32) (FZ Z1 Z2 Z3 : Nat → Int32) : ab_fits [0, 1, 2, 3, 4, 5, 6, 7, 8, 9, 10, 11, 12, 13, 14, 15, 16, 17, 18, 19, 20, 21, 22, 23, 24, 25, 26, 27] [m2, m3, 128] (bW 106 113 123 4 5 6 (nI kc) s len D cX FX X1 X2 X3 nb nt hs ro K cY FY Y1 Y2 Y3 I La nb' nt' hs' ro' K' cZ FZ Z1 Z2 Z3) (iW T kc 106 113 123 m2 m3 s len D cX FX X1 X2 X3 nb nt hs ro K cY FY Y1 Y2 Y3 I La nb' nt' hs' ro' K' cZ FZ Z1 Z2 Z3) := rfl
set_option maxRecDepth 20000 in
set_option maxHeartbeats 8000000 in
theorem con_isomorphic (d nb nt nb' nt' : Nat) (hnb : nb ≤ 8) (hnt : nt ≤ 40) (hnb' : nb' ≤ 8) (hnt' : nt' ≤ 40) (m2 m3 kc : Nat) (hkc : kc ≤ 8) (T : Nat → Nat) (x : Int32) (hx : 0 ≤ x.toInt ∧ x.toInt < kc) (hT : T x.toInt.toNat = 121) (s : SS) (len hs ro hs' ro' : Int32) (D K K' : Nat → Int32) (k k' : Nat → Nat) (cX : Int32) (FX X1 X2 X3 : Nat → Int32) (cY : Int32) (FY Y1 Y2 Y3 : Nat → Int32) (cZ : Int32) (FZ Z1 Z2 Z3 : Nat → Int32) (hk : keysOk K k nt nb) (hKs : ∀ i j, i < j → j < nt → K i < K j) (hH : HS hs ro cY nb nt k FY Y1 Y2 Y3) (hk' : keysOk K' k' nt' nb') (hH' : HS hs' ro' cZ nb' nt' k' FZ Z1 Z2 Z3) (hKs' : ∀ i j, i < j → j < nt' → K' i < K' j) (I La : Nat → Int32) (g : Nat → Nat) (hI : ∀ j, j < 8 → I j = nI (g j) ∧ g j ≤ 8) : Con mX7_isomorphic (d + 14) 0 0 (iW T kc 106 113 123 m2 m3 s len D cX FX X1 X2 X3 nb nt hs ro K cY FY Y1 Y2 Y3 I La nb' nt' hs' ro' K' cZ FZ Z1 Z2 Z3) [.ref 100, .int x] (fun w' v => ((¬ (nb = nb' ∧ nt = nt')) ∧ w' = (iW T kc 106 113 123 m2 m3 s len D cX FX X1 X2 X3 nb nt hs ro K cY FY Y1 Y2 Y3 I La nb' nt' hs' ro' K' cZ FZ Z1 Z2 Z3) ∧ v = some (.int 0)) ∨ ((nb = nb' ∧ nt = nt') ∧ ∃ (s2 : SS) (len2 : Int32) (D2 : Nat → Int32) (R : Nat) (F2 f1 f2 f3 E e1 e2 e3 : Nat → Int32) (ce : Int32) (o rk st : Nat → Nat) (cn : Nat), Hsh nb nt k F2 R ∧ grpOk F2 f1 f2 f3 nb o rk st cn ∧ ∃ (s4 : SS) (len4 : Int32) (D4 : Nat → Int32) (R' : Nat) (F4 g1 g2 g3 E' x1 x2 x3 : Nat → Int32) (ce' : Int32) (o' rk' st' : Nat → Nat) (cn' : Nat), Hsh nb' nt' k' F4 R' ∧ grpOk F4 g1 g2 g3 nb' o' rk' st' cn' ∧ ∃ (I2 La2 : Nat → Int32) (h : Nat → Nat), (w' = (iW T kc 106 113 123 m2 m3 s4 len4 D4 ce' E' x1 x2 x3 nb nt 1 (nI R) K (nI cn) F2 f1 f2 f3 I2 La2 nb' nt' 1 (nI R') K' (nI cn') F4 g1 g2 g3) ∨ w' = (iW T kc 123 113 106 m2 m3 s4 len4 D4 (nI cn') F4 g1 g2 g3 nb nt 1 (nI R) K (nI cn) F2 f1 f2 f3 I2 La2 nb' nt' 1 (nI R') K' ce' E' x1 x2 x3) ∨ w' = (iW T kc 113 106 123 m2 m3 s4 len4 D4 (nI cn) F2 f1 f2 f3 nb nt 1 (nI R) K ce' E' x1 x2 x3 I2 La2 nb' nt' 1 (nI R') K' (nI cn') F4 g1 g2 g3) ∨ w' = (iW T kc 123 106 113 m2 m3 s4 len4 D4 (nI cn) F2 f1 f2 f3 nb nt 1 (nI R) K (nI cn') F4 g1 g2 g3 I2 La2 nb' nt' 1 (nI R') K' ce' E' x1 x2 x3)) ∧ (∀ j, j < 8 → I2 j = nI (h j) ∧ h j ≤ 8) ∧ (((¬ (∀ j, j < nb → hv F2 (o j) = hv F4 (o' j))) ∧ v = some (.int 0)) ∨ ((∀ j, j < nb → hv F2 (o j) = hv F4 (o' j)) ∧ (((∃ h2, Way k nt nb f2 K' g2 nt' nb' h2) ∧ v = some (.int 1)) ∨ ((¬ ∃ h2, Way k nt nb f2 K' g2 nt' nb' h2) ∧ v = some (.int 0))))))) := by
  refine Con.of (ab_okc rfl (by decide)) (Nat.le_of_ble_eq_true rfl) ?_
  show G ab_x0 mX7_isomorphic (d + 13 + 1) 0 0 _ 0 [some (.ref 100), some (.int x), none] [] _
  have hK30 : ∀ i, i < nt → K i = nI (k i) ∧ k i < 2 ^ 30 := fun i hi => ⟨(hk i hi).1, (hk i hi).2.1⟩
  have hfit : ab_fits [0, 28] [102, 101, 118, m2, m3, 111, T 0, T 1, T 2, T 3, T 4, T 5, T 6, T 7] [c7 4 5 6 7 8 101 (nI kc) 9, .inl (4, 8, .inr (.inr (.inr (.inr (kf (fun j => 10 + j) kc)))))] (iW T kc 106 113 123 m2 m3 s len D cX FX X1 X2 X3 nb nt hs ro K cY FY Y1 Y2 Y3 I La nb' nt' hs' ro' K' cZ FZ Z1 Z2 Z3) := by
    have e := kf_map (T := T) (kc := kc) (r := ab_rho [0, 28] [102, 101, 118, m2, m3, 111, T 0, T 1, T 2, T 3, T 4, T 5, T 6, T 7] 29) (S := fun j => 10 + j) (fun j hj => kf_rho 102 101 118 m2 m3 111 T [0, 28] 29 j (by omega))
    show [some _, some (.inl (4, 8, .inr (.inr (.inr (.inr (fun j => (kf (fun j => 10 + j) kc j).map (ab_rho [0, 28] [102, 101, 118, m2, m3, 111, T 0, T 1, T 2, T 3, T 4, T 5, T 6, T 7] 29)))))) : ab_C)] = _
    rw [e]
    rfl
  refine G_aload_n dX7_isomorphic_0 rfl ?_
  refine G_iload_n dX7_isomorphic_1 rfl ?_
  refine G_V (is := [0, 28]) (fo := [102, 101, 118, m2, m3, 111, T 0, T 1, T 2, T 3, T 4, T 5, T 6, T 7]) (as := [.ref 100, .int x]) (as' := [.int x]) (st := []) (k := 0) (n := 0) cX7_isomorphic_2 (con_keptAt (d + 13) kc hkc 4 5 6 7 8 9 (kf (fun j => 10 + j) kc) x) ab_pfx hfit (by decide) rfl rfl rfl rfl rfl rfl (Nat.le_of_ble_eq_true rfl) dX7_isomorphic_2 (fun w' v h => by rw [h.1]) (fun w2 v2 hq => ?_)
  obtain ⟨rfl, hq⟩ := hq
  rw [hfit.same]
  rcases hq with ⟨h1, _⟩ | ⟨h1, h2, rfl⟩
  · exact absurd hx h1
  refine G_w (st' := [.ref 121]) (w' := (iW T kc 106 113 123 m2 m3 s len D cX FX X1 X2 X3 nb nt hs ro K cY FY Y1 Y2 Y3 I La nb' nt' hs' ro' K' cZ FZ Z1 Z2 Z3)) ?_ rfl ?_
  · have e : kf (fun j => 10 + j) kc x.toInt.toNat = some (10 + x.toInt.toNat) := by unfold kf; rw [if_pos (by omega)]
    rw [e]
    show [Value.ref (ab_rho [0, 28] [102, 101, 118, m2, m3, 111, T 0, T 1, T 2, T 3, T 4, T 5, T 6, T 7] 29 (10 + x.toInt.toNat))] = _
    rw [kf_rho 102 101 118 m2 m3 111 T [0, 28] 29 _ (by omega), hT]
  refine G_astore_n (L' := [_, _, _]) dX7_isomorphic_5 (Nat.le_of_ble_eq_true rfl) rfl ?_
  refine G_aload_n dX7_isomorphic_6 rfl ?_
  refine G_ifnn (tgt := 12) dX7_isomorphic_7 (by decide) ?_
  refine G_aload_n dX7_isomorphic_12 rfl ?_
  refine G_aload_n dX7_isomorphic_13 rfl ?_
  refine G_V (is := [0, 1, 2, 3, 4, 5, 6, 7, 8, 9, 10, 11, 12, 13, 14, 15, 16, 17, 18, 19, 20, 21, 22, 23, 24, 25, 26, 27]) (fo := [m2, m3, 128]) (as := [.ref 100, .ref 121]) (as' := [.ref 121]) (st := []) (k := 0) (n := 0) cX7_isomorphic_14 (con_becomes d nb nt nb' nt' hnb hnt hnb' hnt' 4 5 6 (nI kc) s len hs ro hs' ro' D K K' k k' cX FX X1 X2 X3 cY FY Y1 Y2 Y3 cZ FZ Z1 Z2 Z3 hk hH hk' hH' hKs' I La g hI) ab_pfx (fitb T kc m2 m3 s len D cX FX X1 X2 X3 nb nt hs ro K cY FY Y1 Y2 Y3 I La nb' nt' hs' ro' K' cZ FZ Z1 Z2 Z3) (by decide) rfl rfl rfl rfl rfl rfl (Nat.le_of_ble_eq_true rfl) dX7_isomorphic_14 (fun w' v h => by
    rcases h with ⟨_, h, _⟩ | ⟨_, _, _, _, _, _, _, _, _, _, _, _, _, _, _, _, _, _, _, _, _, _, _, _, _, _, _, _, _, _, _, _, _, _, _, _, _, _, _, _, _, _, h, _⟩
    · rw [h]
    · rcases h with h | h | h | h <;> rw [h] <;> exact (rfl : (28 : Nat) = 28)) (fun w2 v2 hq => ?_)
  rcases hq with ⟨hsz, rfl, rfl⟩ | ⟨hsz, hq⟩
  · skip
    refine G_w (st' := [.int 0]) (w' := (iW T kc 106 113 123 m2 m3 s len D cX FX X1 X2 X3 nb nt hs ro K cY FY Y1 Y2 Y3 I La nb' nt' hs' ro' K' cZ FZ Z1 Z2 Z3)) rfl ?_ ?_
    · rw [rcb11]
      exact ab_put_pre (bW 106 113 123 m2 m3 128 (nI kc) s len D cX FX X1 X2 X3 nb nt hs ro K cY FY Y1 Y2 Y3 I La nb' nt' hs' ro' K' cZ FZ Z1 Z2 Z3) (bW 106 113 123 m2 m3 128 (nI kc) s len D cX FX X1 X2 X3 nb nt hs ro K cY FY Y1 Y2 Y3 I La nb' nt' hs' ro' K' cZ FZ Z1 Z2 Z3) _ rfl rfl rfl
    refine G_if_eq (tgt := 24) dX7_isomorphic_17 (by decide) (fun _ => ?_) (fun h => absurd rfl h)
    refine G_iconst (v := 0) dX7_isomorphic_24 (by decide) ?_
    exact G_ret (v := some (.int _)) ⟨dX7_isomorphic_25, _, rfl, rfl⟩ (Or.inl ⟨hsz, rfl, rfl⟩)
  obtain ⟨s2, len2, D2, R, F2, f1, f2, f3, E, e1, e2, e3, ce, o, rk, st, cn, hHs, hGr, s4, len4, D4, R', F4, g1, g2, g3, E', x1, x2, x3, ce', o', rk', st', cn', hHs', hGr', I2, La2, h, hq, hI2, hv'⟩ := hq
  rcases hq with rfl | rfl | rfl | rfl
  · rcases hv' with ⟨hno, rfl⟩ | ⟨hsame, hv'⟩
    · skip
      refine G_w (st' := [.int 0]) (w' := (iW T kc 106 113 123 m2 m3 s4 len4 D4 ce' E' x1 x2 x3 nb nt 1 (nI R) K (nI cn) F2 f1 f2 f3 I2 La2 nb' nt' 1 (nI R') K' (nI cn') F4 g1 g2 g3)) rfl ?_ ?_
      · rw [rcb11]
        exact ab_put_pre (bW 106 113 123 m2 m3 128 (nI kc) s len D cX FX X1 X2 X3 nb nt hs ro K cY FY Y1 Y2 Y3 I La nb' nt' hs' ro' K' cZ FZ Z1 Z2 Z3) (bW 106 113 123 m2 m3 128 (nI kc) s4 len4 D4 ce' E' x1 x2 x3 nb nt 1 (nI R) K (nI cn) F2 f1 f2 f3 I2 La2 nb' nt' 1 (nI R') K' (nI cn') F4 g1 g2 g3) _ rfl rfl rfl
      refine G_if_eq (tgt := 24) dX7_isomorphic_17 (by decide) (fun _ => ?_) (fun h => absurd rfl h)
      refine G_iconst (v := 0) dX7_isomorphic_24 (by decide) ?_
      exact G_ret (v := some (.int _)) ⟨dX7_isomorphic_25, _, rfl, rfl⟩ (Or.inr ⟨hsz, s2, len2, D2, R, F2, f1, f2, f3, E, e1, e2, e3, ce, o, rk, st, cn, hHs, hGr, s4, len4, D4, R', F4, g1, g2, g3, E', x1, x2, x3, ce', o', rk', st', cn', hHs', hGr', I2, La2, h, Or.inl rfl, hI2, Or.inl ⟨hno, rfl⟩⟩)
    rcases hv' with ⟨hw1, rfl⟩ | ⟨hw1, rfl⟩
    rotate_left
    · skip
      refine G_w (st' := [.int 0]) (w' := (iW T kc 106 113 123 m2 m3 s4 len4 D4 ce' E' x1 x2 x3 nb nt 1 (nI R) K (nI cn) F2 f1 f2 f3 I2 La2 nb' nt' 1 (nI R') K' (nI cn') F4 g1 g2 g3)) rfl ?_ ?_
      · rw [rcb11]
        exact ab_put_pre (bW 106 113 123 m2 m3 128 (nI kc) s len D cX FX X1 X2 X3 nb nt hs ro K cY FY Y1 Y2 Y3 I La nb' nt' hs' ro' K' cZ FZ Z1 Z2 Z3) (bW 106 113 123 m2 m3 128 (nI kc) s4 len4 D4 ce' E' x1 x2 x3 nb nt 1 (nI R) K (nI cn) F2 f1 f2 f3 I2 La2 nb' nt' 1 (nI R') K' (nI cn') F4 g1 g2 g3) _ rfl rfl rfl
      refine G_if_eq (tgt := 24) dX7_isomorphic_17 (by decide) (fun _ => ?_) (fun h => absurd rfl h)
      refine G_iconst (v := 0) dX7_isomorphic_24 (by decide) ?_
      exact G_ret (v := some (.int _)) ⟨dX7_isomorphic_25, _, rfl, rfl⟩ (Or.inr ⟨hsz, s2, len2, D2, R, F2, f1, f2, f3, E, e1, e2, e3, ce, o, rk, st, cn, hHs, hGr, s4, len4, D4, R', F4, g1, g2, g3, E', x1, x2, x3, ce', o', rk', st', cn', hHs', hGr', I2, La2, h, Or.inl rfl, hI2, Or.inr ⟨hsame, Or.inr ⟨hw1, rfl⟩⟩⟩)
    refine G_w (st' := [.int 1]) (w' := (iW T kc 106 113 123 m2 m3 s4 len4 D4 ce' E' x1 x2 x3 nb nt 1 (nI R) K (nI cn) F2 f1 f2 f3 I2 La2 nb' nt' 1 (nI R') K' (nI cn') F4 g1 g2 g3)) rfl ?_ ?_
    · rw [rcb11]
      exact ab_put_pre (bW 106 113 123 m2 m3 128 (nI kc) s len D cX FX X1 X2 X3 nb nt hs ro K cY FY Y1 Y2 Y3 I La nb' nt' hs' ro' K' cZ FZ Z1 Z2 Z3) (bW 106 113 123 m2 m3 128 (nI kc) s4 len4 D4 ce' E' x1 x2 x3 nb nt 1 (nI R) K (nI cn) F2 f1 f2 f3 I2 La2 nb' nt' 1 (nI R') K' (nI cn') F4 g1 g2 g3) _ rfl rfl rfl
    refine G_if_eq (tgt := 24) dX7_isomorphic_17 (by decide) (fun h => absurd h (by decide)) (fun _ => ?_)
    refine G_iconst (v := 1) dX7_isomorphic_20 (by decide) ?_
    refine G_goto (tgt := 25) dX7_isomorphic_21 (by decide) ?_
    exact G_ret (v := some (.int _)) ⟨dX7_isomorphic_25, _, rfl, rfl⟩ (Or.inr ⟨hsz, s2, len2, D2, R, F2, f1, f2, f3, E, e1, e2, e3, ce, o, rk, st, cn, hHs, hGr, s4, len4, D4, R', F4, g1, g2, g3, E', x1, x2, x3, ce', o', rk', st', cn', hHs', hGr', I2, La2, h, Or.inl rfl, hI2, Or.inr ⟨hsame, Or.inl ⟨⟨h, hw1⟩, rfl⟩⟩⟩)
  · rcases hv' with ⟨hno, rfl⟩ | ⟨hsame, hv'⟩
    · skip
      refine G_w (st' := [.int 0]) (w' := (iW T kc 123 113 106 m2 m3 s4 len4 D4 (nI cn') F4 g1 g2 g3 nb nt 1 (nI R) K (nI cn) F2 f1 f2 f3 I2 La2 nb' nt' 1 (nI R') K' ce' E' x1 x2 x3)) rfl ?_ ?_
      · rw [rcb12]
        exact ab_put_pre (bW 106 113 123 m2 m3 128 (nI kc) s len D cX FX X1 X2 X3 nb nt hs ro K cY FY Y1 Y2 Y3 I La nb' nt' hs' ro' K' cZ FZ Z1 Z2 Z3) (bW 123 113 106 m2 m3 128 (nI kc) s4 len4 D4 (nI cn') F4 g1 g2 g3 nb nt 1 (nI R) K (nI cn) F2 f1 f2 f3 I2 La2 nb' nt' 1 (nI R') K' ce' E' x1 x2 x3) _ rfl rfl rfl
      refine G_if_eq (tgt := 24) dX7_isomorphic_17 (by decide) (fun _ => ?_) (fun h => absurd rfl h)
      refine G_iconst (v := 0) dX7_isomorphic_24 (by decide) ?_
      exact G_ret (v := some (.int _)) ⟨dX7_isomorphic_25, _, rfl, rfl⟩ (Or.inr ⟨hsz, s2, len2, D2, R, F2, f1, f2, f3, E, e1, e2, e3, ce, o, rk, st, cn, hHs, hGr, s4, len4, D4, R', F4, g1, g2, g3, E', x1, x2, x3, ce', o', rk', st', cn', hHs', hGr', I2, La2, h, Or.inr (Or.inl rfl), hI2, Or.inl ⟨hno, rfl⟩⟩)
    rcases hv' with ⟨hw1, rfl⟩ | ⟨hw1, rfl⟩
    rotate_left
    · skip
      refine G_w (st' := [.int 0]) (w' := (iW T kc 123 113 106 m2 m3 s4 len4 D4 (nI cn') F4 g1 g2 g3 nb nt 1 (nI R) K (nI cn) F2 f1 f2 f3 I2 La2 nb' nt' 1 (nI R') K' ce' E' x1 x2 x3)) rfl ?_ ?_
      · rw [rcb12]
        exact ab_put_pre (bW 106 113 123 m2 m3 128 (nI kc) s len D cX FX X1 X2 X3 nb nt hs ro K cY FY Y1 Y2 Y3 I La nb' nt' hs' ro' K' cZ FZ Z1 Z2 Z3) (bW 123 113 106 m2 m3 128 (nI kc) s4 len4 D4 (nI cn') F4 g1 g2 g3 nb nt 1 (nI R) K (nI cn) F2 f1 f2 f3 I2 La2 nb' nt' 1 (nI R') K' ce' E' x1 x2 x3) _ rfl rfl rfl
      refine G_if_eq (tgt := 24) dX7_isomorphic_17 (by decide) (fun _ => ?_) (fun h => absurd rfl h)
      refine G_iconst (v := 0) dX7_isomorphic_24 (by decide) ?_
      exact G_ret (v := some (.int _)) ⟨dX7_isomorphic_25, _, rfl, rfl⟩ (Or.inr ⟨hsz, s2, len2, D2, R, F2, f1, f2, f3, E, e1, e2, e3, ce, o, rk, st, cn, hHs, hGr, s4, len4, D4, R', F4, g1, g2, g3, E', x1, x2, x3, ce', o', rk', st', cn', hHs', hGr', I2, La2, h, Or.inr (Or.inl rfl), hI2, Or.inr ⟨hsame, Or.inr ⟨hw1, rfl⟩⟩⟩)
    refine G_w (st' := [.int 1]) (w' := (iW T kc 123 113 106 m2 m3 s4 len4 D4 (nI cn') F4 g1 g2 g3 nb nt 1 (nI R) K (nI cn) F2 f1 f2 f3 I2 La2 nb' nt' 1 (nI R') K' ce' E' x1 x2 x3)) rfl ?_ ?_
    · rw [rcb12]
      exact ab_put_pre (bW 106 113 123 m2 m3 128 (nI kc) s len D cX FX X1 X2 X3 nb nt hs ro K cY FY Y1 Y2 Y3 I La nb' nt' hs' ro' K' cZ FZ Z1 Z2 Z3) (bW 123 113 106 m2 m3 128 (nI kc) s4 len4 D4 (nI cn') F4 g1 g2 g3 nb nt 1 (nI R) K (nI cn) F2 f1 f2 f3 I2 La2 nb' nt' 1 (nI R') K' ce' E' x1 x2 x3) _ rfl rfl rfl
    refine G_if_eq (tgt := 24) dX7_isomorphic_17 (by decide) (fun h => absurd h (by decide)) (fun _ => ?_)
    refine G_iconst (v := 1) dX7_isomorphic_20 (by decide) ?_
    refine G_goto (tgt := 25) dX7_isomorphic_21 (by decide) ?_
    exact G_ret (v := some (.int _)) ⟨dX7_isomorphic_25, _, rfl, rfl⟩ (Or.inr ⟨hsz, s2, len2, D2, R, F2, f1, f2, f3, E, e1, e2, e3, ce, o, rk, st, cn, hHs, hGr, s4, len4, D4, R', F4, g1, g2, g3, E', x1, x2, x3, ce', o', rk', st', cn', hHs', hGr', I2, La2, h, Or.inr (Or.inl rfl), hI2, Or.inr ⟨hsame, Or.inl ⟨⟨h, hw1⟩, rfl⟩⟩⟩)
  · rcases hv' with ⟨hno, rfl⟩ | ⟨hsame, hv'⟩
    · skip
      refine G_w (st' := [.int 0]) (w' := (iW T kc 113 106 123 m2 m3 s4 len4 D4 (nI cn) F2 f1 f2 f3 nb nt 1 (nI R) K ce' E' x1 x2 x3 I2 La2 nb' nt' 1 (nI R') K' (nI cn') F4 g1 g2 g3)) rfl ?_ ?_
      · rw [rcb21]
        exact ab_put_pre (bW 106 113 123 m2 m3 128 (nI kc) s len D cX FX X1 X2 X3 nb nt hs ro K cY FY Y1 Y2 Y3 I La nb' nt' hs' ro' K' cZ FZ Z1 Z2 Z3) (bW 113 106 123 m2 m3 128 (nI kc) s4 len4 D4 (nI cn) F2 f1 f2 f3 nb nt 1 (nI R) K ce' E' x1 x2 x3 I2 La2 nb' nt' 1 (nI R') K' (nI cn') F4 g1 g2 g3) _ rfl rfl rfl
      refine G_if_eq (tgt := 24) dX7_isomorphic_17 (by decide) (fun _ => ?_) (fun h => absurd rfl h)
      refine G_iconst (v := 0) dX7_isomorphic_24 (by decide) ?_
      exact G_ret (v := some (.int _)) ⟨dX7_isomorphic_25, _, rfl, rfl⟩ (Or.inr ⟨hsz, s2, len2, D2, R, F2, f1, f2, f3, E, e1, e2, e3, ce, o, rk, st, cn, hHs, hGr, s4, len4, D4, R', F4, g1, g2, g3, E', x1, x2, x3, ce', o', rk', st', cn', hHs', hGr', I2, La2, h, Or.inr (Or.inr (Or.inl rfl)), hI2, Or.inl ⟨hno, rfl⟩⟩)
    rcases hv' with ⟨hw1, rfl⟩ | ⟨hw1, rfl⟩
    rotate_left
    · skip
      refine G_w (st' := [.int 0]) (w' := (iW T kc 113 106 123 m2 m3 s4 len4 D4 (nI cn) F2 f1 f2 f3 nb nt 1 (nI R) K ce' E' x1 x2 x3 I2 La2 nb' nt' 1 (nI R') K' (nI cn') F4 g1 g2 g3)) rfl ?_ ?_
      · rw [rcb21]
        exact ab_put_pre (bW 106 113 123 m2 m3 128 (nI kc) s len D cX FX X1 X2 X3 nb nt hs ro K cY FY Y1 Y2 Y3 I La nb' nt' hs' ro' K' cZ FZ Z1 Z2 Z3) (bW 113 106 123 m2 m3 128 (nI kc) s4 len4 D4 (nI cn) F2 f1 f2 f3 nb nt 1 (nI R) K ce' E' x1 x2 x3 I2 La2 nb' nt' 1 (nI R') K' (nI cn') F4 g1 g2 g3) _ rfl rfl rfl
      refine G_if_eq (tgt := 24) dX7_isomorphic_17 (by decide) (fun _ => ?_) (fun h => absurd rfl h)
      refine G_iconst (v := 0) dX7_isomorphic_24 (by decide) ?_
      exact G_ret (v := some (.int _)) ⟨dX7_isomorphic_25, _, rfl, rfl⟩ (Or.inr ⟨hsz, s2, len2, D2, R, F2, f1, f2, f3, E, e1, e2, e3, ce, o, rk, st, cn, hHs, hGr, s4, len4, D4, R', F4, g1, g2, g3, E', x1, x2, x3, ce', o', rk', st', cn', hHs', hGr', I2, La2, h, Or.inr (Or.inr (Or.inl rfl)), hI2, Or.inr ⟨hsame, Or.inr ⟨hw1, rfl⟩⟩⟩)
    refine G_w (st' := [.int 1]) (w' := (iW T kc 113 106 123 m2 m3 s4 len4 D4 (nI cn) F2 f1 f2 f3 nb nt 1 (nI R) K ce' E' x1 x2 x3 I2 La2 nb' nt' 1 (nI R') K' (nI cn') F4 g1 g2 g3)) rfl ?_ ?_
    · rw [rcb21]
      exact ab_put_pre (bW 106 113 123 m2 m3 128 (nI kc) s len D cX FX X1 X2 X3 nb nt hs ro K cY FY Y1 Y2 Y3 I La nb' nt' hs' ro' K' cZ FZ Z1 Z2 Z3) (bW 113 106 123 m2 m3 128 (nI kc) s4 len4 D4 (nI cn) F2 f1 f2 f3 nb nt 1 (nI R) K ce' E' x1 x2 x3 I2 La2 nb' nt' 1 (nI R') K' (nI cn') F4 g1 g2 g3) _ rfl rfl rfl
    refine G_if_eq (tgt := 24) dX7_isomorphic_17 (by decide) (fun h => absurd h (by decide)) (fun _ => ?_)
    refine G_iconst (v := 1) dX7_isomorphic_20 (by decide) ?_
    refine G_goto (tgt := 25) dX7_isomorphic_21 (by decide) ?_
    exact G_ret (v := some (.int _)) ⟨dX7_isomorphic_25, _, rfl, rfl⟩ (Or.inr ⟨hsz, s2, len2, D2, R, F2, f1, f2, f3, E, e1, e2, e3, ce, o, rk, st, cn, hHs, hGr, s4, len4, D4, R', F4, g1, g2, g3, E', x1, x2, x3, ce', o', rk', st', cn', hHs', hGr', I2, La2, h, Or.inr (Or.inr (Or.inl rfl)), hI2, Or.inr ⟨hsame, Or.inl ⟨⟨h, hw1⟩, rfl⟩⟩⟩)
  · rcases hv' with ⟨hno, rfl⟩ | ⟨hsame, hv'⟩
    · skip
      refine G_w (st' := [.int 0]) (w' := (iW T kc 123 106 113 m2 m3 s4 len4 D4 (nI cn) F2 f1 f2 f3 nb nt 1 (nI R) K (nI cn') F4 g1 g2 g3 I2 La2 nb' nt' 1 (nI R') K' ce' E' x1 x2 x3)) rfl ?_ ?_
      · rw [rcb22]
        exact ab_put_pre (bW 106 113 123 m2 m3 128 (nI kc) s len D cX FX X1 X2 X3 nb nt hs ro K cY FY Y1 Y2 Y3 I La nb' nt' hs' ro' K' cZ FZ Z1 Z2 Z3) (bW 123 106 113 m2 m3 128 (nI kc) s4 len4 D4 (nI cn) F2 f1 f2 f3 nb nt 1 (nI R) K (nI cn') F4 g1 g2 g3 I2 La2 nb' nt' 1 (nI R') K' ce' E' x1 x2 x3) _ rfl rfl rfl
      refine G_if_eq (tgt := 24) dX7_isomorphic_17 (by decide) (fun _ => ?_) (fun h => absurd rfl h)
      refine G_iconst (v := 0) dX7_isomorphic_24 (by decide) ?_
      exact G_ret (v := some (.int _)) ⟨dX7_isomorphic_25, _, rfl, rfl⟩ (Or.inr ⟨hsz, s2, len2, D2, R, F2, f1, f2, f3, E, e1, e2, e3, ce, o, rk, st, cn, hHs, hGr, s4, len4, D4, R', F4, g1, g2, g3, E', x1, x2, x3, ce', o', rk', st', cn', hHs', hGr', I2, La2, h, Or.inr (Or.inr (Or.inr (rfl))), hI2, Or.inl ⟨hno, rfl⟩⟩)
    rcases hv' with ⟨hw1, rfl⟩ | ⟨hw1, rfl⟩
    rotate_left
    · skip
      refine G_w (st' := [.int 0]) (w' := (iW T kc 123 106 113 m2 m3 s4 len4 D4 (nI cn) F2 f1 f2 f3 nb nt 1 (nI R) K (nI cn') F4 g1 g2 g3 I2 La2 nb' nt' 1 (nI R') K' ce' E' x1 x2 x3)) rfl ?_ ?_
      · rw [rcb22]
        exact ab_put_pre (bW 106 113 123 m2 m3 128 (nI kc) s len D cX FX X1 X2 X3 nb nt hs ro K cY FY Y1 Y2 Y3 I La nb' nt' hs' ro' K' cZ FZ Z1 Z2 Z3) (bW 123 106 113 m2 m3 128 (nI kc) s4 len4 D4 (nI cn) F2 f1 f2 f3 nb nt 1 (nI R) K (nI cn') F4 g1 g2 g3 I2 La2 nb' nt' 1 (nI R') K' ce' E' x1 x2 x3) _ rfl rfl rfl
      refine G_if_eq (tgt := 24) dX7_isomorphic_17 (by decide) (fun _ => ?_) (fun h => absurd rfl h)
      refine G_iconst (v := 0) dX7_isomorphic_24 (by decide) ?_
      exact G_ret (v := some (.int _)) ⟨dX7_isomorphic_25, _, rfl, rfl⟩ (Or.inr ⟨hsz, s2, len2, D2, R, F2, f1, f2, f3, E, e1, e2, e3, ce, o, rk, st, cn, hHs, hGr, s4, len4, D4, R', F4, g1, g2, g3, E', x1, x2, x3, ce', o', rk', st', cn', hHs', hGr', I2, La2, h, Or.inr (Or.inr (Or.inr (rfl))), hI2, Or.inr ⟨hsame, Or.inr ⟨hw1, rfl⟩⟩⟩)
    refine G_w (st' := [.int 1]) (w' := (iW T kc 123 106 113 m2 m3 s4 len4 D4 (nI cn) F2 f1 f2 f3 nb nt 1 (nI R) K (nI cn') F4 g1 g2 g3 I2 La2 nb' nt' 1 (nI R') K' ce' E' x1 x2 x3)) rfl ?_ ?_
    · rw [rcb22]
      exact ab_put_pre (bW 106 113 123 m2 m3 128 (nI kc) s len D cX FX X1 X2 X3 nb nt hs ro K cY FY Y1 Y2 Y3 I La nb' nt' hs' ro' K' cZ FZ Z1 Z2 Z3) (bW 123 106 113 m2 m3 128 (nI kc) s4 len4 D4 (nI cn) F2 f1 f2 f3 nb nt 1 (nI R) K (nI cn') F4 g1 g2 g3 I2 La2 nb' nt' 1 (nI R') K' ce' E' x1 x2 x3) _ rfl rfl rfl
    refine G_if_eq (tgt := 24) dX7_isomorphic_17 (by decide) (fun h => absurd h (by decide)) (fun _ => ?_)
    refine G_iconst (v := 1) dX7_isomorphic_20 (by decide) ?_
    refine G_goto (tgt := 25) dX7_isomorphic_21 (by decide) ?_
    exact G_ret (v := some (.int _)) ⟨dX7_isomorphic_25, _, rfl, rfl⟩ (Or.inr ⟨hsz, s2, len2, D2, R, F2, f1, f2, f3, E, e1, e2, e3, ce, o, rk, st, cn, hHs, hGr, s4, len4, D4, R', F4, g1, g2, g3, E', x1, x2, x3, ce', o', rk', st', cn', hHs', hGr', I2, La2, h, Or.inr (Or.inr (Or.inr (rfl))), hI2, Or.inr ⟨hsame, Or.inl ⟨⟨h, hw1⟩, rfl⟩⟩⟩)
set_option maxRecDepth 20000 in
set_option maxHeartbeats 8000000 in
theorem con_ways (d nb nt nb' nt' : Nat) (hnb : nb ≤ 8) (hnt : nt ≤ 40) (hnb' : nb' ≤ 8) (hnt' : nt' ≤ 40) (m2 m3 kc : Nat) (hkc : kc ≤ 8) (T : Nat → Nat) (x : Int32) (hx : 0 ≤ x.toInt ∧ x.toInt < kc) (hT : T x.toInt.toNat = 121) (s : SS) (len hs ro hs' ro' : Int32) (D K K' : Nat → Int32) (k k' : Nat → Nat) (cX : Int32) (FX X1 X2 X3 : Nat → Int32) (cY : Int32) (FY Y1 Y2 Y3 : Nat → Int32) (cZ : Int32) (FZ Z1 Z2 Z3 : Nat → Int32) (hk : keysOk K k nt nb) (hKs : ∀ i j, i < j → j < nt → K i < K j) (hH : HS hs ro cY nb nt k FY Y1 Y2 Y3) (hk' : keysOk K' k' nt' nb') (hH' : HS hs' ro' cZ nb' nt' k' FZ Z1 Z2 Z3) (hKs' : ∀ i j, i < j → j < nt' → K' i < K' j) (I La : Nat → Int32) (g : Nat → Nat) (hI : ∀ j, j < 8 → I j = nI (g j) ∧ g j ≤ 8) : Con mX7_ways (d + 14) 0 0 (iW T kc 106 113 123 m2 m3 s len D cX FX X1 X2 X3 nb nt hs ro K cY FY Y1 Y2 Y3 I La nb' nt' hs' ro' K' cZ FZ Z1 Z2 Z3) [.ref 100, .int x] (fun w' v => ((¬ (nb = nb' ∧ nt = nt')) ∧ w' = (iW T kc 106 113 123 m2 m3 s len D cX FX X1 X2 X3 nb nt hs ro K cY FY Y1 Y2 Y3 I La nb' nt' hs' ro' K' cZ FZ Z1 Z2 Z3) ∧ v = some (.int 0)) ∨ ((nb = nb' ∧ nt = nt') ∧ ∃ (s2 : SS) (len2 : Int32) (D2 : Nat → Int32) (R : Nat) (F2 f1 f2 f3 E e1 e2 e3 : Nat → Int32) (ce : Int32) (o rk st : Nat → Nat) (cn : Nat), Hsh nb nt k F2 R ∧ grpOk F2 f1 f2 f3 nb o rk st cn ∧ ∃ (s4 : SS) (len4 : Int32) (D4 : Nat → Int32) (R' : Nat) (F4 g1 g2 g3 E' x1 x2 x3 : Nat → Int32) (ce' : Int32) (o' rk' st' : Nat → Nat) (cn' : Nat), Hsh nb' nt' k' F4 R' ∧ grpOk F4 g1 g2 g3 nb' o' rk' st' cn' ∧ ∃ (I2 La2 : Nat → Int32) (h : Nat → Nat), (w' = (iW T kc 106 113 123 m2 m3 s4 len4 D4 ce' E' x1 x2 x3 nb nt 1 (nI R) K (nI cn) F2 f1 f2 f3 I2 La2 nb' nt' 1 (nI R') K' (nI cn') F4 g1 g2 g3) ∨ w' = (iW T kc 123 113 106 m2 m3 s4 len4 D4 (nI cn') F4 g1 g2 g3 nb nt 1 (nI R) K (nI cn) F2 f1 f2 f3 I2 La2 nb' nt' 1 (nI R') K' ce' E' x1 x2 x3) ∨ w' = (iW T kc 113 106 123 m2 m3 s4 len4 D4 (nI cn) F2 f1 f2 f3 nb nt 1 (nI R) K ce' E' x1 x2 x3 I2 La2 nb' nt' 1 (nI R') K' (nI cn') F4 g1 g2 g3) ∨ w' = (iW T kc 123 106 113 m2 m3 s4 len4 D4 (nI cn) F2 f1 f2 f3 nb nt 1 (nI R) K (nI cn') F4 g1 g2 g3 I2 La2 nb' nt' 1 (nI R') K' ce' E' x1 x2 x3)) ∧ (∀ j, j < 8 → I2 j = nI (h j) ∧ h j ≤ 8) ∧ (((¬ (∀ j, j < nb → hv F2 (o j) = hv F4 (o' j))) ∧ v = some (.int 0)) ∨ ((∀ j, j < nb → hv F2 (o j) = hv F4 (o' j)) ∧ (((∃ h2, Way k nt nb f2 K' g2 nt' nb' h2) ∧ v = some (.int (nI (aut k nt nb f2 K nb)))) ∨ ((¬ ∃ h2, Way k nt nb f2 K' g2 nt' nb' h2) ∧ v = some (.int 0))))))) := by
  refine Con.of (ab_okc rfl (by decide)) (Nat.le_of_ble_eq_true rfl) ?_
  show G ab_x0 mX7_ways (d + 13 + 1) 0 0 _ 0 [some (.ref 100), some (.int x), none] [] _
  have hK30 : ∀ i, i < nt → K i = nI (k i) ∧ k i < 2 ^ 30 := fun i hi => ⟨(hk i hi).1, (hk i hi).2.1⟩
  have hfit : ab_fits [0, 28] [102, 101, 118, m2, m3, 111, T 0, T 1, T 2, T 3, T 4, T 5, T 6, T 7] [c7 4 5 6 7 8 101 (nI kc) 9, .inl (4, 8, .inr (.inr (.inr (.inr (kf (fun j => 10 + j) kc)))))] (iW T kc 106 113 123 m2 m3 s len D cX FX X1 X2 X3 nb nt hs ro K cY FY Y1 Y2 Y3 I La nb' nt' hs' ro' K' cZ FZ Z1 Z2 Z3) := by
    have e := kf_map (T := T) (kc := kc) (r := ab_rho [0, 28] [102, 101, 118, m2, m3, 111, T 0, T 1, T 2, T 3, T 4, T 5, T 6, T 7] 29) (S := fun j => 10 + j) (fun j hj => kf_rho 102 101 118 m2 m3 111 T [0, 28] 29 j (by omega))
    show [some _, some (.inl (4, 8, .inr (.inr (.inr (.inr (fun j => (kf (fun j => 10 + j) kc j).map (ab_rho [0, 28] [102, 101, 118, m2, m3, 111, T 0, T 1, T 2, T 3, T 4, T 5, T 6, T 7] 29)))))) : ab_C)] = _
    rw [e]
    rfl
  refine G_aload_n dX7_ways_0 rfl ?_
  refine G_iload_n dX7_ways_1 rfl ?_
  refine G_V (is := [0, 28]) (fo := [102, 101, 118, m2, m3, 111, T 0, T 1, T 2, T 3, T 4, T 5, T 6, T 7]) (as := [.ref 100, .int x]) (as' := [.int x]) (st := []) (k := 0) (n := 0) cX7_ways_2 (con_keptAt (d + 13) kc hkc 4 5 6 7 8 9 (kf (fun j => 10 + j) kc) x) ab_pfx hfit (by decide) rfl rfl rfl rfl rfl rfl (Nat.le_of_ble_eq_true rfl) dX7_ways_2 (fun w' v h => by rw [h.1]) (fun w2 v2 hq => ?_)
  obtain ⟨rfl, hq⟩ := hq
  rw [hfit.same]
  rcases hq with ⟨h1, _⟩ | ⟨h1, h2, rfl⟩
  · exact absurd hx h1
  refine G_w (st' := [.ref 121]) (w' := (iW T kc 106 113 123 m2 m3 s len D cX FX X1 X2 X3 nb nt hs ro K cY FY Y1 Y2 Y3 I La nb' nt' hs' ro' K' cZ FZ Z1 Z2 Z3)) ?_ rfl ?_
  · have e : kf (fun j => 10 + j) kc x.toInt.toNat = some (10 + x.toInt.toNat) := by unfold kf; rw [if_pos (by omega)]
    rw [e]
    show [Value.ref (ab_rho [0, 28] [102, 101, 118, m2, m3, 111, T 0, T 1, T 2, T 3, T 4, T 5, T 6, T 7] 29 (10 + x.toInt.toNat))] = _
    rw [kf_rho 102 101 118 m2 m3 111 T [0, 28] 29 _ (by omega), hT]
  refine G_astore_n (L' := [_, _, _]) dX7_ways_5 (Nat.le_of_ble_eq_true rfl) rfl ?_
  refine G_aload_n dX7_ways_6 rfl ?_
  refine G_ifnn (tgt := 12) dX7_ways_7 (by decide) ?_
  refine G_aload_n dX7_ways_12 rfl ?_
  refine G_aload_n dX7_ways_13 rfl ?_
  refine G_V (is := [0, 1, 2, 3, 4, 5, 6, 7, 8, 9, 10, 11, 12, 13, 14, 15, 16, 17, 18, 19, 20, 21, 22, 23, 24, 25, 26, 27]) (fo := [m2, m3, 128]) (as := [.ref 100, .ref 121]) (as' := [.ref 121]) (st := []) (k := 0) (n := 0) cX7_ways_14 (con_becomes d nb nt nb' nt' hnb hnt hnb' hnt' 4 5 6 (nI kc) s len hs ro hs' ro' D K K' k k' cX FX X1 X2 X3 cY FY Y1 Y2 Y3 cZ FZ Z1 Z2 Z3 hk hH hk' hH' hKs' I La g hI) ab_pfx (fitb T kc m2 m3 s len D cX FX X1 X2 X3 nb nt hs ro K cY FY Y1 Y2 Y3 I La nb' nt' hs' ro' K' cZ FZ Z1 Z2 Z3) (by decide) rfl rfl rfl rfl rfl rfl (Nat.le_of_ble_eq_true rfl) dX7_ways_14 (fun w' v h => by
    rcases h with ⟨_, h, _⟩ | ⟨_, _, _, _, _, _, _, _, _, _, _, _, _, _, _, _, _, _, _, _, _, _, _, _, _, _, _, _, _, _, _, _, _, _, _, _, _, _, _, _, _, _, h, _⟩
    · rw [h]
    · rcases h with h | h | h | h <;> rw [h] <;> exact (rfl : (28 : Nat) = 28)) (fun w2 v2 hq => ?_)
  rcases hq with ⟨hsz, rfl, rfl⟩ | ⟨hsz, hq⟩
  · skip
    refine G_w (st' := [.int 0]) (w' := (iW T kc 106 113 123 m2 m3 s len D cX FX X1 X2 X3 nb nt hs ro K cY FY Y1 Y2 Y3 I La nb' nt' hs' ro' K' cZ FZ Z1 Z2 Z3)) rfl ?_ ?_
    · rw [rcb11]
      exact ab_put_pre (bW 106 113 123 m2 m3 128 (nI kc) s len D cX FX X1 X2 X3 nb nt hs ro K cY FY Y1 Y2 Y3 I La nb' nt' hs' ro' K' cZ FZ Z1 Z2 Z3) (bW 106 113 123 m2 m3 128 (nI kc) s len D cX FX X1 X2 X3 nb nt hs ro K cY FY Y1 Y2 Y3 I La nb' nt' hs' ro' K' cZ FZ Z1 Z2 Z3) _ rfl rfl rfl
    refine G_if_eq (tgt := 34) dX7_ways_17 (by decide) (fun _ => ?_) (fun h => absurd rfl h)
    refine G_iconst (v := 0) dX7_ways_34 (by decide) ?_
    exact G_ret (v := some (.int _)) ⟨dX7_ways_35, _, rfl, rfl⟩ (Or.inl ⟨hsz, rfl, rfl⟩)
  obtain ⟨s2, len2, D2, R, F2, f1, f2, f3, E, e1, e2, e3, ce, o, rk, st, cn, hHs, hGr, s4, len4, D4, R', F4, g1, g2, g3, E', x1, x2, x3, ce', o', rk', st', cn', hHs', hGr', I2, La2, h, hq, hI2, hv'⟩ := hq
  rcases hq with rfl | rfl | rfl | rfl
  · rcases hv' with ⟨hno, rfl⟩ | ⟨hsame, hv'⟩
    · skip
      refine G_w (st' := [.int 0]) (w' := (iW T kc 106 113 123 m2 m3 s4 len4 D4 ce' E' x1 x2 x3 nb nt 1 (nI R) K (nI cn) F2 f1 f2 f3 I2 La2 nb' nt' 1 (nI R') K' (nI cn') F4 g1 g2 g3)) rfl ?_ ?_
      · rw [rcb11]
        exact ab_put_pre (bW 106 113 123 m2 m3 128 (nI kc) s len D cX FX X1 X2 X3 nb nt hs ro K cY FY Y1 Y2 Y3 I La nb' nt' hs' ro' K' cZ FZ Z1 Z2 Z3) (bW 106 113 123 m2 m3 128 (nI kc) s4 len4 D4 ce' E' x1 x2 x3 nb nt 1 (nI R) K (nI cn) F2 f1 f2 f3 I2 La2 nb' nt' 1 (nI R') K' (nI cn') F4 g1 g2 g3) _ rfl rfl rfl
      refine G_if_eq (tgt := 34) dX7_ways_17 (by decide) (fun _ => ?_) (fun h => absurd rfl h)
      refine G_iconst (v := 0) dX7_ways_34 (by decide) ?_
      exact G_ret (v := some (.int _)) ⟨dX7_ways_35, _, rfl, rfl⟩ (Or.inr ⟨hsz, s2, len2, D2, R, F2, f1, f2, f3, E, e1, e2, e3, ce, o, rk, st, cn, hHs, hGr, s4, len4, D4, R', F4, g1, g2, g3, E', x1, x2, x3, ce', o', rk', st', cn', hHs', hGr', I2, La2, h, Or.inl rfl, hI2, Or.inl ⟨hno, rfl⟩⟩)
    rcases hv' with ⟨hw1, rfl⟩ | ⟨hw1, rfl⟩
    rotate_left
    · skip
      refine G_w (st' := [.int 0]) (w' := (iW T kc 106 113 123 m2 m3 s4 len4 D4 ce' E' x1 x2 x3 nb nt 1 (nI R) K (nI cn) F2 f1 f2 f3 I2 La2 nb' nt' 1 (nI R') K' (nI cn') F4 g1 g2 g3)) rfl ?_ ?_
      · rw [rcb11]
        exact ab_put_pre (bW 106 113 123 m2 m3 128 (nI kc) s len D cX FX X1 X2 X3 nb nt hs ro K cY FY Y1 Y2 Y3 I La nb' nt' hs' ro' K' cZ FZ Z1 Z2 Z3) (bW 106 113 123 m2 m3 128 (nI kc) s4 len4 D4 ce' E' x1 x2 x3 nb nt 1 (nI R) K (nI cn) F2 f1 f2 f3 I2 La2 nb' nt' 1 (nI R') K' (nI cn') F4 g1 g2 g3) _ rfl rfl rfl
      refine G_if_eq (tgt := 34) dX7_ways_17 (by decide) (fun _ => ?_) (fun h => absurd rfl h)
      refine G_iconst (v := 0) dX7_ways_34 (by decide) ?_
      exact G_ret (v := some (.int _)) ⟨dX7_ways_35, _, rfl, rfl⟩ (Or.inr ⟨hsz, s2, len2, D2, R, F2, f1, f2, f3, E, e1, e2, e3, ce, o, rk, st, cn, hHs, hGr, s4, len4, D4, R', F4, g1, g2, g3, E', x1, x2, x3, ce', o', rk', st', cn', hHs', hGr', I2, La2, h, Or.inl rfl, hI2, Or.inr ⟨hsame, Or.inr ⟨hw1, rfl⟩⟩⟩)
    refine G_w (st' := [.int 1]) (w' := (iW T kc 106 113 123 m2 m3 s4 len4 D4 ce' E' x1 x2 x3 nb nt 1 (nI R) K (nI cn) F2 f1 f2 f3 I2 La2 nb' nt' 1 (nI R') K' (nI cn') F4 g1 g2 g3)) rfl ?_ ?_
    · rw [rcb11]
      exact ab_put_pre (bW 106 113 123 m2 m3 128 (nI kc) s len D cX FX X1 X2 X3 nb nt hs ro K cY FY Y1 Y2 Y3 I La nb' nt' hs' ro' K' cZ FZ Z1 Z2 Z3) (bW 106 113 123 m2 m3 128 (nI kc) s4 len4 D4 ce' E' x1 x2 x3 nb nt 1 (nI R) K (nI cn) F2 f1 f2 f3 I2 La2 nb' nt' 1 (nI R') K' (nI cn') F4 g1 g2 g3) _ rfl rfl rfl
    refine G_if_eq (tgt := 34) dX7_ways_17 (by decide) (fun h => absurd h (by decide)) (fun _ => ?_)
    refine G_aload_n dX7_ways_20 rfl ?_
    refine G_get (f := 1) kc8 dX7_ways_21 fX7_19 (by decide) rfl rfl ?_
    refine G_aload_n dX7_ways_24 rfl ?_
    refine G_get (f := 6) kc8 dX7_ways_25 fX7_48 (by decide) rfl rfl ?_
    refine G_V (is := [18, 19, 20, 11, 12, 13, 16]) (fo := [114, 115, 117]) (as := [.ref 100, .ref 103]) (as' := [.ref 111]) (st := []) (k := 0) (n := 0) cX7_ways_28 (con_automorphisms (d + 1) I2 La2 K f2 nb nt 1 (nI R) (nI cn) 4 5 6 hnb hnt k h hK30 hKs hI2) ab_pfx rfl (by decide) rfl rfl rfl rfl rfl rfl (Nat.le_of_ble_eq_true rfl) dX7_ways_28 (fun w' v h => by obtain ⟨_, _, _, h, _⟩ := h; rw [h]; exact (rfl : (7 : Nat) = 7)) (fun w2 v2 hq => ?_)
    obtain ⟨I3, La3, h3, rfl, hI3, rfl⟩ := hq
    refine G_w (st' := [.int (nI (aut k nt nb f2 K nb))]) (w' := (iW T kc 106 113 123 m2 m3 s4 len4 D4 ce' E' x1 x2 x3 nb nt 1 (nI R) K (nI cn) F2 f1 f2 f3 I3 La3 nb' nt' 1 (nI R') K' (nI cn') F4 g1 g2 g3)) rfl rfl ?_
    refine G_goto (tgt := 35) dX7_ways_31 (by decide) ?_
    exact G_ret (v := some (.int _)) ⟨dX7_ways_35, _, rfl, rfl⟩ (Or.inr ⟨hsz, s2, len2, D2, R, F2, f1, f2, f3, E, e1, e2, e3, ce, o, rk, st, cn, hHs, hGr, s4, len4, D4, R', F4, g1, g2, g3, E', x1, x2, x3, ce', o', rk', st', cn', hHs', hGr', I3, La3, h3, Or.inl rfl, hI3, Or.inr ⟨hsame, Or.inl ⟨⟨h, hw1⟩, rfl⟩⟩⟩)
  · rcases hv' with ⟨hno, rfl⟩ | ⟨hsame, hv'⟩
    · skip
      refine G_w (st' := [.int 0]) (w' := (iW T kc 123 113 106 m2 m3 s4 len4 D4 (nI cn') F4 g1 g2 g3 nb nt 1 (nI R) K (nI cn) F2 f1 f2 f3 I2 La2 nb' nt' 1 (nI R') K' ce' E' x1 x2 x3)) rfl ?_ ?_
      · rw [rcb12]
        exact ab_put_pre (bW 106 113 123 m2 m3 128 (nI kc) s len D cX FX X1 X2 X3 nb nt hs ro K cY FY Y1 Y2 Y3 I La nb' nt' hs' ro' K' cZ FZ Z1 Z2 Z3) (bW 123 113 106 m2 m3 128 (nI kc) s4 len4 D4 (nI cn') F4 g1 g2 g3 nb nt 1 (nI R) K (nI cn) F2 f1 f2 f3 I2 La2 nb' nt' 1 (nI R') K' ce' E' x1 x2 x3) _ rfl rfl rfl
      refine G_if_eq (tgt := 34) dX7_ways_17 (by decide) (fun _ => ?_) (fun h => absurd rfl h)
      refine G_iconst (v := 0) dX7_ways_34 (by decide) ?_
      exact G_ret (v := some (.int _)) ⟨dX7_ways_35, _, rfl, rfl⟩ (Or.inr ⟨hsz, s2, len2, D2, R, F2, f1, f2, f3, E, e1, e2, e3, ce, o, rk, st, cn, hHs, hGr, s4, len4, D4, R', F4, g1, g2, g3, E', x1, x2, x3, ce', o', rk', st', cn', hHs', hGr', I2, La2, h, Or.inr (Or.inl rfl), hI2, Or.inl ⟨hno, rfl⟩⟩)
    rcases hv' with ⟨hw1, rfl⟩ | ⟨hw1, rfl⟩
    rotate_left
    · skip
      refine G_w (st' := [.int 0]) (w' := (iW T kc 123 113 106 m2 m3 s4 len4 D4 (nI cn') F4 g1 g2 g3 nb nt 1 (nI R) K (nI cn) F2 f1 f2 f3 I2 La2 nb' nt' 1 (nI R') K' ce' E' x1 x2 x3)) rfl ?_ ?_
      · rw [rcb12]
        exact ab_put_pre (bW 106 113 123 m2 m3 128 (nI kc) s len D cX FX X1 X2 X3 nb nt hs ro K cY FY Y1 Y2 Y3 I La nb' nt' hs' ro' K' cZ FZ Z1 Z2 Z3) (bW 123 113 106 m2 m3 128 (nI kc) s4 len4 D4 (nI cn') F4 g1 g2 g3 nb nt 1 (nI R) K (nI cn) F2 f1 f2 f3 I2 La2 nb' nt' 1 (nI R') K' ce' E' x1 x2 x3) _ rfl rfl rfl
      refine G_if_eq (tgt := 34) dX7_ways_17 (by decide) (fun _ => ?_) (fun h => absurd rfl h)
      refine G_iconst (v := 0) dX7_ways_34 (by decide) ?_
      exact G_ret (v := some (.int _)) ⟨dX7_ways_35, _, rfl, rfl⟩ (Or.inr ⟨hsz, s2, len2, D2, R, F2, f1, f2, f3, E, e1, e2, e3, ce, o, rk, st, cn, hHs, hGr, s4, len4, D4, R', F4, g1, g2, g3, E', x1, x2, x3, ce', o', rk', st', cn', hHs', hGr', I2, La2, h, Or.inr (Or.inl rfl), hI2, Or.inr ⟨hsame, Or.inr ⟨hw1, rfl⟩⟩⟩)
    refine G_w (st' := [.int 1]) (w' := (iW T kc 123 113 106 m2 m3 s4 len4 D4 (nI cn') F4 g1 g2 g3 nb nt 1 (nI R) K (nI cn) F2 f1 f2 f3 I2 La2 nb' nt' 1 (nI R') K' ce' E' x1 x2 x3)) rfl ?_ ?_
    · rw [rcb12]
      exact ab_put_pre (bW 106 113 123 m2 m3 128 (nI kc) s len D cX FX X1 X2 X3 nb nt hs ro K cY FY Y1 Y2 Y3 I La nb' nt' hs' ro' K' cZ FZ Z1 Z2 Z3) (bW 123 113 106 m2 m3 128 (nI kc) s4 len4 D4 (nI cn') F4 g1 g2 g3 nb nt 1 (nI R) K (nI cn) F2 f1 f2 f3 I2 La2 nb' nt' 1 (nI R') K' ce' E' x1 x2 x3) _ rfl rfl rfl
    refine G_if_eq (tgt := 34) dX7_ways_17 (by decide) (fun h => absurd h (by decide)) (fun _ => ?_)
    refine G_aload_n dX7_ways_20 rfl ?_
    refine G_get (f := 1) kc8 dX7_ways_21 fX7_19 (by decide) rfl rfl ?_
    refine G_aload_n dX7_ways_24 rfl ?_
    refine G_get (f := 6) kc8 dX7_ways_25 fX7_48 (by decide) rfl rfl ?_
    refine G_V (is := [18, 19, 20, 11, 12, 13, 16]) (fo := [114, 115, 117]) (as := [.ref 100, .ref 103]) (as' := [.ref 111]) (st := []) (k := 0) (n := 0) cX7_ways_28 (con_automorphisms (d + 1) I2 La2 K f2 nb nt 1 (nI R) (nI cn) 4 5 6 hnb hnt k h hK30 hKs hI2) ab_pfx rfl (by decide) rfl rfl rfl rfl rfl rfl (Nat.le_of_ble_eq_true rfl) dX7_ways_28 (fun w' v h => by obtain ⟨_, _, _, h, _⟩ := h; rw [h]; exact (rfl : (7 : Nat) = 7)) (fun w2 v2 hq => ?_)
    obtain ⟨I3, La3, h3, rfl, hI3, rfl⟩ := hq
    refine G_w (st' := [.int (nI (aut k nt nb f2 K nb))]) (w' := (iW T kc 123 113 106 m2 m3 s4 len4 D4 (nI cn') F4 g1 g2 g3 nb nt 1 (nI R) K (nI cn) F2 f1 f2 f3 I3 La3 nb' nt' 1 (nI R') K' ce' E' x1 x2 x3)) rfl rfl ?_
    refine G_goto (tgt := 35) dX7_ways_31 (by decide) ?_
    exact G_ret (v := some (.int _)) ⟨dX7_ways_35, _, rfl, rfl⟩ (Or.inr ⟨hsz, s2, len2, D2, R, F2, f1, f2, f3, E, e1, e2, e3, ce, o, rk, st, cn, hHs, hGr, s4, len4, D4, R', F4, g1, g2, g3, E', x1, x2, x3, ce', o', rk', st', cn', hHs', hGr', I3, La3, h3, Or.inr (Or.inl rfl), hI3, Or.inr ⟨hsame, Or.inl ⟨⟨h, hw1⟩, rfl⟩⟩⟩)
  · rcases hv' with ⟨hno, rfl⟩ | ⟨hsame, hv'⟩
    · skip
      refine G_w (st' := [.int 0]) (w' := (iW T kc 113 106 123 m2 m3 s4 len4 D4 (nI cn) F2 f1 f2 f3 nb nt 1 (nI R) K ce' E' x1 x2 x3 I2 La2 nb' nt' 1 (nI R') K' (nI cn') F4 g1 g2 g3)) rfl ?_ ?_
      · rw [rcb21]
        exact ab_put_pre (bW 106 113 123 m2 m3 128 (nI kc) s len D cX FX X1 X2 X3 nb nt hs ro K cY FY Y1 Y2 Y3 I La nb' nt' hs' ro' K' cZ FZ Z1 Z2 Z3) (bW 113 106 123 m2 m3 128 (nI kc) s4 len4 D4 (nI cn) F2 f1 f2 f3 nb nt 1 (nI R) K ce' E' x1 x2 x3 I2 La2 nb' nt' 1 (nI R') K' (nI cn') F4 g1 g2 g3) _ rfl rfl rfl
      refine G_if_eq (tgt := 34) dX7_ways_17 (by decide) (fun _ => ?_) (fun h => absurd rfl h)
      refine G_iconst (v := 0) dX7_ways_34 (by decide) ?_
      exact G_ret (v := some (.int _)) ⟨dX7_ways_35, _, rfl, rfl⟩ (Or.inr ⟨hsz, s2, len2, D2, R, F2, f1, f2, f3, E, e1, e2, e3, ce, o, rk, st, cn, hHs, hGr, s4, len4, D4, R', F4, g1, g2, g3, E', x1, x2, x3, ce', o', rk', st', cn', hHs', hGr', I2, La2, h, Or.inr (Or.inr (Or.inl rfl)), hI2, Or.inl ⟨hno, rfl⟩⟩)
    rcases hv' with ⟨hw1, rfl⟩ | ⟨hw1, rfl⟩
    rotate_left
    · skip
      refine G_w (st' := [.int 0]) (w' := (iW T kc 113 106 123 m2 m3 s4 len4 D4 (nI cn) F2 f1 f2 f3 nb nt 1 (nI R) K ce' E' x1 x2 x3 I2 La2 nb' nt' 1 (nI R') K' (nI cn') F4 g1 g2 g3)) rfl ?_ ?_
      · rw [rcb21]
        exact ab_put_pre (bW 106 113 123 m2 m3 128 (nI kc) s len D cX FX X1 X2 X3 nb nt hs ro K cY FY Y1 Y2 Y3 I La nb' nt' hs' ro' K' cZ FZ Z1 Z2 Z3) (bW 113 106 123 m2 m3 128 (nI kc) s4 len4 D4 (nI cn) F2 f1 f2 f3 nb nt 1 (nI R) K ce' E' x1 x2 x3 I2 La2 nb' nt' 1 (nI R') K' (nI cn') F4 g1 g2 g3) _ rfl rfl rfl
      refine G_if_eq (tgt := 34) dX7_ways_17 (by decide) (fun _ => ?_) (fun h => absurd rfl h)
      refine G_iconst (v := 0) dX7_ways_34 (by decide) ?_
      exact G_ret (v := some (.int _)) ⟨dX7_ways_35, _, rfl, rfl⟩ (Or.inr ⟨hsz, s2, len2, D2, R, F2, f1, f2, f3, E, e1, e2, e3, ce, o, rk, st, cn, hHs, hGr, s4, len4, D4, R', F4, g1, g2, g3, E', x1, x2, x3, ce', o', rk', st', cn', hHs', hGr', I2, La2, h, Or.inr (Or.inr (Or.inl rfl)), hI2, Or.inr ⟨hsame, Or.inr ⟨hw1, rfl⟩⟩⟩)
    refine G_w (st' := [.int 1]) (w' := (iW T kc 113 106 123 m2 m3 s4 len4 D4 (nI cn) F2 f1 f2 f3 nb nt 1 (nI R) K ce' E' x1 x2 x3 I2 La2 nb' nt' 1 (nI R') K' (nI cn') F4 g1 g2 g3)) rfl ?_ ?_
    · rw [rcb21]
      exact ab_put_pre (bW 106 113 123 m2 m3 128 (nI kc) s len D cX FX X1 X2 X3 nb nt hs ro K cY FY Y1 Y2 Y3 I La nb' nt' hs' ro' K' cZ FZ Z1 Z2 Z3) (bW 113 106 123 m2 m3 128 (nI kc) s4 len4 D4 (nI cn) F2 f1 f2 f3 nb nt 1 (nI R) K ce' E' x1 x2 x3 I2 La2 nb' nt' 1 (nI R') K' (nI cn') F4 g1 g2 g3) _ rfl rfl rfl
    refine G_if_eq (tgt := 34) dX7_ways_17 (by decide) (fun h => absurd h (by decide)) (fun _ => ?_)
    refine G_aload_n dX7_ways_20 rfl ?_
    refine G_get (f := 1) kc8 dX7_ways_21 fX7_19 (by decide) rfl rfl ?_
    refine G_aload_n dX7_ways_24 rfl ?_
    refine G_get (f := 6) kc8 dX7_ways_25 fX7_48 (by decide) rfl rfl ?_
    refine G_V (is := [18, 19, 20, 11, 12, 6, 9]) (fo := [107, 108, 110]) (as := [.ref 100, .ref 103]) (as' := [.ref 111]) (st := []) (k := 0) (n := 0) cX7_ways_28 (con_automorphisms (d + 1) I2 La2 K f2 nb nt 1 (nI R) (nI cn) 4 5 6 hnb hnt k h hK30 hKs hI2) ab_pfx rfl (by decide) rfl rfl rfl rfl rfl rfl (Nat.le_of_ble_eq_true rfl) dX7_ways_28 (fun w' v h => by obtain ⟨_, _, _, h, _⟩ := h; rw [h]; exact (rfl : (7 : Nat) = 7)) (fun w2 v2 hq => ?_)
    obtain ⟨I3, La3, h3, rfl, hI3, rfl⟩ := hq
    refine G_w (st' := [.int (nI (aut k nt nb f2 K nb))]) (w' := (iW T kc 113 106 123 m2 m3 s4 len4 D4 (nI cn) F2 f1 f2 f3 nb nt 1 (nI R) K ce' E' x1 x2 x3 I3 La3 nb' nt' 1 (nI R') K' (nI cn') F4 g1 g2 g3)) rfl rfl ?_
    refine G_goto (tgt := 35) dX7_ways_31 (by decide) ?_
    exact G_ret (v := some (.int _)) ⟨dX7_ways_35, _, rfl, rfl⟩ (Or.inr ⟨hsz, s2, len2, D2, R, F2, f1, f2, f3, E, e1, e2, e3, ce, o, rk, st, cn, hHs, hGr, s4, len4, D4, R', F4, g1, g2, g3, E', x1, x2, x3, ce', o', rk', st', cn', hHs', hGr', I3, La3, h3, Or.inr (Or.inr (Or.inl rfl)), hI3, Or.inr ⟨hsame, Or.inl ⟨⟨h, hw1⟩, rfl⟩⟩⟩)
  · rcases hv' with ⟨hno, rfl⟩ | ⟨hsame, hv'⟩
    · skip
      refine G_w (st' := [.int 0]) (w' := (iW T kc 123 106 113 m2 m3 s4 len4 D4 (nI cn) F2 f1 f2 f3 nb nt 1 (nI R) K (nI cn') F4 g1 g2 g3 I2 La2 nb' nt' 1 (nI R') K' ce' E' x1 x2 x3)) rfl ?_ ?_
      · rw [rcb22]
        exact ab_put_pre (bW 106 113 123 m2 m3 128 (nI kc) s len D cX FX X1 X2 X3 nb nt hs ro K cY FY Y1 Y2 Y3 I La nb' nt' hs' ro' K' cZ FZ Z1 Z2 Z3) (bW 123 106 113 m2 m3 128 (nI kc) s4 len4 D4 (nI cn) F2 f1 f2 f3 nb nt 1 (nI R) K (nI cn') F4 g1 g2 g3 I2 La2 nb' nt' 1 (nI R') K' ce' E' x1 x2 x3) _ rfl rfl rfl
      refine G_if_eq (tgt := 34) dX7_ways_17 (by decide) (fun _ => ?_) (fun h => absurd rfl h)
      refine G_iconst (v := 0) dX7_ways_34 (by decide) ?_
      exact G_ret (v := some (.int _)) ⟨dX7_ways_35, _, rfl, rfl⟩ (Or.inr ⟨hsz, s2, len2, D2, R, F2, f1, f2, f3, E, e1, e2, e3, ce, o, rk, st, cn, hHs, hGr, s4, len4, D4, R', F4, g1, g2, g3, E', x1, x2, x3, ce', o', rk', st', cn', hHs', hGr', I2, La2, h, Or.inr (Or.inr (Or.inr (rfl))), hI2, Or.inl ⟨hno, rfl⟩⟩)
    rcases hv' with ⟨hw1, rfl⟩ | ⟨hw1, rfl⟩
    rotate_left
    · skip
      refine G_w (st' := [.int 0]) (w' := (iW T kc 123 106 113 m2 m3 s4 len4 D4 (nI cn) F2 f1 f2 f3 nb nt 1 (nI R) K (nI cn') F4 g1 g2 g3 I2 La2 nb' nt' 1 (nI R') K' ce' E' x1 x2 x3)) rfl ?_ ?_
      · rw [rcb22]
        exact ab_put_pre (bW 106 113 123 m2 m3 128 (nI kc) s len D cX FX X1 X2 X3 nb nt hs ro K cY FY Y1 Y2 Y3 I La nb' nt' hs' ro' K' cZ FZ Z1 Z2 Z3) (bW 123 106 113 m2 m3 128 (nI kc) s4 len4 D4 (nI cn) F2 f1 f2 f3 nb nt 1 (nI R) K (nI cn') F4 g1 g2 g3 I2 La2 nb' nt' 1 (nI R') K' ce' E' x1 x2 x3) _ rfl rfl rfl
      refine G_if_eq (tgt := 34) dX7_ways_17 (by decide) (fun _ => ?_) (fun h => absurd rfl h)
      refine G_iconst (v := 0) dX7_ways_34 (by decide) ?_
      exact G_ret (v := some (.int _)) ⟨dX7_ways_35, _, rfl, rfl⟩ (Or.inr ⟨hsz, s2, len2, D2, R, F2, f1, f2, f3, E, e1, e2, e3, ce, o, rk, st, cn, hHs, hGr, s4, len4, D4, R', F4, g1, g2, g3, E', x1, x2, x3, ce', o', rk', st', cn', hHs', hGr', I2, La2, h, Or.inr (Or.inr (Or.inr (rfl))), hI2, Or.inr ⟨hsame, Or.inr ⟨hw1, rfl⟩⟩⟩)
    refine G_w (st' := [.int 1]) (w' := (iW T kc 123 106 113 m2 m3 s4 len4 D4 (nI cn) F2 f1 f2 f3 nb nt 1 (nI R) K (nI cn') F4 g1 g2 g3 I2 La2 nb' nt' 1 (nI R') K' ce' E' x1 x2 x3)) rfl ?_ ?_
    · rw [rcb22]
      exact ab_put_pre (bW 106 113 123 m2 m3 128 (nI kc) s len D cX FX X1 X2 X3 nb nt hs ro K cY FY Y1 Y2 Y3 I La nb' nt' hs' ro' K' cZ FZ Z1 Z2 Z3) (bW 123 106 113 m2 m3 128 (nI kc) s4 len4 D4 (nI cn) F2 f1 f2 f3 nb nt 1 (nI R) K (nI cn') F4 g1 g2 g3 I2 La2 nb' nt' 1 (nI R') K' ce' E' x1 x2 x3) _ rfl rfl rfl
    refine G_if_eq (tgt := 34) dX7_ways_17 (by decide) (fun h => absurd h (by decide)) (fun _ => ?_)
    refine G_aload_n dX7_ways_20 rfl ?_
    refine G_get (f := 1) kc8 dX7_ways_21 fX7_19 (by decide) rfl rfl ?_
    refine G_aload_n dX7_ways_24 rfl ?_
    refine G_get (f := 6) kc8 dX7_ways_25 fX7_48 (by decide) rfl rfl ?_
    refine G_V (is := [18, 19, 20, 11, 12, 6, 9]) (fo := [107, 108, 110]) (as := [.ref 100, .ref 103]) (as' := [.ref 111]) (st := []) (k := 0) (n := 0) cX7_ways_28 (con_automorphisms (d + 1) I2 La2 K f2 nb nt 1 (nI R) (nI cn) 4 5 6 hnb hnt k h hK30 hKs hI2) ab_pfx rfl (by decide) rfl rfl rfl rfl rfl rfl (Nat.le_of_ble_eq_true rfl) dX7_ways_28 (fun w' v h => by obtain ⟨_, _, _, h, _⟩ := h; rw [h]; exact (rfl : (7 : Nat) = 7)) (fun w2 v2 hq => ?_)
    obtain ⟨I3, La3, h3, rfl, hI3, rfl⟩ := hq
    refine G_w (st' := [.int (nI (aut k nt nb f2 K nb))]) (w' := (iW T kc 123 106 113 m2 m3 s4 len4 D4 (nI cn) F2 f1 f2 f3 nb nt 1 (nI R) K (nI cn') F4 g1 g2 g3 I3 La3 nb' nt' 1 (nI R') K' ce' E' x1 x2 x3)) rfl rfl ?_
    refine G_goto (tgt := 35) dX7_ways_31 (by decide) ?_
    exact G_ret (v := some (.int _)) ⟨dX7_ways_35, _, rfl, rfl⟩ (Or.inr ⟨hsz, s2, len2, D2, R, F2, f1, f2, f3, E, e1, e2, e3, ce, o, rk, st, cn, hHs, hGr, s4, len4, D4, R', F4, g1, g2, g3, E', x1, x2, x3, ce', o', rk', st', cn', hHs', hGr', I3, La3, h3, Or.inr (Or.inr (Or.inr (rfl))), hI3, Or.inr ⟨hsame, Or.inl ⟨⟨h, hw1⟩, rfl⟩⟩⟩)
