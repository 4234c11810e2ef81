/-! Hasher.refresh for any graph; CanonNames.rounds, hash, first -/
/-- what a graph's cells hold of its hashes -/
def HS (hs ro cB : Int32) (nb nt : Nat) (k : Nat → Nat) (FB b1 b2 b3 : Nat → Int32) : Prop := hs = 0 ∨ (hs = 1 ∧ ∃ (R : Nat) (o rk st : Nat → Nat) (cn : Nat), ro = nI R ∧ cB = nI cn ∧ Hsh nb nt k FB R ∧ grpOk FB b1 b2 b3 nb o rk st cn)
set_option maxRecDepth 20000 in
theorem con_refreshU (d nb nt : Nat) (hnb : nb ≤ 8) (hnt : nt ≤ 40) (s : SS) (len hs ro cA cB : Int32) (D FA a1 a2 a3 K FB b1 b2 b3 : Nat → Int32) (k : Nat → Nat) (hk : keysOk K k nt nb) (hH : HS hs ro cB nb nt k FB b1 b2 b3) : Con mX2_refresh (d + 4) 0 0 (mV 105 112 s len D cA FA a1 a2 a3 nb nt hs ro K cB FB b1 b2 b3) [.ref 100, .ref 110] (fun w' v => v = none ∧ ∃ (s2 : SS) (len2 : Int32) (D2 : Nat → Int32) (R : Nat) (F2 f1 f2 f3 E e1 e2 e3 : Nat → Int32) (ce : Int32) (o rk st : Nat → Nat) (cn : Nat), Hsh nb nt k F2 R ∧ grpOk F2 f1 f2 f3 nb o rk st cn ∧ (w' = mV 105 112 s2 len2 D2 ce E e1 e2 e3 nb nt 1 (nI R) K (nI cn) F2 f1 f2 f3 ∨ w' = mV 112 105 s2 len2 D2 (nI cn) F2 f1 f2 f3 nb nt 1 (nI R) K ce E e1 e2 e3)) := by
  rcases hH with rfl | ⟨rfl, R, o, rk, st, cn, rfl, rfl, h1, h2⟩
  · exact con_refresh d nb nt hnb hnt s len ro cA cB D FA a1 a2 a3 K FB b1 b2 b3 k hk
  · refine Con.of (ab_okc rfl (by decide)) (Nat.le_of_ble_eq_true rfl) ?_
    show G ab_x0 mX2_refresh (d + 4) 0 0 _ 0 [some (.ref 100), some (.ref 110), none, none, none] [] _
    refine G_aload_n dX2_refresh_0 rfl ?_
    refine G_get (f := 3) kc1 dX2_refresh_1 fX2_29 (by decide) rfl rfl ?_
    refine G_if_eq (tgt := 8) dX2_refresh_4 (by decide) (fun e => absurd e (by decide)) (fun _ => ?_)
    exact G_ret (v := none) ⟨dX2_refresh_7, rfl⟩ ⟨rfl, s, len, D, R, FB, b1, b2, b3, FA, a1, a2, a3, cA, o, rk, st, cn, h1, h2, Or.inl rfl⟩
abbrev vW (nx gr : Nat) (m1 m2 m3 m4 : Nat) (kc : Int32) (s : SS) (len : Int32) (D : Nat → Int32) (cA : Int32) (FA a1 a2 a3 : Nat → Int32) (nb nt : Nat) (hs ro : Int32) (K : Nat → Int32) (cB : Int32) (FB b1 b2 b3 : Nat → Int32) : List ab_C :=
  [c7 102 101 m1 m2 m3 m4 kc 111, .inr (3, [.ref 102, .ref 105, .ref nx]), .inr (7, [.ref 103, .ref 104, .int (nI s.2.2), .int len]), cI 8 s.1, cI 64 s.2.1, cI 40 D, .inr (2, [.ref 107, .ref 108, .ref 109, .ref 110, .int cA]), cI 64 FA, cI 8 a1, cI 8 a2, cI 9 a3,
   .inr (1, [.ref 112, .int (nI nb), .int (nI nt), .int hs, .int ro, .ref gr]), cI 40 K, .inr (2, [.ref 114, .ref 115, .ref 116, .ref 117, .int cB]), cI 64 FB, cI 8 b1, cI 8 b2, cI 9 b3]
set_option maxRecDepth 20000 in
set_option maxHeartbeats 2000000 in
theorem con_rounds (d nb nt : Nat) (hnb : nb ≤ 8) (hnt : nt ≤ 40) (m1 m2 m3 m4 : Nat) (kc : Int32) (s : SS) (len hs ro cA cB : Int32) (D FA a1 a2 a3 K FB b1 b2 b3 : Nat → Int32) (k : Nat → Nat) (hk : keysOk K k nt nb) (hH : HS hs ro cB nb nt k FB b1 b2 b3) : Con mX7_rounds (d + 5) 0 0 (vW 106 113 m1 m2 m3 m4 kc s len D cA FA a1 a2 a3 nb nt hs ro K cB FB b1 b2 b3) [.ref 100] (fun w' v => ∃ (s2 : SS) (len2 : Int32) (D2 : Nat → Int32) (R : Nat) (F2 f1 f2 f3 E e1 e2 e3 : Nat → Int32) (ce : Int32) (o rk st : Nat → Nat) (cn : Nat), Hsh nb nt k F2 R ∧ grpOk F2 f1 f2 f3 nb o rk st cn ∧ (w' = (vW 106 113 m1 m2 m3 m4 kc s2 len2 D2 ce E e1 e2 e3 nb nt 1 (nI R) K (nI cn) F2 f1 f2 f3) ∨ w' = (vW 113 106 m1 m2 m3 m4 kc s2 len2 D2 (nI cn) F2 f1 f2 f3 nb nt 1 (nI R) K ce E e1 e2 e3)) ∧ v = some (.int (nI R))) := by
  refine Con.of (ab_okc rfl (by decide)) (Nat.le_of_ble_eq_true rfl) ?_
  show G ab_x0 mX7_rounds (d + 4 + 1) 0 0 _ 0 [some (.ref 100)] [] _
  refine G_aload_n dX7_rounds_0 rfl ?_
  refine G_get (f := 0) kc8 dX7_rounds_1 fX7_10 (by decide) rfl rfl ?_
  refine G_aload_n dX7_rounds_4 rfl ?_
  refine G_get (f := 6) kc8 dX7_rounds_5 fX7_48 (by decide) rfl rfl ?_
  refine G_V (is := [1, 2, 3, 4, 5, 6, 7, 8, 9, 10, 11, 12, 13, 14, 15, 16, 17]) (fo := []) (as := [.ref 100, .ref 110]) (as' := [.ref 111]) (st := []) (k := 0) (n := 0) cX7_rounds_8 (con_refreshU d nb nt hnb hnt s len hs ro cA cB D FA a1 a2 a3 K FB b1 b2 b3 k hk hH) ab_pfx rfl (by decide) rfl rfl rfl rfl rfl rfl (Nat.le_of_ble_eq_true rfl) dX7_rounds_8 (fun w' v h => by obtain ⟨_, _, _, _, _, _, _, _, _, _, _, _, _, _, _, _, _, _, _, _, h | h⟩ := h <;> rw [h] <;> exact (rfl : (17 : Nat) = 17)) (fun w2 v2 hq => ?_)
  obtain ⟨rfl, s2, len2, D2, R, F2, f1, f2, f3, E, e1, e2, e3, ce, o, rk, st, cn, hHs, hGr, hq⟩ := hq
  rcases hq with rfl | rfl
  · refine G_w (st' := []) (w' := (vW 106 113 m1 m2 m3 m4 kc s2 len2 D2 ce E e1 e2 e3 nb nt 1 (nI R) K (nI cn) F2 f1 f2 f3)) rfl rfl ?_
    refine G_aload_n dX7_rounds_11 rfl ?_
    refine G_get (f := 6) kc8 dX7_rounds_12 fX7_48 (by decide) rfl rfl ?_
    refine G_get (f := 4) kc1 dX7_rounds_15 fX7_149 (by decide) rfl rfl ?_
    exact G_ret (v := some (.int _)) ⟨dX7_rounds_18, _, rfl, rfl⟩ ⟨s2, len2, D2, R, F2, f1, f2, f3, E, e1, e2, e3, ce, o, rk, st, cn, hHs, hGr, Or.inl rfl, rfl⟩
  · refine G_w (st' := []) (w' := (vW 113 106 m1 m2 m3 m4 kc s2 len2 D2 (nI cn) F2 f1 f2 f3 nb nt 1 (nI R) K ce E e1 e2 e3)) rfl rfl ?_
    refine G_aload_n dX7_rounds_11 rfl ?_
    refine G_get (f := 6) kc8 dX7_rounds_12 fX7_48 (by decide) rfl rfl ?_
    refine G_get (f := 4) kc1 dX7_rounds_15 fX7_149 (by decide) rfl rfl ?_
    exact G_ret (v := some (.int _)) ⟨dX7_rounds_18, _, rfl, rfl⟩ ⟨s2, len2, D2, R, F2, f1, f2, f3, E, e1, e2, e3, ce, o, rk, st, cn, hHs, hGr, Or.inr rfl, rfl⟩
set_option maxRecDepth 20000 in
set_option maxHeartbeats 2000000 in
theorem con_hash (d nb nt : Nat) (hnb : nb ≤ 8) (hnt : nt ≤ 40) (m1 m2 m3 m4 : Nat) (kc : Int32) (s : SS) (len hs ro cA cB : Int32) (D FA a1 a2 a3 K FB b1 b2 b3 : Nat → Int32) (k : Nat → Nat) (hk : keysOk K k nt nb) (hH : HS hs ro cB nb nt k FB b1 b2 b3) (b i : Int32) : Con mX7_hash (d + 5) 0 0 (vW 106 113 m1 m2 m3 m4 kc s len D cA FA a1 a2 a3 nb nt hs ro K cB FB b1 b2 b3) [.ref 100, .int b, .int i] (fun w' v => ((¬ (1 ≤ b.toInt ∧ b.toInt ≤ nb ∧ 0 ≤ i.toInt ∧ i.toInt < 8)) ∧ w' = (vW 106 113 m1 m2 m3 m4 kc s len D cA FA a1 a2 a3 nb nt hs ro K cB FB b1 b2 b3) ∧ v = some (.int 0)) ∨ ((1 ≤ b.toInt ∧ b.toInt ≤ nb ∧ 0 ≤ i.toInt ∧ i.toInt < 8) ∧ ∃ (s2 : SS) (len2 : Int32) (D2 : Nat → Int32) (R : Nat) (F2 f1 f2 f3 E e1 e2 e3 : Nat → Int32) (ce : Int32) (o rk st : Nat → Nat) (cn : Nat), Hsh nb nt k F2 R ∧ grpOk F2 f1 f2 f3 nb o rk st cn ∧ (w' = (vW 106 113 m1 m2 m3 m4 kc s2 len2 D2 ce E e1 e2 e3 nb nt 1 (nI R) K (nI cn) F2 f1 f2 f3) ∨ w' = (vW 113 106 m1 m2 m3 m4 kc s2 len2 D2 (nI cn) F2 f1 f2 f3 nb nt 1 (nI R) K ce E e1 e2 e3)) ∧ v = some (.int (F2 ((b.toInt.toNat - 1) * 8 + i.toInt.toNat))))) := by
  refine Con.of (ab_okc rfl (by decide)) (Nat.le_of_ble_eq_true rfl) ?_
  show G ab_x0 mX7_hash (d + 4 + 1) 0 0 _ 0 [some (.ref 100), some (.int b), some (.int i)] [] _
  have h0 : (0 : Int32).toInt = 0 := rfl
  have h1 : (1 : Int32).toInt = 1 := rfl
  have h8 : (8 : Int32).toInt = 8 := rfl
  have h2 : (nI nb).toInt = nb := nI_toInt (by omega)
  have bad : ¬ (1 ≤ b.toInt ∧ b.toInt ≤ nb ∧ 0 ≤ i.toInt ∧ i.toInt < 8) → G ab_x0 mX7_hash (d + 4 + 1) 0 0 (fun w' v => ((¬ (1 ≤ b.toInt ∧ b.toInt ≤ nb ∧ 0 ≤ i.toInt ∧ i.toInt < 8)) ∧ w' = (vW 106 113 m1 m2 m3 m4 kc s len D cA FA a1 a2 a3 nb nt hs ro K cB FB b1 b2 b3) ∧ v = some (.int 0)) ∨ ((1 ≤ b.toInt ∧ b.toInt ≤ nb ∧ 0 ≤ i.toInt ∧ i.toInt < 8) ∧ ∃ (s2 : SS) (len2 : Int32) (D2 : Nat → Int32) (R : Nat) (F2 f1 f2 f3 E e1 e2 e3 : Nat → Int32) (ce : Int32) (o rk st : Nat → Nat) (cn : Nat), Hsh nb nt k F2 R ∧ grpOk F2 f1 f2 f3 nb o rk st cn ∧ (w' = (vW 106 113 m1 m2 m3 m4 kc s2 len2 D2 ce E e1 e2 e3 nb nt 1 (nI R) K (nI cn) F2 f1 f2 f3) ∨ w' = (vW 113 106 m1 m2 m3 m4 kc s2 len2 D2 (nI cn) F2 f1 f2 f3 nb nt 1 (nI R) K ce E e1 e2 e3)) ∧ v = some (.int (F2 ((b.toInt.toNat - 1) * 8 + i.toInt.toNat))))) 26 [some (.ref 100), some (.int b), some (.int i)] [] (vW 106 113 m1 m2 m3 m4 kc s len D cA FA a1 a2 a3 nb nt hs ro K cB FB b1 b2 b3) := by
    intro h
    refine G_iconst (v := 0) dX7_hash_26 (by decide) ?_
    exact G_ret (v := some (.int _)) ⟨dX7_hash_27, _, rfl, rfl⟩ (Or.inl ⟨h, rfl, rfl⟩)
  refine G_iload_n dX7_hash_0 rfl ?_
  refine G_iconst (v := 1) dX7_hash_1 (by decide) ?_
  refine G_icmp_lt (tgt := 26) dX7_hash_2 (by decide) (fun h => bad (by rw [lt_toI, h1] at h; omega)) (fun h3 => ?_)
  rw [lt_toI, h1] at h3
  refine G_iload_n dX7_hash_5 rfl ?_
  refine G_aload_n dX7_hash_6 rfl ?_
  refine G_get (f := 6) kc8 dX7_hash_7 fX7_48 (by decide) rfl rfl ?_
  refine G_get (f := 1) kc1 dX7_hash_10 fX7_52 (by decide) rfl rfl ?_
  refine G_icmp_gt (tgt := 26) dX7_hash_13 (by decide) (fun h => bad (by rw [lt_toI, h2] at h; omega)) (fun h4 => ?_)
  rw [lt_toI, h2] at h4
  refine G_iload_n dX7_hash_16 rfl ?_
  refine G_if_lt (tgt := 26) dX7_hash_17 (by decide) (fun h => bad (by rw [lt_toI, h0] at h; omega)) (fun h5 => ?_)
  rw [lt_toI, h0] at h5
  refine G_iload_n dX7_hash_20 rfl ?_
  refine G_bipush (v := 8) dX7_hash_21 (by decide) ?_
  refine G_icmp_lt (tgt := 28) dX7_hash_23 (by decide) (fun h6 => ?_) (fun h => bad (by rw [lt_toI, h8] at h; omega))
  rw [lt_toI, h8] at h6
  have e : b = nI (b.toInt.toNat - 1 + 1) := by
    rw [show b.toInt.toNat - 1 + 1 = b.toInt.toNat by omega]
    exact nI_rng (by omega)
  have e2' : b - 1 = nI (b.toInt.toNat - 1) := by
    generalize b.toInt.toNat - 1 = q at e
    rw [e]
    exact nI_pred q
  have ei : i = nI i.toInt.toNat := nI_rng (by omega)
  refine G_aload_n dX7_hash_28 rfl ?_
  refine G_get (f := 0) kc8 dX7_hash_29 fX7_10 (by decide) rfl rfl ?_
  refine G_aload_n dX7_hash_32 rfl ?_
  refine G_get (f := 6) kc8 dX7_hash_33 fX7_48 (by decide) rfl rfl ?_
  refine G_V (is := [1, 2, 3, 4, 5, 6, 7, 8, 9, 10, 11, 12, 13, 14, 15, 16, 17]) (fo := []) (as := [.ref 100, .ref 110]) (as' := [.ref 111]) (st := []) (k := 0) (n := 0) cX7_hash_36 (con_refreshU d nb nt hnb hnt s len hs ro cA cB D FA a1 a2 a3 K FB b1 b2 b3 k hk hH) ab_pfx rfl (by decide) rfl rfl rfl rfl rfl rfl (Nat.le_of_ble_eq_true rfl) dX7_hash_36 (fun w' v h => by obtain ⟨_, _, _, _, _, _, _, _, _, _, _, _, _, _, _, _, _, _, _, _, h | h⟩ := h <;> rw [h] <;> exact (rfl : (17 : Nat) = 17)) (fun w2 v2 hq => ?_)
  obtain ⟨rfl, s2, len2, D2, R, F2, f1, f2, f3, E, e1, e2, e3, ce, o, rk, st, cn, hHs, hGr, hq⟩ := hq
  rcases hq with rfl | rfl
  · refine G_w (st' := []) (w' := (vW 106 113 m1 m2 m3 m4 kc s2 len2 D2 ce E e1 e2 e3 nb nt 1 (nI R) K (nI cn) F2 f1 f2 f3)) rfl rfl ?_
    refine G_aload_n dX7_hash_39 rfl ?_
    refine G_get (f := 6) kc8 dX7_hash_40 fX7_48 (by decide) rfl rfl ?_
    refine G_get (f := 5) kc1 dX7_hash_43 fX7_85 (by decide) rfl rfl ?_
    refine G_get (f := 0) kc2 dX7_hash_46 fX7_146 (by decide) rfl rfl ?_
    refine G_iload_n dX7_hash_49 rfl ?_
    refine G_iconst (v := 1) dX7_hash_50 (by decide) ?_
    refine G_isub dX7_hash_51 ?_
    refine G_topi e2' ?_
    refine G_bipush (v := 8) dX7_hash_52 (by decide) ?_
    refine G_imul dX7_hash_54 ?_
    refine G_topi (y := nI ((b.toInt.toNat - 1) * 8)) (Int32.ofNat_mul _ 8).symm ?_
    refine G_iload_n dX7_hash_55 rfl ?_
    refine G_iadd dX7_hash_56 ?_
    refine G_topi (y := nI ((b.toInt.toNat - 1) * 8 + i.toInt.toNat)) ((congrArg (fun z => nI ((b.toInt.toNat - 1) * 8) + z) ei).trans (nI_add _ _)) ?_
    refine G_ialdN ((b.toInt.toNat - 1) * 8 + i.toInt.toNat) dX7_hash_57 rfl rfl (by omega) (by omega) ?_
    exact G_ret (v := some (.int _)) ⟨dX7_hash_58, _, rfl, rfl⟩ (Or.inr ⟨by omega, s2, len2, D2, R, F2, f1, f2, f3, E, e1, e2, e3, ce, o, rk, st, cn, hHs, hGr, Or.inl rfl, rfl⟩)
  · refine G_w (st' := []) (w' := (vW 113 106 m1 m2 m3 m4 kc s2 len2 D2 (nI cn) F2 f1 f2 f3 nb nt 1 (nI R) K ce E e1 e2 e3)) rfl rfl ?_
    refine G_aload_n dX7_hash_39 rfl ?_
    refine G_get (f := 6) kc8 dX7_hash_40 fX7_48 (by decide) rfl rfl ?_
    refine G_get (f := 5) kc1 dX7_hash_43 fX7_85 (by decide) rfl rfl ?_
    refine G_get (f := 0) kc2 dX7_hash_46 fX7_146 (by decide) rfl rfl ?_
    refine G_iload_n dX7_hash_49 rfl ?_
    refine G_iconst (v := 1) dX7_hash_50 (by decide) ?_
    refine G_isub dX7_hash_51 ?_
    refine G_topi e2' ?_
    refine G_bipush (v := 8) dX7_hash_52 (by decide) ?_
    refine G_imul dX7_hash_54 ?_
    refine G_topi (y := nI ((b.toInt.toNat - 1) * 8)) (Int32.ofNat_mul _ 8).symm ?_
    refine G_iload_n dX7_hash_55 rfl ?_
    refine G_iadd dX7_hash_56 ?_
    refine G_topi (y := nI ((b.toInt.toNat - 1) * 8 + i.toInt.toNat)) ((congrArg (fun z => nI ((b.toInt.toNat - 1) * 8) + z) ei).trans (nI_add _ _)) ?_
    refine G_ialdN ((b.toInt.toNat - 1) * 8 + i.toInt.toNat) dX7_hash_57 rfl rfl (by omega) (by omega) ?_
    exact G_ret (v := some (.int _)) ⟨dX7_hash_58, _, rfl, rfl⟩ (Or.inr ⟨by omega, s2, len2, D2, R, F2, f1, f2, f3, E, e1, e2, e3, ce, o, rk, st, cn, hHs, hGr, Or.inr rfl, rfl⟩)
theorem gp_le {H : Nat → Nat} {n cnt g : Nat} {o rk st : Nat → Nat} (h : GP H n o rk st cnt) (hg : g ≤ cnt) : st g ≤ n := by
  obtain ⟨_, _, _, _, _, h6, h7, _⟩ := h
  induction hm : cnt - g using Nat.strongRecOn generalizing g with
  | ind m ih =>
    by_cases e : g = cnt
    · rw [e, h7]; exact Nat.le_refl _
    · have := (h6 g (by omega)).1
      have := ih (cnt - (g + 1)) (by omega) (g := g + 1) (by omega) rfl
      omega
set_option maxRecDepth 20000 in
set_option maxHeartbeats 4000000 in
theorem con_first (d nb nt : Nat) (hnb : nb ≤ 8) (hnt : nt ≤ 40) (m1 m2 m3 m4 : Nat) (kc : Int32) (s : SS) (len hs ro cA cB : Int32) (D FA a1 a2 a3 K FB b1 b2 b3 : Nat → Int32) (k : Nat → Nat) (hk : keysOk K k nt nb) (hH : HS hs ro cB nb nt k FB b1 b2 b3) (g i : Int32) : Con mX7_first (d + 5) 0 0 (vW 106 113 m1 m2 m3 m4 kc s len D cA FA a1 a2 a3 nb nt hs ro K cB FB b1 b2 b3) [.ref 100, .int g, .int i] (fun w' v => ∃ (s2 : SS) (len2 : Int32) (D2 : Nat → Int32) (R : Nat) (F2 f1 f2 f3 E e1 e2 e3 : Nat → Int32) (ce : Int32) (o rk st : Nat → Nat) (cn : Nat), Hsh nb nt k F2 R ∧ grpOk F2 f1 f2 f3 nb o rk st cn ∧ (w' = (vW 106 113 m1 m2 m3 m4 kc s2 len2 D2 ce E e1 e2 e3 nb nt 1 (nI R) K (nI cn) F2 f1 f2 f3) ∨ w' = (vW 113 106 m1 m2 m3 m4 kc s2 len2 D2 (nI cn) F2 f1 f2 f3 nb nt 1 (nI R) K ce E e1 e2 e3)) ∧ v = some (.int (if 0 ≤ g.toInt ∧ g.toInt < cn ∧ 0 ≤ i.toInt ∧ i.toInt < (st (g.toInt.toNat + 1) - st g.toInt.toNat : Nat) then nI (o (st g.toInt.toNat + i.toInt.toNat) + 1) else -1))) := by
  refine Con.of (ab_okc rfl (by decide)) (Nat.le_of_ble_eq_true rfl) ?_
  show G ab_x0 mX7_first (d + 4 + 1) 0 0 _ 0 [some (.ref 100), some (.int g), some (.int i), none] [] _
  refine G_aload_n dX7_first_0 rfl ?_
  refine G_get (f := 0) kc8 dX7_first_1 fX7_10 (by decide) rfl rfl ?_
  refine G_aload_n dX7_first_4 rfl ?_
  refine G_get (f := 6) kc8 dX7_first_5 fX7_48 (by decide) rfl rfl ?_
  refine G_V (is := [1, 2, 3, 4, 5, 6, 7, 8, 9, 10, 11, 12, 13, 14, 15, 16, 17]) (fo := []) (as := [.ref 100, .ref 110]) (as' := [.ref 111]) (st := []) (k := 0) (n := 0) cX7_first_8 (con_refreshU d nb nt hnb hnt s len hs ro cA cB D FA a1 a2 a3 K FB b1 b2 b3 k hk hH) ab_pfx rfl (by decide) rfl rfl rfl rfl rfl rfl (Nat.le_of_ble_eq_true rfl) dX7_first_8 (fun w' v h => by obtain ⟨_, _, _, _, _, _, _, _, _, _, _, _, _, _, _, _, _, _, _, _, h | h⟩ := h <;> rw [h] <;> exact (rfl : (17 : Nat) = 17)) (fun w2 v2 hq => ?_)
  obtain ⟨rfl, s2, len2, D2, R, F2, f1, f2, f3, E, e1, e2, e3, ce, o, rk, st, cn, hHs, hGr, hq⟩ := hq
  obtain ⟨hG, hf1, hf2, hf3⟩ := id hGr
  obtain ⟨gp1, gp2, gp3, gp4, gp5, gp6, gp7, gp8, gp9⟩ := id hG
  have h0 : (0 : Int32).toInt = 0 := rfl
  have h2 : (nI cn).toInt = cn := nI_toInt (by omega)
  rcases hq with rfl | rfl
  · refine G_w (st' := []) (w' := (vW 106 113 m1 m2 m3 m4 kc s2 len2 D2 ce E e1 e2 e3 nb nt 1 (nI R) K (nI cn) F2 f1 f2 f3)) rfl rfl ?_
    refine G_aload_n dX7_first_11 rfl ?_
    refine G_get (f := 6) kc8 dX7_first_12 fX7_48 (by decide) rfl rfl ?_
    refine G_get (f := 5) kc1 dX7_first_15 fX7_85 (by decide) rfl rfl ?_
    refine G_astore_n (L' := [_, _, _, _]) dX7_first_18 (Nat.le_of_ble_eq_true rfl) rfl ?_
    have bad : ¬ (0 ≤ g.toInt ∧ g.toInt < cn ∧ 0 ≤ i.toInt ∧ i.toInt < (st (g.toInt.toNat + 1) - st g.toInt.toNat : Nat)) → G ab_x0 mX7_first (d + 4 + 1) 0 0 (fun w' v => ∃ (s2 : SS) (len2 : Int32) (D2 : Nat → Int32) (R : Nat) (F2 f1 f2 f3 E e1 e2 e3 : Nat → Int32) (ce : Int32) (o rk st : Nat → Nat) (cn : Nat), Hsh nb nt k F2 R ∧ grpOk F2 f1 f2 f3 nb o rk st cn ∧ (w' = (vW 106 113 m1 m2 m3 m4 kc s2 len2 D2 ce E e1 e2 e3 nb nt 1 (nI R) K (nI cn) F2 f1 f2 f3) ∨ w' = (vW 113 106 m1 m2 m3 m4 kc s2 len2 D2 (nI cn) F2 f1 f2 f3 nb nt 1 (nI R) K ce E e1 e2 e3)) ∧ v = some (.int (if 0 ≤ g.toInt ∧ g.toInt < cn ∧ 0 ≤ i.toInt ∧ i.toInt < (st (g.toInt.toNat + 1) - st g.toInt.toNat : Nat) then nI (o (st g.toInt.toNat + i.toInt.toNat) + 1) else -1))) 44 [some (.ref 100), some (.int g), some (.int i), some (.ref 113)] [] (vW 106 113 m1 m2 m3 m4 kc s2 len2 D2 ce E e1 e2 e3 nb nt 1 (nI R) K (nI cn) F2 f1 f2 f3) := by
      intro h
      refine G_iconst (v := -1) dX7_first_44 (by decide) ?_
      exact G_ret (v := some (.int _)) ⟨dX7_first_45, _, rfl, rfl⟩ ⟨s2, len2, D2, R, F2, f1, f2, f3, E, e1, e2, e3, ce, o, rk, st, cn, hHs, hGr, Or.inl rfl, by rw [if_neg h]⟩
    refine G_iload_n dX7_first_19 rfl ?_
    refine G_if_lt (tgt := 44) dX7_first_20 (by decide) (fun h => bad (by rw [lt_toI, h0] at h; omega)) (fun h3 => ?_)
    rw [lt_toI, h0] at h3
    refine G_iload_n dX7_first_23 rfl ?_
    refine G_aload_n dX7_first_24 rfl ?_
    refine G_get (f := 4) kc2 dX7_first_25 fX7_152 (by decide) rfl rfl ?_
    refine G_icmp_ge (tgt := 44) dX7_first_28 (by decide) (fun h => bad (by rw [le_toI, h2] at h; omega)) (fun h4 => ?_)
    rw [le_toI, h2] at h4
    refine G_iload_n dX7_first_31 rfl ?_
    refine G_if_lt (tgt := 44) dX7_first_32 (by decide) (fun h => bad (by rw [lt_toI, h0] at h; omega)) (fun h5 => ?_)
    rw [lt_toI, h0] at h5
    obtain ⟨st1, st2⟩ := gp6 g.toInt.toNat (by omega)
    have sE1 : f3 (g.toInt.toNat + 1) = nI (st (g.toInt.toNat + 1)) := hf3 _ (by omega)
    have sE0 : f3 g.toInt.toNat = nI (st g.toInt.toNat) := hf3 _ (by omega)
    have sL := gp_le hG (g := g.toInt.toNat + 1) (by omega)
    refine G_iload_n dX7_first_35 rfl ?_
    refine G_aload_n dX7_first_36 rfl ?_
    refine G_iload_n dX7_first_37 rfl ?_
    refine G_topi (nI_rng (x := g) (by omega)) ?_
    refine G_V (is := [13, 17]) (fo := [114, 115, 116]) (as := [.ref 100, .int (nI g.toInt.toNat)]) (as' := [.int (nI g.toInt.toNat)]) (st := [.int i]) (k := 0) (n := 0) cX7_first_38 (con_sizeOf (d + 4) g.toInt.toNat (by omega) f3 (.ref 4) (.ref 5) (.ref 6) (.int (nI cn))) ab_pfx rfl (by decide) rfl rfl rfl rfl rfl rfl (Nat.le_of_ble_eq_true rfl) dX7_first_38 (fun w' v h => by rw [h.1]) (fun w2 v2 hq => ?_)
    obtain ⟨rfl, rfl⟩ := hq
    refine G_w (st' := [.int (f3 (g.toInt.toNat + 1) - f3 g.toInt.toNat), .int i]) (w' := (vW 106 113 m1 m2 m3 m4 kc s2 len2 D2 ce E e1 e2 e3 nb nt 1 (nI R) K (nI cn) F2 f1 f2 f3)) rfl rfl ?_
    rw [sE1, sE0]
    refine G_topi (y := nI (st (g.toInt.toNat + 1) - st g.toInt.toNat)) (pk_sub (by omega)) ?_
    have h6 : (nI (st (g.toInt.toNat + 1) - st g.toInt.toNat)).toInt = (st (g.toInt.toNat + 1) - st g.toInt.toNat : Nat) := nI_toInt (by omega)
    refine G_icmp_lt (tgt := 46) dX7_first_41 (by decide) (fun h7 => ?_) (fun h => bad (by rw [lt_toI, h6] at h; omega))
    rw [lt_toI, h6] at h7
    have ei : i = nI i.toInt.toNat := nI_rng (by omega)
    refine G_aload_n dX7_first_46 rfl ?_
    refine G_get (f := 1) kc2 dX7_first_47 fX7_159 (by decide) rfl rfl ?_
    refine G_aload_n dX7_first_50 rfl ?_
    refine G_get (f := 3) kc2 dX7_first_51 fX7_162 (by decide) rfl rfl ?_
    refine G_iload_n dX7_first_54 rfl ?_
    refine G_ialdN g.toInt.toNat dX7_first_55 rfl (nI_rng (by omega)) (by omega) (by omega) ?_
    rw [sE0]
    refine G_iload_n dX7_first_56 rfl ?_
    refine G_iadd dX7_first_57 ?_
    refine G_topi (y := nI (st g.toInt.toNat + i.toInt.toNat)) ((congrArg (fun z => nI (st g.toInt.toNat) + z) ei).trans (nI_add _ _)) ?_
    refine G_ialdN (st g.toInt.toNat + i.toInt.toNat) dX7_first_58 rfl rfl (by omega) (by omega) ?_
    rw [hf1 (st g.toInt.toNat + i.toInt.toNat) (by omega)]
    refine G_iconst (v := 1) dX7_first_59 (by decide) ?_
    refine G_iadd dX7_first_60 ?_
    refine G_topi (nI_1 _) ?_
    exact G_ret (v := some (.int _)) ⟨dX7_first_61, _, rfl, rfl⟩ ⟨s2, len2, D2, R, F2, f1, f2, f3, E, e1, e2, e3, ce, o, rk, st, cn, hHs, hGr, Or.inl rfl, by rw [if_pos (by omega)]⟩
  · refine G_w (st' := []) (w' := (vW 113 106 m1 m2 m3 m4 kc s2 len2 D2 (nI cn) F2 f1 f2 f3 nb nt 1 (nI R) K ce E e1 e2 e3)) rfl rfl ?_
    refine G_aload_n dX7_first_11 rfl ?_
    refine G_get (f := 6) kc8 dX7_first_12 fX7_48 (by decide) rfl rfl ?_
    refine G_get (f := 5) kc1 dX7_first_15 fX7_85 (by decide) rfl rfl ?_
    refine G_astore_n (L' := [_, _, _, _]) dX7_first_18 (Nat.le_of_ble_eq_true rfl) rfl ?_
    have bad : ¬ (0 ≤ g.toInt ∧ g.toInt < cn ∧ 0 ≤ i.toInt ∧ i.toInt < (st (g.toInt.toNat + 1) - st g.toInt.toNat : Nat)) → G ab_x0 mX7_first (d + 4 + 1) 0 0 (fun w' v => ∃ (s2 : SS) (len2 : Int32) (D2 : Nat → Int32) (R : Nat) (F2 f1 f2 f3 E e1 e2 e3 : Nat → Int32) (ce : Int32) (o rk st : Nat → Nat) (cn : Nat), Hsh nb nt k F2 R ∧ grpOk F2 f1 f2 f3 nb o rk st cn ∧ (w' = (vW 106 113 m1 m2 m3 m4 kc s2 len2 D2 ce E e1 e2 e3 nb nt 1 (nI R) K (nI cn) F2 f1 f2 f3) ∨ w' = (vW 113 106 m1 m2 m3 m4 kc s2 len2 D2 (nI cn) F2 f1 f2 f3 nb nt 1 (nI R) K ce E e1 e2 e3)) ∧ v = some (.int (if 0 ≤ g.toInt ∧ g.toInt < cn ∧ 0 ≤ i.toInt ∧ i.toInt < (st (g.toInt.toNat + 1) - st g.toInt.toNat : Nat) then nI (o (st g.toInt.toNat + i.toInt.toNat) + 1) else -1))) 44 [some (.ref 100), some (.int g), some (.int i), some (.ref 106)] [] (vW 113 106 m1 m2 m3 m4 kc s2 len2 D2 (nI cn) F2 f1 f2 f3 nb nt 1 (nI R) K ce E e1 e2 e3) := by
      intro h
      refine G_iconst (v := -1) dX7_first_44 (by decide) ?_
      exact G_ret (v := some (.int _)) ⟨dX7_first_45, _, rfl, rfl⟩ ⟨s2, len2, D2, R, F2, f1, f2, f3, E, e1, e2, e3, ce, o, rk, st, cn, hHs, hGr, Or.inr rfl, by rw [if_neg h]⟩
    refine G_iload_n dX7_first_19 rfl ?_
    refine G_if_lt (tgt := 44) dX7_first_20 (by decide) (fun h => bad (by rw [lt_toI, h0] at h; omega)) (fun h3 => ?_)
    rw [lt_toI, h0] at h3
    refine G_iload_n dX7_first_23 rfl ?_
    refine G_aload_n dX7_first_24 rfl ?_
    refine G_get (f := 4) kc2 dX7_first_25 fX7_152 (by decide) rfl rfl ?_
    refine G_icmp_ge (tgt := 44) dX7_first_28 (by decide) (fun h => bad (by rw [le_toI, h2] at h; omega)) (fun h4 => ?_)
    rw [le_toI, h2] at h4
    refine G_iload_n dX7_first_31 rfl ?_
    refine G_if_lt (tgt := 44) dX7_first_32 (by decide) (fun h => bad (by rw [lt_toI, h0] at h; omega)) (fun h5 => ?_)
    rw [lt_toI, h0] at h5
    obtain ⟨st1, st2⟩ := gp6 g.toInt.toNat (by omega)
    have sE1 : f3 (g.toInt.toNat + 1) = nI (st (g.toInt.toNat + 1)) := hf3 _ (by omega)
    have sE0 : f3 g.toInt.toNat = nI (st g.toInt.toNat) := hf3 _ (by omega)
    have sL := gp_le hG (g := g.toInt.toNat + 1) (by omega)
    refine G_iload_n dX7_first_35 rfl ?_
    refine G_aload_n dX7_first_36 rfl ?_
    refine G_iload_n dX7_first_37 rfl ?_
    refine G_topi (nI_rng (x := g) (by omega)) ?_
    refine G_V (is := [6, 10]) (fo := [107, 108, 109]) (as := [.ref 100, .int (nI g.toInt.toNat)]) (as' := [.int (nI g.toInt.toNat)]) (st := [.int i]) (k := 0) (n := 0) cX7_first_38 (con_sizeOf (d + 4) g.toInt.toNat (by omega) f3 (.ref 4) (.ref 5) (.ref 6) (.int (nI cn))) ab_pfx rfl (by decide) rfl rfl rfl rfl rfl rfl (Nat.le_of_ble_eq_true rfl) dX7_first_38 (fun w' v h => by rw [h.1]) (fun w2 v2 hq => ?_)
    obtain ⟨rfl, rfl⟩ := hq
    refine G_w (st' := [.int (f3 (g.toInt.toNat + 1) - f3 g.toInt.toNat), .int i]) (w' := (vW 113 106 m1 m2 m3 m4 kc s2 len2 D2 (nI cn) F2 f1 f2 f3 nb nt 1 (nI R) K ce E e1 e2 e3)) rfl rfl ?_
    rw [sE1, sE0]
    refine G_topi (y := nI (st (g.toInt.toNat + 1) - st g.toInt.toNat)) (pk_sub (by omega)) ?_
    have h6 : (nI (st (g.toInt.toNat + 1) - st g.toInt.toNat)).toInt = (st (g.toInt.toNat + 1) - st g.toInt.toNat : Nat) := nI_toInt (by omega)
    refine G_icmp_lt (tgt := 46) dX7_first_41 (by decide) (fun h7 => ?_) (fun h => bad (by rw [lt_toI, h6] at h; omega))
    rw [lt_toI, h6] at h7
    have ei : i = nI i.toInt.toNat := nI_rng (by omega)
    refine G_aload_n dX7_first_46 rfl ?_
    refine G_get (f := 1) kc2 dX7_first_47 fX7_159 (by decide) rfl rfl ?_
    refine G_aload_n dX7_first_50 rfl ?_
    refine G_get (f := 3) kc2 dX7_first_51 fX7_162 (by decide) rfl rfl ?_
    refine G_iload_n dX7_first_54 rfl ?_
    refine G_ialdN g.toInt.toNat dX7_first_55 rfl (nI_rng (by omega)) (by omega) (by omega) ?_
    rw [sE0]
    refine G_iload_n dX7_first_56 rfl ?_
    refine G_iadd dX7_first_57 ?_
    refine G_topi (y := nI (st g.toInt.toNat + i.toInt.toNat)) ((congrArg (fun z => nI (st g.toInt.toNat) + z) ei).trans (nI_add _ _)) ?_
    refine G_ialdN (st g.toInt.toNat + i.toInt.toNat) dX7_first_58 rfl rfl (by omega) (by omega) ?_
    rw [hf1 (st g.toInt.toNat + i.toInt.toNat) (by omega)]
    refine G_iconst (v := 1) dX7_first_59 (by decide) ?_
    refine G_iadd dX7_first_60 ?_
    refine G_topi (nI_1 _) ?_
    exact G_ret (v := some (.int _)) ⟨dX7_first_61, _, rfl, rfl⟩ ⟨s2, len2, D2, R, F2, f1, f2, f3, E, e1, e2, e3, ce, o, rk, st, cn, hHs, hGr, Or.inr rfl, by rw [if_pos (by omega)]⟩
