/-! CanonNames' methods that open the graph or the latest name alone. A CanonNames: sha, hasher, matcher, leastRow, latest, kept, keptCount, graph. -/
abbrev c7 (_ a1 a2 a3 a4 a5 : Nat) (kc : Int32) (g : Nat) : ab_C := .inr (8, [.ref a1, .ref a2, .ref a3, .ref a4, .ref a5, .int kc, .ref g])
theorem nI_rng {x : Int32} (h : 0 ≤ x.toInt) : x = nI x.toInt.toNat := by
  have h1 : ¬ x < 0 := by
    rw [Int32.lt_iff_toInt_lt]
    show ¬ x.toInt < 0
    omega
  obtain ⟨j, a, rfl⟩ := nI_of h1
  rw [nI_toInt a]
  rfl
theorem lt_toI {x y : Int32} : x < y ↔ x.toInt < y.toInt := Int32.lt_iff_toInt_lt
theorem le_toI {x y : Int32} : x ≤ y ↔ x.toInt ≤ y.toInt := Int32.le_iff_toInt_le
set_option maxRecDepth 20000 in
set_option maxHeartbeats 2000000 in
theorem con_blank (d : Nat) (a0 a1 a2 a3 a4 a5 : Nat) (kc : Int32) (nb : Nat) (hnb : nb ≤ 8) (tv hs ro : Int32) (t1 t2 : Nat) : Con mX7_blank (d) 0 0 [c7 a0 a1 a2 a3 a4 a5 kc 101, .inr (1, [.ref t1, .int (nI nb), .int tv, .int hs, .int ro, .ref t2])] [.ref 100] (fun w' v => (8 ≤ nb ∧ w' = [c7 a0 a1 a2 a3 a4 a5 kc 101, .inr (1, [.ref t1, .int (nI nb), .int tv, .int hs, .int ro, .ref t2])] ∧ v = some (.int (-2))) ∨ (nb < 8 ∧ w' = [c7 a0 a1 a2 a3 a4 a5 kc 101, .inr (1, [.ref t1, .int (nI (nb + 1)), .int tv, .int 0, .int ro, .ref t2])] ∧ v = some (.int (nI (nb + 1))))) := by
  refine Con.of (ab_okc rfl (by decide)) (Nat.le_of_ble_eq_true rfl) ?_
  show G ab_x0 mX7_blank (d) 0 0 _ 0 [some (.ref 100)] [] _
  refine G_aload_n dX7_blank_0 rfl ?_
  refine G_get (f := 6) kc8 dX7_blank_1 fX7_48 (by decide) rfl rfl ?_
  refine G_get (f := 1) kc1 dX7_blank_4 fX7_52 (by decide) rfl rfl ?_
  refine G_bipush (v := 8) dX7_blank_7 (by decide) ?_
  refine G_icmp_ltN (tgt := 15) nb 8 dX7_blank_9 (by decide) rfl rfl (by omega) (by omega) (fun h => ?_) (fun h => ?_)
  rotate_left
  · refine G_bipush (v := -2) dX7_blank_12 (by decide) ?_
    exact G_ret (v := some (.int _)) ⟨dX7_blank_14, _, rfl, rfl⟩ (Or.inl ⟨by omega, rfl, rfl⟩)
  refine G_aload_n dX7_blank_15 rfl ?_
  refine G_get (f := 6) kc8 dX7_blank_16 fX7_48 (by decide) rfl rfl ?_
  refine G_dup dX7_blank_19 rfl ?_
  refine G_get (f := 1) kc1 dX7_blank_20 fX7_52 (by decide) rfl rfl ?_
  refine G_iconst (v := 1) dX7_blank_23 (by decide) ?_
  refine G_iadd dX7_blank_24 ?_
  refine G_topi (nI_1 nb) ?_
  refine G_put (w' := [_, _]) (f := 1) kc1 dX7_blank_25 fX7_52 (by decide) rfl rfl rfl rfl (Nat.le_of_ble_eq_true rfl) rfl ?_
  refine G_aload_n dX7_blank_28 rfl ?_
  refine G_get (f := 6) kc8 dX7_blank_29 fX7_48 (by decide) rfl rfl ?_
  refine G_iconst (v := 0) dX7_blank_32 (by decide) ?_
  refine G_put (w' := [_, _]) (f := 3) kc1 dX7_blank_33 fX7_55 (by decide) rfl (by decide) (by decide) rfl (Nat.le_of_ble_eq_true rfl) rfl ?_
  refine G_aload_n dX7_blank_36 rfl ?_
  refine G_get (f := 6) kc8 dX7_blank_37 fX7_48 (by decide) rfl rfl ?_
  refine G_get (f := 1) kc1 dX7_blank_40 fX7_52 (by decide) rfl rfl ?_
  exact G_ret (v := some (.int _)) ⟨dX7_blank_43, _, rfl, rfl⟩ (Or.inr ⟨h, rfl, rfl⟩)
set_option maxRecDepth 20000 in
set_option maxHeartbeats 2000000 in
theorem con_triples (d : Nat) (a0 a1 a2 a3 a4 a5 : Nat) (kc : Int32) (bv tv hs ro : Int32) (t1 t2 : Nat) : Con mX7_triples (d) 0 0 [c7 a0 a1 a2 a3 a4 a5 kc 101, .inr (1, [.ref t1, .int bv, .int tv, .int hs, .int ro, .ref t2])] [.ref 100] (fun w' v => w' = [c7 a0 a1 a2 a3 a4 a5 kc 101, .inr (1, [.ref t1, .int bv, .int tv, .int hs, .int ro, .ref t2])] ∧ v = some (.int tv)) := by
  refine Con.of (ab_okc rfl (by decide)) (Nat.le_of_ble_eq_true rfl) ?_
  show G ab_x0 mX7_triples (d) 0 0 _ 0 [some (.ref 100)] [] _
  refine G_aload_n dX7_triples_0 rfl ?_
  refine G_get (f := 6) kc8 dX7_triples_1 fX7_48 (by decide) rfl rfl ?_
  refine G_get (f := 2) kc1 dX7_triples_4 fX7_71 (by decide) rfl rfl ?_
  exact G_ret (v := some (.int _)) ⟨dX7_triples_7, _, rfl, rfl⟩ ⟨rfl, rfl⟩
set_option maxRecDepth 20000 in
set_option maxHeartbeats 2000000 in
theorem con_blanks (d : Nat) (a0 a1 a2 a3 a4 a5 : Nat) (kc : Int32) (bv tv hs ro : Int32) (t1 t2 : Nat) : Con mX7_blanks (d) 0 0 [c7 a0 a1 a2 a3 a4 a5 kc 101, .inr (1, [.ref t1, .int bv, .int tv, .int hs, .int ro, .ref t2])] [.ref 100] (fun w' v => w' = [c7 a0 a1 a2 a3 a4 a5 kc 101, .inr (1, [.ref t1, .int bv, .int tv, .int hs, .int ro, .ref t2])] ∧ v = some (.int bv)) := by
  refine Con.of (ab_okc rfl (by decide)) (Nat.le_of_ble_eq_true rfl) ?_
  show G ab_x0 mX7_blanks (d) 0 0 _ 0 [some (.ref 100)] [] _
  refine G_aload_n dX7_blanks_0 rfl ?_
  refine G_get (f := 6) kc8 dX7_blanks_1 fX7_48 (by decide) rfl rfl ?_
  refine G_get (f := 1) kc1 dX7_blanks_4 fX7_52 (by decide) rfl rfl ?_
  exact G_ret (v := some (.int _)) ⟨dX7_blanks_7, _, rfl, rfl⟩ ⟨rfl, rfl⟩
set_option maxRecDepth 20000 in
set_option maxHeartbeats 2000000 in
theorem con_named (d : Nat) (a0 a1 a2 a3 a5 ag : Nat) (kc dg : Int32) (b : Int32) (nb : Nat) (hnb : nb ≤ 8) (tv hs ro : Int32) (f : Nat → Int32) (t1 t2 t3 : Nat) : Con mX7_named (d) 0 0 [c7 a0 a1 a2 a3 101 a5 kc ag, .inr (6, [.ref 102, .ref 103, .ref t3, .int dg]), .inr (1, [.ref t1, .int (nI nb), .int tv, .int hs, .int ro, .ref t2]), cI 8 f] [.ref 100, .int b] (fun w' v => w' = [c7 a0 a1 a2 a3 101 a5 kc ag, .inr (6, [.ref 102, .ref 103, .ref t3, .int dg]), .inr (1, [.ref t1, .int (nI nb), .int tv, .int hs, .int ro, .ref t2]), cI 8 f] ∧ v = some (.int (if 1 ≤ b.toInt ∧ b.toInt ≤ nb then f (b.toInt.toNat - 1) else -1))) := by
  refine Con.of (ab_okc rfl (by decide)) (Nat.le_of_ble_eq_true rfl) ?_
  show G ab_x0 mX7_named (d) 0 0 _ 0 [some (.ref 100), some (.int b)] [] _
  have h1 : (1 : Int32).toInt = 1 := rfl
  have h2 : (nI nb).toInt = nb := nI_toInt (by omega)
  have bad : ¬ (1 ≤ b.toInt ∧ b.toInt ≤ nb) → G ab_x0 mX7_named d 0 0 (fun w' v => w' = [c7 a0 a1 a2 a3 101 a5 kc ag, .inr (6, [.ref 102, .ref 103, .ref t3, .int dg]), .inr (1, [.ref t1, .int (nI nb), .int tv, .int hs, .int ro, .ref t2]), cI 8 f] ∧ v = some (.int (if 1 ≤ b.toInt ∧ b.toInt ≤ nb then f (b.toInt.toNat - 1) else -1))) 19 [some (.ref 100), some (.int b)] [] [c7 a0 a1 a2 a3 101 a5 kc ag, .inr (6, [.ref 102, .ref 103, .ref t3, .int dg]), .inr (1, [.ref t1, .int (nI nb), .int tv, .int hs, .int ro, .ref t2]), cI 8 f] := by
    intro h
    refine G_iconst (v := -1) dX7_named_19 (by decide) ?_
    exact G_ret (v := some (.int _)) ⟨dX7_named_20, _, rfl, rfl⟩ ⟨rfl, by rw [if_neg h]⟩
  refine G_iload_n dX7_named_0 rfl ?_
  refine G_iconst (v := 1) dX7_named_1 (by decide) ?_
  refine G_icmp_lt (tgt := 19) dX7_named_2 (by decide) (fun h => bad (by rw [lt_toI, h1] at h; omega)) (fun h => ?_)
  rw [lt_toI, h1] at h
  refine G_iload_n dX7_named_5 rfl ?_
  refine G_aload_n dX7_named_6 rfl ?_
  refine G_get (f := 3) kc8 dX7_named_7 fX7_33 (by decide) rfl rfl ?_
  refine G_get (f := 0) kc6 dX7_named_10 fX7_95 (by decide) rfl rfl ?_
  refine G_get (f := 1) kc1 dX7_named_13 fX7_52 (by decide) rfl rfl ?_
  refine G_icmp_le (tgt := 21) dX7_named_16 (by decide) (fun h3 => ?_) (fun h3 => bad (by rw [le_toI, h2] at h3; omega))
  rw [le_toI, h2] at h3
  refine G_aload_n dX7_named_21 rfl ?_
  refine G_get (f := 3) kc8 dX7_named_22 fX7_33 (by decide) rfl rfl ?_
  refine G_get (f := 1) kc6 dX7_named_25 fX7_118 (by decide) rfl rfl ?_
  refine G_iload_n dX7_named_28 rfl ?_
  refine G_iconst (v := 1) dX7_named_29 (by decide) ?_
  refine G_isub dX7_named_30 ?_
  have e : b = nI (b.toInt.toNat - 1 + 1) := by
    rw [show b.toInt.toNat - 1 + 1 = b.toInt.toNat by omega]
    exact nI_rng (by omega)
  have e2 : b - 1 = nI (b.toInt.toNat - 1) := by
    generalize b.toInt.toNat - 1 = q at e
    rw [e]
    exact nI_pred q
  refine G_ialdN (b.toInt.toNat - 1) dX7_named_31 rfl e2 (by omega) (by omega) ?_
  exact G_ret (v := some (.int _)) ⟨dX7_named_32, _, rfl, rfl⟩ ⟨rfl, by rw [if_pos (by omega)]⟩
set_option maxRecDepth 20000 in
set_option maxHeartbeats 2000000 in
theorem con_form (d : Nat) (a0 a1 a2 a3 a5 ag : Nat) (kc dg : Int32) (i q : Int32) (nt : Nat) (hnt : nt ≤ 40) (bv hs ro : Int32) (K : Nat → Int32) (k : Nat → Nat) (hK : ∀ i, i < nt → K i = nI (k i) ∧ k i < 2 ^ 30) (t2 t3 t4 : Nat) : Con mX7_form (d + 2) 0 0 [c7 a0 a1 a2 a3 101 a5 kc ag, .inr (6, [.ref 102, .ref t3, .ref t4, .int dg]), .inr (1, [.ref 103, .int bv, .int (nI nt), .int hs, .int ro, .ref t2]), cI 40 K] [.ref 100, .int i, .int q] (fun w' v => w' = [c7 a0 a1 a2 a3 101 a5 kc ag, .inr (6, [.ref 102, .ref t3, .ref t4, .int dg]), .inr (1, [.ref 103, .int bv, .int (nI nt), .int hs, .int ro, .ref t2]), cI 40 K] ∧ v = some (.int (if 0 ≤ i.toInt ∧ i.toInt < nt ∧ 0 ≤ q.toInt ∧ q.toInt < 3 then nI (kp (k i.toInt.toNat) q.toInt.toNat) - 8 else 0))) := by
  refine Con.of (ab_okc rfl (by decide)) (Nat.le_of_ble_eq_true rfl) ?_
  show G ab_x0 mX7_form (d + 2) 0 0 _ 0 [some (.ref 100), some (.int i), some (.int q)] [] _
  have h0 : (0 : Int32).toInt = 0 := rfl
  have h3 : (3 : Int32).toInt = 3 := rfl
  have h2 : (nI nt).toInt = nt := nI_toInt (by omega)
  have bad : ¬ (0 ≤ i.toInt ∧ i.toInt < nt ∧ 0 ≤ q.toInt ∧ q.toInt < 3) → G ab_x0 mX7_form (d + 2) 0 0 (fun w' v => w' = [c7 a0 a1 a2 a3 101 a5 kc ag, .inr (6, [.ref 102, .ref t3, .ref t4, .int dg]), .inr (1, [.ref 103, .int bv, .int (nI nt), .int hs, .int ro, .ref t2]), cI 40 K] ∧ v = some (.int (if 0 ≤ i.toInt ∧ i.toInt < nt ∧ 0 ≤ q.toInt ∧ q.toInt < 3 then nI (kp (k i.toInt.toNat) q.toInt.toNat) - 8 else 0))) 27 [some (.ref 100), some (.int i), some (.int q)] [] [c7 a0 a1 a2 a3 101 a5 kc ag, .inr (6, [.ref 102, .ref t3, .ref t4, .int dg]), .inr (1, [.ref 103, .int bv, .int (nI nt), .int hs, .int ro, .ref t2]), cI 40 K] := by
    intro h
    refine G_iconst (v := 0) dX7_form_27 (by decide) ?_
    exact G_ret (v := some (.int _)) ⟨dX7_form_28, _, rfl, rfl⟩ ⟨rfl, by rw [if_neg h]⟩
  refine G_iload_n dX7_form_0 rfl ?_
  refine G_if_lt (tgt := 27) dX7_form_1 (by decide) (fun h => bad (by rw [lt_toI, h0] at h; omega)) (fun h => ?_)
  rw [lt_toI, h0] at h
  refine G_iload_n dX7_form_4 rfl ?_
  refine G_aload_n dX7_form_5 rfl ?_
  refine G_get (f := 3) kc8 dX7_form_6 fX7_33 (by decide) rfl rfl ?_
  refine G_get (f := 0) kc6 dX7_form_9 fX7_95 (by decide) rfl rfl ?_
  refine G_get (f := 2) kc1 dX7_form_12 fX7_71 (by decide) rfl rfl ?_
  refine G_icmp_ge (tgt := 27) dX7_form_15 (by decide) (fun h => bad (by rw [le_toI, h2] at h; omega)) (fun h4 => ?_)
  rw [le_toI, h2] at h4
  refine G_iload_n dX7_form_18 rfl ?_
  refine G_if_lt (tgt := 27) dX7_form_19 (by decide) (fun h => bad (by rw [lt_toI, h0] at h; omega)) (fun h5 => ?_)
  rw [lt_toI, h0] at h5
  refine G_iload_n dX7_form_22 rfl ?_
  refine G_iconst (v := 3) dX7_form_23 (by decide) ?_
  refine G_icmp_lt (tgt := 29) dX7_form_24 (by decide) (fun h6 => ?_) (fun h => bad (by rw [lt_toI, h3] at h; omega))
  rw [lt_toI, h3] at h6
  refine G_aload_n dX7_form_29 rfl ?_
  refine G_get (f := 3) kc8 dX7_form_30 fX7_33 (by decide) rfl rfl ?_
  refine G_get (f := 0) kc6 dX7_form_33 fX7_95 (by decide) rfl rfl ?_
  refine G_get (f := 0) kc1 dX7_form_36 fX7_121 (by decide) rfl rfl ?_
  refine G_iload_n dX7_form_39 rfl ?_
  refine G_ialdN i.toInt.toNat dX7_form_40 rfl (nI_rng (by omega)) (by omega) (by omega) ?_
  obtain ⟨k1, k2⟩ := hK i.toInt.toNat (by omega)
  rw [k1]
  refine G_iload_n dX7_form_41 rfl ?_
  refine G_topi (nI_rng (x := q) (by omega)) ?_
  refine G_S (is := []) (fo := []) (as := [.int (nI (k i.toInt.toNat)), .int (nI q.toInt.toNat)]) (as' := [.int (nI (k i.toInt.toNat)), .int (nI q.toInt.toNat)]) (st := []) (k := 0) (n := 0) cX7_form_42 (con_pointAt d (k i.toInt.toNat) q.toInt.toNat k2 (by omega)) ab_pfx rfl (by decide) rfl rfl rfl rfl (Nat.le_of_ble_eq_true rfl) dX7_form_42 (fun w' v h => by rw [h.1]) (fun w2 v2 hq => ?_)
  obtain ⟨rfl, rfl⟩ := hq
  exact G_ret (v := some (.int _)) ⟨dX7_form_45, _, rfl, rfl⟩ ⟨rfl, by rw [if_pos (by omega)]⟩
