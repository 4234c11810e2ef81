/-! LeastRow: compare, greatestDifference, settle, layTrial. -/
set_option maxRecDepth 20000 in
theorem con_compare (d : Nat) (f g : Nat → Int32) (N N' c : Nat) (hc : c ≤ N) (hc' : c ≤ N') (hN : N < 2 ^ 31) (hN' : N' < 2 ^ 31) : Con mX3_compare d 0 0 [cI N f, cI N' g] [.ref 100, .ref 101, .int (nI c)] (fun w' v => w' = [cI N f, cI N' g] ∧ ((∀ i, i < c → f i = g i) ∧ v = some (.int 0) ∨ (∃ i, i < c ∧ (∀ j, j < i → f j = g j) ∧ f i < g i) ∧ v = some (.int (-1)) ∨ (∃ i, i < c ∧ (∀ j, j < i → f j = g j) ∧ g i < f i) ∧ v = some (.int 1))) := by
  refine Con.of (ab_okc rfl (by decide)) (Nat.le_of_ble_eq_true rfl) ?_
  show G ab_x0 mX3_compare d 0 0 _ 0 [some (.ref 100), some (.ref 101), some (.int (nI c)), none] [] _
  refine G_iconst (v := 0) dX3_compare_0 (by decide) ?_
  refine G_istore_n (L' := [_, _, _, _]) dX3_compare_1 (Nat.le_of_ble_eq_true rfl) rfl ?_
  have loop : ∀ (i : Nat), i ≤ c → (∀ j, j < i → f j = g j) → G ab_x0 mX3_compare d 0 0 (fun w' v => w' = [cI N f, cI N' g] ∧ ((∀ i, i < c → f i = g i) ∧ v = some (.int 0) ∨ (∃ i, i < c ∧ (∀ j, j < i → f j = g j) ∧ f i < g i) ∧ v = some (.int (-1)) ∨ (∃ i, i < c ∧ (∀ j, j < i → f j = g j) ∧ g i < f i) ∧ v = some (.int 1))) 2 [some (.ref 100), some (.ref 101), some (.int (nI c)), some (.int (nI i))] [] [cI N f, cI N' g] := by
    intro i
    induction hm : c - i using Nat.strongRecOn generalizing i with
    | ind m ih =>
      subst hm
      intro hi hlt
      refine G_iload_n dX3_compare_2 rfl ?_
      refine G_iload_n dX3_compare_3 rfl ?_
      refine G_icmp_geN (tgt := 37) i c dX3_compare_4 (by decide) rfl rfl (by omega) (by omega) (fun hic => ?_) (fun hic => ?_)
      · refine G_iconst (v := 0) dX3_compare_37 (by decide) ?_
        exact G_ret (v := some (.int _)) ⟨dX3_compare_38, _, rfl, rfl⟩ ⟨rfl, Or.inl ⟨fun j hj => hlt j (by omega), rfl⟩⟩
      refine G_aload_n dX3_compare_7 rfl ?_
      refine G_iload_n dX3_compare_8 rfl ?_
      refine G_ialdN i dX3_compare_9 rfl rfl (by omega) (by omega) ?_
      refine G_aload_n dX3_compare_10 rfl ?_
      refine G_iload_n dX3_compare_11 rfl ?_
      refine G_ialdN i dX3_compare_12 rfl rfl (by omega) (by omega) ?_
      refine G_icmp_eq (tgt := 31) dX3_compare_13 (by decide) (fun h1 => ?_) (fun h1 => ?_)
      · refine G_iinc (L' := [_, _, _, _]) (v := nI (i + 1)) dX3_compare_31 rfl (nI_succ i).symm rfl ?_
        refine G_goto (tgt := 2) dX3_compare_34 (by decide) ?_
        refine ih (c - (i + 1)) (by omega) (i + 1) rfl (by omega) (fun j hj => ?_)
        rcases Nat.lt_or_ge j i with q | q
        · exact hlt j q
        · rw [show j = i by omega]; exact h1
      refine G_aload_n dX3_compare_16 rfl ?_
      refine G_iload_n dX3_compare_17 rfl ?_
      refine G_ialdN i dX3_compare_18 rfl rfl (by omega) (by omega) ?_
      refine G_aload_n dX3_compare_19 rfl ?_
      refine G_iload_n dX3_compare_20 rfl ?_
      refine G_ialdN i dX3_compare_21 rfl rfl (by omega) (by omega) ?_
      refine G_icmp_ge (tgt := 29) dX3_compare_22 (by decide) (fun h2 => ?_) (fun h2 => ?_)
      · refine G_iconst (v := 1) dX3_compare_29 (by decide) ?_
        refine G_ret (v := some (.int _)) ⟨dX3_compare_30, _, rfl, rfl⟩ ⟨rfl, Or.inr (Or.inr ⟨⟨i, hic, hlt, ?_⟩, rfl⟩)⟩
        rcases Int32.lt_or_eq_of_le h2 with q | q
        · exact q
        · exact absurd q.symm h1
      refine G_iconst (v := (-1)) dX3_compare_25 (by decide) ?_
      refine G_goto (tgt := 30) dX3_compare_26 (by decide) ?_
      exact G_ret (v := some (.int _)) ⟨dX3_compare_30, _, rfl, rfl⟩ ⟨rfl, Or.inr (Or.inl ⟨⟨i, hic, hlt, Int32.not_le.mp h2⟩, rfl⟩)⟩
  exact loop 0 (by omega) (fun j hj => by omega)
/-- the greatest number at which two namings differ -/
def gdf (p q : Nat → Nat) : Nat → Nat
  | 0 => 0
  | b + 1 => if p b = q b then gdf p q b else max (gdf p q b) (p b)
theorem gdf_le {p q : Nat → Nat} {m : Nat} : ∀ {n : Nat}, (∀ b, b < n → p b ≤ m) → gdf p q n ≤ m
  | 0, _ => Nat.zero_le _
  | n + 1, h => by
    have h1 := gdf_le (p := p) (q := q) (m := m) (n := n) (fun b hb => h b (by omega))
    have h2 := h n (by omega)
    unfold gdf
    split <;> omega
set_option maxRecDepth 20000 in
theorem con_greatestDifference (d nb : Nat) (hn : nb ≤ 8) (f g : Nat → Int32) (p q : Nat → Nat) (hf : ∀ j, j < nb → f j = nI (p j) ∧ p j ≤ 8) (hg : ∀ j, j < nb → g j = nI (q j) ∧ q j ≤ 8) (fd : Int32) (t1 : Nat) : Con mX3_greatestDifference (d + 1) 0 0 [.inr (4, [.ref 101, .ref 102, .ref t1, .int fd]), cI 8 f, cI 8 g] [.ref 100, .int (nI nb)] (fun w' v => w' = [.inr (4, [.ref 101, .ref 102, .ref t1, .int fd]), cI 8 f, cI 8 g] ∧ v = some (.int (nI (gdf p q nb)))) := by
  refine Con.of (ab_okc rfl (by decide)) (Nat.le_of_ble_eq_true rfl) ?_
  show G ab_x0 mX3_greatestDifference (d + 1) 0 0 _ 0 [some (.ref 100), some (.int (nI nb)), none, none] [] _
  refine G_iconst (v := 0) dX3_greatestDifference_0 (by decide) ?_
  refine G_istore_n (L' := [_, _, _, _]) dX3_greatestDifference_1 (Nat.le_of_ble_eq_true rfl) rfl ?_
  refine G_iconst (v := 0) dX3_greatestDifference_2 (by decide) ?_
  refine G_istore_n (L' := [_, _, _, _]) dX3_greatestDifference_3 (Nat.le_of_ble_eq_true rfl) rfl ?_
  have loop : ∀ (b : Nat), b ≤ nb → G ab_x0 mX3_greatestDifference (d + 1) 0 0 (fun w' v => w' = [.inr (4, [.ref 101, .ref 102, .ref t1, .int fd]), cI 8 f, cI 8 g] ∧ v = some (.int (nI (gdf p q nb)))) 4 [some (.ref 100), some (.int (nI nb)), some (.int (nI (gdf p q b))), some (.int (nI b))] [] [.inr (4, [.ref 101, .ref 102, .ref t1, .int fd]), cI 8 f, cI 8 g] := by
    intro b
    induction hm : nb - b using Nat.strongRecOn generalizing b with
    | ind m ih =>
      subst hm
      intro hb
      have hgl := gdf_le (p := p) (q := q) (m := 8) (n := b) (fun c hc => (hf c (by omega)).2)
      refine G_iload_n dX3_greatestDifference_4 rfl ?_
      refine G_iload_n dX3_greatestDifference_5 rfl ?_
      refine G_icmp_geN (tgt := 41) b nb dX3_greatestDifference_6 (by decide) rfl rfl (by omega) (by omega) (fun hge => ?_) (fun hlt => ?_)
      · have e : b = nb := by omega
        subst e
        refine G_iload_n dX3_greatestDifference_41 rfl ?_
        exact G_ret (v := some (.int _)) ⟨dX3_greatestDifference_42, _, rfl, rfl⟩ ⟨rfl, rfl⟩
      obtain ⟨a1, a2⟩ := hf b hlt
      obtain ⟨b1, b2⟩ := hg b hlt
      refine G_aload_n dX3_greatestDifference_9 rfl ?_
      refine G_get (f := 0) kc4 dX3_greatestDifference_10 fX3_9 (by decide) rfl rfl ?_
      refine G_iload_n dX3_greatestDifference_13 rfl ?_
      refine G_ialdN b dX3_greatestDifference_14 rfl rfl (by omega) (by omega) ?_
      rw [a1]
      refine G_aload_n dX3_greatestDifference_15 rfl ?_
      refine G_get (f := 1) kc4 dX3_greatestDifference_16 fX3_15 (by decide) rfl rfl ?_
      refine G_iload_n dX3_greatestDifference_19 rfl ?_
      refine G_ialdN b dX3_greatestDifference_20 rfl rfl (by omega) (by omega) ?_
      rw [b1]
      have nxt : ∀ x, x = gdf p q (b + 1) → G ab_x0 mX3_greatestDifference (d + 1) 0 0 (fun w' v => w' = [.inr (4, [.ref 101, .ref 102, .ref t1, .int fd]), cI 8 f, cI 8 g] ∧ v = some (.int (nI (gdf p q nb)))) 35 [some (.ref 100), some (.int (nI nb)), some (.int (nI x)), some (.int (nI b))] [] [.inr (4, [.ref 101, .ref 102, .ref t1, .int fd]), cI 8 f, cI 8 g] := by
        intro x hx
        refine G_iinc (L' := [_, _, _, _]) (v := nI (b + 1)) dX3_greatestDifference_35 rfl (nI_succ b).symm rfl ?_
        refine G_goto (tgt := 4) dX3_greatestDifference_38 (by decide) ?_
        rw [hx]
        exact ih (nb - (b + 1)) (by omega) (b + 1) rfl (by omega)
      refine G_icmp_eqN (tgt := 35) (p b) (q b) dX3_greatestDifference_21 (by decide) rfl rfl (by omega) (by omega) (fun h => nxt _ ?_) (fun h => ?_)
      · show _ = if p b = q b then _ else _
        rw [if_pos h]
      refine G_iload_n dX3_greatestDifference_24 rfl ?_
      refine G_aload_n dX3_greatestDifference_25 rfl ?_
      refine G_get (f := 0) kc4 dX3_greatestDifference_26 fX3_9 (by decide) rfl rfl ?_
      refine G_iload_n dX3_greatestDifference_29 rfl ?_
      refine G_ialdN b dX3_greatestDifference_30 rfl rfl (by omega) (by omega) ?_
      rw [a1]
      refine G_max dX3_greatestDifference_31 uX3_78 rfl (Nat.le_of_ble_eq_true rfl) ?_
      refine G_topi (y := nI (max (gdf p q b) (p b))) ?_ ?_
      · by_cases hc : gdf p q b < p b
        · rw [if_pos (nI_lt hc (by omega)), Nat.max_eq_right (by omega)]
        · rw [if_neg (nI_nlt (by omega) (by omega)), Nat.max_eq_left (by omega)]
      refine G_istore_n (L' := [_, _, _, _]) dX3_greatestDifference_34 (Nat.le_of_ble_eq_true rfl) rfl ?_
      refine nxt _ ?_
      show _ = if p b = q b then _ else _
      rw [if_neg h]
  exact loop 0 (by omega)
set_option maxRecDepth 20000 in
set_option maxHeartbeats 4000000 in
theorem con_settle (d nb nt : Nat) (hn : nb ≤ 8) (hnt : nt ≤ 40) (or_ : Int32) (f g tr K : Nat → Int32) (p q : Nat → Nat) (hf : ∀ j, j < nb → f j = nI (p j) ∧ p j ≤ 8) (hg : or_ = 0 → ∀ j, j < nb → g j = nI (q j) ∧ q j ≤ 8) (fd tv bv hs ro hs' ro' : Int32) (t1 t2 t3 : Nat) : Con mX3_settle (d + 2) 0 0 [.inr (4, [.ref 101, .ref 102, .ref 103, .int fd]), cI 8 f, cI 8 g, cI 40 tr, .inr (1, [.ref t1, .int (nI nb), .int tv, .int hs, .int ro, .ref t2]), .inr (1, [.ref 106, .int bv, .int (nI nt), .int hs', .int ro', .ref t3]), cI 40 K] [.ref 100, .ref 104, .ref 105, .int or_] (fun w' v => (or_ < 0 ∧ w' = [.inr (4, [.ref 101, .ref 102, .ref 103, .int 1]), cI 8 f, cI 8 (va_cpy f g 0 0 nb), cI 40 tr, .inr (1, [.ref t1, .int (nI nb), .int tv, .int hs, .int ro, .ref t2]), .inr (1, [.ref 106, .int bv, .int (nI nt), .int hs', .int ro', .ref t3]), cI 40 (va_cpy tr K 0 0 nt)] ∧ v = some (.int 0)) ∨ (or_ = 0 ∧ w' = [.inr (4, [.ref 101, .ref 102, .ref 103, .int fd]), cI 8 f, cI 8 g, cI 40 tr, .inr (1, [.ref t1, .int (nI nb), .int tv, .int hs, .int ro, .ref t2]), .inr (1, [.ref 106, .int bv, .int (nI nt), .int hs', .int ro', .ref t3]), cI 40 K] ∧ v = some (.int (nI (gdf p q nb)))) ∨ (0 < or_ ∧ w' = [.inr (4, [.ref 101, .ref 102, .ref 103, .int fd]), cI 8 f, cI 8 g, cI 40 tr, .inr (1, [.ref t1, .int (nI nb), .int tv, .int hs, .int ro, .ref t2]), .inr (1, [.ref 106, .int bv, .int (nI nt), .int hs', .int ro', .ref t3]), cI 40 K] ∧ v = some (.int 0))) := by
  refine Con.of (ab_okc rfl (by decide)) (Nat.le_of_ble_eq_true rfl) ?_
  show G ab_x0 mX3_settle (d + 2) 0 0 _ 0 [some (.ref 100), some (.ref 104), some (.ref 105), some (.int or_)] [] _
  have e0 : (0 : Int32).toNatClampNeg = 0 := by decide
  have e1 : (nI nt).toNatClampNeg = nt := nI_clamp (by omega)
  have e2 : (nI nb).toNatClampNeg = nb := nI_clamp (by omega)
  refine G_iload_n dX3_settle_0 rfl ?_
  refine G_if_ge (tgt := 43) dX3_settle_1 (by decide) (fun h => ?_) (fun h => ?_)
  · refine G_iload_n dX3_settle_43 rfl ?_
    refine G_if_ne (tgt := 58) dX3_settle_44 (by decide) (fun h2 => ?_) (fun h2 => ?_)
    · refine G_iconst (v := 0) dX3_settle_58 (by decide) ?_
      refine G_ret (v := some (.int _)) ⟨dX3_settle_59, _, rfl, rfl⟩ (Or.inr (Or.inr ⟨?_, rfl, rfl⟩))
      rcases Int32.lt_or_eq_of_le h with q | q
      · exact q
      · exact absurd q.symm h2
    refine G_aload_n dX3_settle_47 rfl ?_
    refine G_aload_n dX3_settle_48 rfl ?_
    refine G_get (f := 1) kc1 dX3_settle_49 fX3_25 (by decide) rfl rfl ?_
    refine G_V (is := [0, 1, 2]) (fo := [103]) (as := [.ref 100, .int (nI nb)]) (as' := [.int (nI nb)]) (st := []) (k := 0) (n := 0) cX3_settle_52 (con_greatestDifference d nb hn f g p q hf (hg h2) fd 4) ab_pfx rfl (by decide) rfl rfl rfl rfl rfl rfl (Nat.le_of_ble_eq_true rfl) dX3_settle_52 (fun w' v h => by rw [h.1]) (fun w2 v2 hq => ?_)
    obtain ⟨rfl, rfl⟩ := hq
    refine G_w (st' := [.int (nI (gdf p q nb))]) (w' := [.inr (4, [.ref 101, .ref 102, .ref 103, .int fd]), cI 8 f, cI 8 g, cI 40 tr, .inr (1, [.ref t1, .int (nI nb), .int tv, .int hs, .int ro, .ref t2]), .inr (1, [.ref 106, .int bv, .int (nI nt), .int hs', .int ro', .ref t3]), cI 40 K]) rfl rfl ?_
    refine G_goto (tgt := 59) dX3_settle_55 (by decide) ?_
    exact G_ret (v := some (.int _)) ⟨dX3_settle_59, _, rfl, rfl⟩ (Or.inr (Or.inl ⟨h2, rfl, rfl⟩))
  · have h : or_ < 0 := Int32.not_le.mp h
    refine G_aload_n dX3_settle_4 rfl ?_
    refine G_get (f := 2) kc4 dX3_settle_5 fX3_18 (by decide) rfl rfl ?_
    refine G_iconst (v := 0) dX3_settle_8 (by decide) ?_
    refine G_aload_n dX3_settle_9 rfl ?_
    refine G_get (f := 0) kc1 dX3_settle_10 fX3_54 (by decide) rfl rfl ?_
    refine G_iconst (v := 0) dX3_settle_13 (by decide) ?_
    refine G_aload_n dX3_settle_14 rfl ?_
    refine G_get (f := 2) kc1 dX3_settle_15 fX3_31 (by decide) rfl rfl ?_
    refine G_copy (j0 := 3) (j1 := 6) (w1 := [_, _, _, _, _, _, _]) dX3_settle_18 uX3_68 rfl (Nat.le_of_ble_eq_true rfl) rfl rfl (by decide) (by decide) (nI_pos (by omega)) (by rw [e1, e0]; omega) (by rw [e1, e0]; omega) rfl ?_
    rw [e1, e0]
    refine G_aload_n dX3_settle_21 rfl ?_
    refine G_get (f := 0) kc4 dX3_settle_22 fX3_9 (by decide) rfl rfl ?_
    refine G_iconst (v := 0) dX3_settle_25 (by decide) ?_
    refine G_aload_n dX3_settle_26 rfl ?_
    refine G_get (f := 1) kc4 dX3_settle_27 fX3_15 (by decide) rfl rfl ?_
    refine G_iconst (v := 0) dX3_settle_30 (by decide) ?_
    refine G_aload_n dX3_settle_31 rfl ?_
    refine G_get (f := 1) kc1 dX3_settle_32 fX3_25 (by decide) rfl rfl ?_
    refine G_copy (j0 := 1) (j1 := 2) (w1 := [_, _, _, _, _, _, _]) dX3_settle_35 uX3_68 rfl (Nat.le_of_ble_eq_true rfl) rfl rfl (by decide) (by decide) (nI_pos (by omega)) (by rw [e2, e0]; omega) (by rw [e2, e0]; omega) rfl ?_
    rw [e2, e0]
    refine G_aload_n dX3_settle_38 rfl ?_
    refine G_iconst (v := 1) dX3_settle_39 (by decide) ?_
    refine G_put (w' := [_, _, _, _, _, _, _]) (f := 3) kc4 dX3_settle_40 fX3_21 (by decide) rfl (by decide) (by decide) rfl (Nat.le_of_ble_eq_true rfl) rfl ?_
    refine G_iload_n dX3_settle_43 rfl ?_
    refine G_if_ne (tgt := 58) dX3_settle_44 (by decide) (fun h2 => ?_) (fun h2 => absurd h (by rw [h2]; decide))
    refine G_iconst (v := 0) dX3_settle_58 (by decide) ?_
    exact G_ret (v := some (.int _)) ⟨dX3_settle_59, _, rfl, rfl⟩ (Or.inl ⟨h, rfl, rfl⟩)
