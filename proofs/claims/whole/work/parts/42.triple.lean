/-! CanonNames.triple, drop -/
def pq (x : Int32) : Nat := (x.toInt + 8).toNat
def keyN (s p o : Int32) : Nat := (pq s * 1024 + pq p) * 1024 + pq o
theorem ptB_pq {nb : Nat} {x : Int32} (hn : nb ≤ 8) (h : ptB nb x = true) : x + 8 = nI (pq x) ∧ pq x < 1009 := by
  have h1 : (x.toInt < 0 ∧ -(nb : Int) ≤ x.toInt) ∨ (1 ≤ x.toInt ∧ x.toInt ≤ 1000) := of_decide_eq_true h
  have h8 : (8 : Int32).toInt = 8 := rfl
  have e : (x + 8).toInt = x.toInt + 8 := by
    rw [Int32.toInt_add, h8]
    exact Int.bmod_eq_of_le (by omega) (by omega)
  unfold pq
  refine ⟨?_, by omega⟩
  have := nI_rng (x := x + 8) (by omega)
  rw [e] at this
  exact this
theorem key_eq {nb : Nat} {s p o : Int32} (hn : nb ≤ 8) (h1 : ptB nb s = true) (h2 : ptB nb p = true) (h3 : ptB nb o = true) : (((s + 8) <<< ((20 : Int32) &&& 31)) ||| ((p + 8) <<< ((10 : Int32) &&& 31)) ||| (o + 8)) = nI (keyN s p o) := by
  obtain ⟨e1, l1⟩ := ptB_pq hn h1
  obtain ⟨e2, l2⟩ := ptB_pq hn h2
  obtain ⟨e3, l3⟩ := ptB_pq hn h3
  rw [e1, e2, e3, pk_shlN _ 20 (by decide) (by omega), pk_shlN _ 10 (by decide) (by omega), nI_or]
  rw [show pq s * 2 ^ 20 ||| pq p * 2 ^ 10 = (pq s * 1024 + pq p) * 1024 by
    rw [Nat.mul_comm (pq s), ← Nat.two_pow_add_eq_or_of_lt (by omega)]; omega, nI_orA (by omega)]
  rfl
theorem bi_eq1 {b : Bool} : bi b ≠ 0 ↔ b = true := by cases b <;> decide
set_option maxRecDepth 20000 in
set_option maxHeartbeats 2000000 in
theorem con_triple (d : Nat) (a0 a1 a2 a3 a4 a5 : Nat) (kc : Int32) (nb nt : Nat) (hnb : nb ≤ 8) (hnt : nt ≤ 40) (s p o hs ro : Int32) (t2 : Nat) (f : Nat → Int32) (hf : ∀ i j, i < j → j < nt → f i < f j) : Con mX7_triple (d + 2) 0 0 [c7 a0 a1 a2 a3 a4 a5 kc 101, cG 102 nb nt hs ro (.ref t2), cI 40 f] [.ref 100, .int s, .int p, .int o] (fun w' v => ((ptB nb s && ptB nb p && ptB nb o) = false ∧ w' = [c7 a0 a1 a2 a3 a4 a5 kc 101, cG 102 nb nt hs ro (.ref t2), cI 40 f] ∧ v = some (.int (-1))) ∨ ((ptB nb s && ptB nb p && ptB nb o) = true ∧ (∃ i, i < nt ∧ f i = nI (keyN s p o)) ∧ w' = [c7 a0 a1 a2 a3 a4 a5 kc 101, cG 102 nb nt hs ro (.ref t2), cI 40 f] ∧ v = some (.int 0)) ∨ ((ptB nb s && ptB nb p && ptB nb o) = true ∧ (¬ (∃ i, i < nt ∧ f i = nI (keyN s p o))) ∧ 40 ≤ nt ∧ w' = [c7 a0 a1 a2 a3 a4 a5 kc 101, cG 102 nb nt hs ro (.ref t2), cI 40 f] ∧ v = some (.int (-2))) ∨ ((ptB nb s && ptB nb p && ptB nb o) = true ∧ (¬ (∃ i, i < nt ∧ f i = nI (keyN s p o))) ∧ nt < 40 ∧ ∃ g, w' = [c7 a0 a1 a2 a3 a4 a5 kc 101, cG 102 nb (nt + 1) 0 ro (.ref t2), cI 40 g] ∧ (∀ i j, i < j → j < nt + 1 → g i < g j) ∧ (∀ y, (∃ i, i < nt + 1 ∧ g i = y) ↔ y = nI (keyN s p o) ∨ ∃ i, i < nt ∧ f i = y) ∧ v = some (.int 1))) := by
  refine Con.of (ab_okc rfl (by decide)) (Nat.le_of_ble_eq_true rfl) ?_
  show G ab_x0 mX7_triple (d + 1 + 1) 0 0 _ 0 [some (.ref 100), some (.int s), some (.int p), some (.int o), none] [] _
  refine G_aload_n dX7_triple_0 rfl ?_
  refine G_get (f := 6) kc8 dX7_triple_1 fX7_48 (by decide) rfl rfl ?_
  refine G_iload_n dX7_triple_4 rfl ?_
  refine G_iload_n dX7_triple_5 rfl ?_
  refine G_iload_n dX7_triple_6 rfl ?_
  refine G_V (is := [1]) (fo := [102, t2]) (as := [.ref 100, .int s, .int p, .int o]) (as' := [.int s, .int p, .int o]) (st := []) (k := 0) (n := 0) cX7_triple_7 (con_hasPoints d nb nt hnb s p o hs ro 4 5) ab_pfx rfl (by decide) rfl rfl rfl rfl rfl rfl (Nat.le_of_ble_eq_true rfl) dX7_triple_7 (fun w' v h => by rw [h.1]) (fun w2 v2 hq => ?_)
  obtain ⟨rfl, rfl⟩ := hq
  refine G_w (st' := [.int (bi (ptB nb s && ptB nb p && ptB nb o))]) (w' := [c7 a0 a1 a2 a3 a4 a5 kc 101, cG 102 nb nt hs ro (.ref t2), cI 40 f]) rfl rfl ?_
  refine G_if_ne (tgt := 15) dX7_triple_10 (by decide) (fun h => ?_) (fun h => ?_)
  rotate_left
  · have hp : (ptB nb s && ptB nb p && ptB nb o) = false := by
      cases q : (ptB nb s && ptB nb p && ptB nb o)
      · rfl
      · rw [q] at h; exact absurd h (by decide)
    refine G_iconst (v := -1) dX7_triple_13 (by decide) ?_
    exact G_ret (v := some (.int _)) ⟨dX7_triple_14, _, rfl, rfl⟩ (Or.inl ⟨hp, rfl, rfl⟩)
  have hp : (ptB nb s && ptB nb p && ptB nb o) = true := bi_eq1.mp h
  have hp2 : (ptB nb s = true ∧ ptB nb p = true) ∧ ptB nb o = true := by
    rw [Bool.and_eq_true, Bool.and_eq_true] at hp
    exact hp
  refine G_iload_n dX7_triple_15 rfl ?_
  refine G_iload_n dX7_triple_16 rfl ?_
  refine G_iload_n dX7_triple_17 rfl ?_
  refine G_S (is := []) (fo := []) (as := [.int s, .int p, .int o]) (as' := [.int s, .int p, .int o]) (st := []) (k := 0) (n := 0) cX7_triple_18 (con_keyOf (d + 1) s p o) ab_pfx rfl (by decide) rfl rfl rfl rfl (Nat.le_of_ble_eq_true rfl) dX7_triple_18 (fun w' v h => by rw [h.1]) (fun w2 v2 hq => ?_)
  obtain ⟨rfl, rfl⟩ := hq
  rw [key_eq hnb hp2.1.1 hp2.1.2 hp2.2]
  refine G_w (st' := [.int (nI (keyN s p o))]) (w' := [c7 a0 a1 a2 a3 a4 a5 kc 101, cG 102 nb nt hs ro (.ref t2), cI 40 f]) rfl rfl ?_
  refine G_istore (L' := [_, _, _, _, _]) dX7_triple_21 (Nat.le_of_ble_eq_true rfl) rfl ?_
  refine G_aload_n dX7_triple_23 rfl ?_
  refine G_get (f := 6) kc8 dX7_triple_24 fX7_48 (by decide) rfl rfl ?_
  refine G_iload dX7_triple_27 rfl ?_
  refine G_V (is := [1, 2]) (fo := [t2]) (as := [.ref 100, .int (nI (keyN s p o))]) (as' := [.int (nI (keyN s p o))]) (st := []) (k := 0) (n := 0) cX7_triple_29 (con_holds d nb nt hnt (nI (keyN s p o)) hs ro (.ref 4) f hf) ab_pfx rfl (by decide) rfl rfl rfl rfl rfl rfl (Nat.le_of_ble_eq_true rfl) dX7_triple_29 (fun w' v h => by rw [h.1]) (fun w2 v2 hq => ?_)
  obtain ⟨rfl, hq⟩ := hq
  rcases hq with ⟨hho, rfl⟩ | ⟨hno, rfl⟩
  · refine G_w (st' := [.int 1]) (w' := [c7 a0 a1 a2 a3 a4 a5 kc 101, cG 102 nb nt hs ro (.ref t2), cI 40 f]) rfl rfl ?_
    refine G_if_eq (tgt := 37) dX7_triple_32 (by decide) (fun h => absurd h (by decide)) (fun _ => ?_)
    refine G_iconst (v := 0) dX7_triple_35 (by decide) ?_
    exact G_ret (v := some (.int _)) ⟨dX7_triple_36, _, rfl, rfl⟩ (Or.inr (Or.inl ⟨hp, hho, rfl, rfl⟩))
  · refine G_w (st' := [.int 0]) (w' := [c7 a0 a1 a2 a3 a4 a5 kc 101, cG 102 nb nt hs ro (.ref t2), cI 40 f]) rfl rfl ?_
    refine G_if_eq (tgt := 37) dX7_triple_32 (by decide) (fun _ => ?_) (fun h => absurd rfl h)
    refine G_aload_n dX7_triple_37 rfl ?_
    refine G_get (f := 6) kc8 dX7_triple_38 fX7_48 (by decide) rfl rfl ?_
    refine G_get (f := 2) kc1 dX7_triple_41 fX7_71 (by decide) rfl rfl ?_
    refine G_bipush (v := 40) dX7_triple_44 (by decide) ?_
    refine G_icmp_ltN (tgt := 52) nt 40 dX7_triple_46 (by decide) rfl rfl (by omega) (by omega) (fun h4 => ?_) (fun h4 => ?_)
    · skip
      refine G_aload_n dX7_triple_52 rfl ?_
      refine G_get (f := 6) kc8 dX7_triple_53 fX7_48 (by decide) rfl rfl ?_
      refine G_iload dX7_triple_56 rfl ?_
      refine G_V (is := [1, 2]) (fo := [t2]) (as := [.ref 100, .int (nI (keyN s p o))]) (as' := [.int (nI (keyN s p o))]) (st := []) (k := 0) (n := 0) cX7_triple_58 (con_insert d nb nt h4 (nI (keyN s p o)) hs ro (.ref 4) f hf hno) ab_pfx rfl (by decide) rfl rfl rfl rfl rfl rfl (Nat.le_of_ble_eq_true rfl) dX7_triple_58 (fun w' v h => by obtain ⟨_, _, h, _⟩ := h; rw [h]; exact (rfl : (2 : Nat) = 2)) (fun w2 v2 hq => ?_)
      obtain ⟨rfl, g, rfl, hg1, hg2⟩ := hq
      refine G_w (st' := []) (w' := [c7 a0 a1 a2 a3 a4 a5 kc 101, cG 102 nb (nt + 1) 0 ro (.ref t2), cI 40 g]) rfl rfl ?_
      refine G_iconst (v := 1) dX7_triple_61 (by decide) ?_
      exact G_ret (v := some (.int _)) ⟨dX7_triple_62, _, rfl, rfl⟩ (Or.inr (Or.inr (Or.inr ⟨hp, hno, h4, g, rfl, hg1, hg2, rfl⟩)))
    · refine G_bipush (v := -2) dX7_triple_49 (by decide) ?_
      exact G_ret (v := some (.int _)) ⟨dX7_triple_51, _, rfl, rfl⟩ (Or.inr (Or.inr (Or.inl ⟨hp, hno, by omega, rfl, rfl⟩)))
set_option maxRecDepth 20000 in
set_option maxHeartbeats 2000000 in
theorem con_drop (d : Nat) (a0 a1 a2 a3 a4 a5 : Nat) (kc : Int32) (nb nt : Nat) (hnb : nb ≤ 8) (hnt : nt ≤ 40) (s p o hs ro : Int32) (t2 : Nat) (f : Nat → Int32) (hf : ∀ i j, i < j → j < nt → f i < f j) : Con mX7_drop (d + 2) 0 0 [c7 a0 a1 a2 a3 a4 a5 kc 101, cG 102 nb nt hs ro (.ref t2), cI 40 f] [.ref 100, .int s, .int p, .int o] (fun w' v => ((ptB nb s && ptB nb p && ptB nb o) = false ∧ w' = [c7 a0 a1 a2 a3 a4 a5 kc 101, cG 102 nb nt hs ro (.ref t2), cI 40 f] ∧ v = some (.int 0)) ∨ ((ptB nb s && ptB nb p && ptB nb o) = true ∧ (¬ (∃ i, i < nt ∧ f i = nI (keyN s p o))) ∧ w' = [c7 a0 a1 a2 a3 a4 a5 kc 101, cG 102 nb nt hs ro (.ref t2), cI 40 f] ∧ v = some (.int 0)) ∨ ((ptB nb s && ptB nb p && ptB nb o) = true ∧ (∃ i, i < nt ∧ f i = nI (keyN s p o)) ∧ ∃ g, w' = [c7 a0 a1 a2 a3 a4 a5 kc 101, cG 102 nb (nt - 1) 0 ro (.ref t2), cI 40 g] ∧ (∀ i j, i < j → j < nt - 1 → g i < g j) ∧ (∀ y, (∃ i, i < nt - 1 ∧ g i = y) ↔ y ≠ nI (keyN s p o) ∧ ∃ i, i < nt ∧ f i = y) ∧ v = some (.int 1))) := by
  refine Con.of (ab_okc rfl (by decide)) (Nat.le_of_ble_eq_true rfl) ?_
  show G ab_x0 mX7_drop (d + 1 + 1) 0 0 _ 0 [some (.ref 100), some (.int s), some (.int p), some (.int o), none] [] _
  refine G_aload_n dX7_drop_0 rfl ?_
  refine G_get (f := 6) kc8 dX7_drop_1 fX7_48 (by decide) rfl rfl ?_
  refine G_iload_n dX7_drop_4 rfl ?_
  refine G_iload_n dX7_drop_5 rfl ?_
  refine G_iload_n dX7_drop_6 rfl ?_
  refine G_V (is := [1]) (fo := [102, t2]) (as := [.ref 100, .int s, .int p, .int o]) (as' := [.int s, .int p, .int o]) (st := []) (k := 0) (n := 0) cX7_drop_7 (con_hasPoints d nb nt hnb s p o hs ro 4 5) ab_pfx rfl (by decide) rfl rfl rfl rfl rfl rfl (Nat.le_of_ble_eq_true rfl) dX7_drop_7 (fun w' v h => by rw [h.1]) (fun w2 v2 hq => ?_)
  obtain ⟨rfl, rfl⟩ := hq
  refine G_w (st' := [.int (bi (ptB nb s && ptB nb p && ptB nb o))]) (w' := [c7 a0 a1 a2 a3 a4 a5 kc 101, cG 102 nb nt hs ro (.ref t2), cI 40 f]) rfl rfl ?_
  refine G_if_ne (tgt := 15) dX7_drop_10 (by decide) (fun h => ?_) (fun h => ?_)
  rotate_left
  · have hp : (ptB nb s && ptB nb p && ptB nb o) = false := by
      cases q : (ptB nb s && ptB nb p && ptB nb o)
      · rfl
      · rw [q] at h; exact absurd h (by decide)
    refine G_iconst (v := 0) dX7_drop_13 (by decide) ?_
    exact G_ret (v := some (.int _)) ⟨dX7_drop_14, _, rfl, rfl⟩ (Or.inl ⟨hp, rfl, rfl⟩)
  have hp : (ptB nb s && ptB nb p && ptB nb o) = true := bi_eq1.mp h
  have hp2 : (ptB nb s = true ∧ ptB nb p = true) ∧ ptB nb o = true := by
    rw [Bool.and_eq_true, Bool.and_eq_true] at hp
    exact hp
  refine G_iload_n dX7_drop_15 rfl ?_
  refine G_iload_n dX7_drop_16 rfl ?_
  refine G_iload_n dX7_drop_17 rfl ?_
  refine G_S (is := []) (fo := []) (as := [.int s, .int p, .int o]) (as' := [.int s, .int p, .int o]) (st := []) (k := 0) (n := 0) cX7_drop_18 (con_keyOf (d + 1) s p o) ab_pfx rfl (by decide) rfl rfl rfl rfl (Nat.le_of_ble_eq_true rfl) dX7_drop_18 (fun w' v h => by rw [h.1]) (fun w2 v2 hq => ?_)
  obtain ⟨rfl, rfl⟩ := hq
  rw [key_eq hnb hp2.1.1 hp2.1.2 hp2.2]
  refine G_w (st' := [.int (nI (keyN s p o))]) (w' := [c7 a0 a1 a2 a3 a4 a5 kc 101, cG 102 nb nt hs ro (.ref t2), cI 40 f]) rfl rfl ?_
  refine G_istore (L' := [_, _, _, _, _]) dX7_drop_21 (Nat.le_of_ble_eq_true rfl) rfl ?_
  refine G_aload_n dX7_drop_23 rfl ?_
  refine G_get (f := 6) kc8 dX7_drop_24 fX7_48 (by decide) rfl rfl ?_
  refine G_iload dX7_drop_27 rfl ?_
  refine G_V (is := [1, 2]) (fo := [t2]) (as := [.ref 100, .int (nI (keyN s p o))]) (as' := [.int (nI (keyN s p o))]) (st := []) (k := 0) (n := 0) cX7_drop_29 (con_holds d nb nt hnt (nI (keyN s p o)) hs ro (.ref 4) f hf) ab_pfx rfl (by decide) rfl rfl rfl rfl rfl rfl (Nat.le_of_ble_eq_true rfl) dX7_drop_29 (fun w' v h => by rw [h.1]) (fun w2 v2 hq => ?_)
  obtain ⟨rfl, hq⟩ := hq
  rcases hq with ⟨hho, rfl⟩ | ⟨hno, rfl⟩
  · refine G_w (st' := [.int 1]) (w' := [c7 a0 a1 a2 a3 a4 a5 kc 101, cG 102 nb nt hs ro (.ref t2), cI 40 f]) rfl rfl ?_
    refine G_if_ne (tgt := 37) dX7_drop_32 (by decide) (fun _ => ?_) (fun h => absurd h (by decide))
    refine G_aload_n dX7_drop_37 rfl ?_
    refine G_get (f := 6) kc8 dX7_drop_38 fX7_48 (by decide) rfl rfl ?_
    refine G_iload dX7_drop_41 rfl ?_
    refine G_V (is := [1, 2]) (fo := [t2]) (as := [.ref 100, .int (nI (keyN s p o))]) (as' := [.int (nI (keyN s p o))]) (st := []) (k := 0) (n := 0) cX7_drop_43 (con_remove d nb nt hnt (nI (keyN s p o)) hs ro (.ref 4) f hf hho) ab_pfx rfl (by decide) rfl rfl rfl rfl rfl rfl (Nat.le_of_ble_eq_true rfl) dX7_drop_43 (fun w' v h => by obtain ⟨_, _, h, _⟩ := h; rw [h]; exact (rfl : (2 : Nat) = 2)) (fun w2 v2 hq => ?_)
    obtain ⟨rfl, g, rfl, hg1, hg2⟩ := hq
    refine G_w (st' := []) (w' := [c7 a0 a1 a2 a3 a4 a5 kc 101, cG 102 nb (nt - 1) 0 ro (.ref t2), cI 40 g]) rfl rfl ?_
    refine G_iconst (v := 1) dX7_drop_46 (by decide) ?_
    exact G_ret (v := some (.int _)) ⟨dX7_drop_47, _, rfl, rfl⟩ (Or.inr (Or.inr ⟨hp, hho, g, rfl, hg1, hg2, rfl⟩))
  · refine G_w (st' := [.int 0]) (w' := [c7 a0 a1 a2 a3 a4 a5 kc 101, cG 102 nb nt hs ro (.ref t2), cI 40 f]) rfl rfl ?_
    refine G_if_ne (tgt := 37) dX7_drop_32 (by decide) (fun h => absurd rfl h) (fun _ => ?_)
    refine G_iconst (v := 0) dX7_drop_35 (by decide) ?_
    exact G_ret (v := some (.int _)) ⟨dX7_drop_36, _, rfl, rfl⟩ (Or.inr (Or.inl ⟨hp, hno, rfl, rfl⟩))
