/-! CanonNames' static methods on keys and rows. -/
theorem ab_ok7 {y : MethodName} {c : ByteArray} {n : Nat} {r : Option FieldType} (h : y.cls = RX7) : ab_ok (RX7, y, c, n, r) := ⟨by rw [show (RX7, y, c, n, r).2.1.cls = RX7 from h]; decide, h.symm⟩
/-- a place of a key -/
def kp (K p : Nat) : Nat := K / 2 ^ (10 * (2 - p)) % 1024
set_option maxRecDepth 20000 in
theorem con_keyOf (d : Nat) (s p o : Int32) : Con mX7_keyOf d 0 0 [] [.int s, .int p, .int o] (fun w' v => w' = [] ∧ v = some (.int (((s + 8) <<< ((20 : Int32) &&& 31)) ||| ((p + 8) <<< ((10 : Int32) &&& 31)) ||| (o + 8)))) := by
  refine Con.of (ab_ok7 rfl) (Nat.le_of_ble_eq_true rfl) ?_
  show G ab_x0 mX7_keyOf d 0 0 _ 0 [some (.int s), some (.int p), some (.int o), none, none, none] [] []
  refine G_iload_n dX7_keyOf_0 rfl ?_
  refine G_bipush (v := 8) dX7_keyOf_1 (by decide) ?_
  refine G_iadd dX7_keyOf_3 ?_
  refine G_istore_n (L' := [_, _, _, _, _, _]) dX7_keyOf_4 (Nat.le_of_ble_eq_true rfl) rfl ?_
  refine G_iload_n dX7_keyOf_5 rfl ?_
  refine G_bipush (v := 8) dX7_keyOf_6 (by decide) ?_
  refine G_iadd dX7_keyOf_8 ?_
  refine G_istore (L' := [_, _, _, _, _, _]) dX7_keyOf_9 (Nat.le_of_ble_eq_true rfl) rfl ?_
  refine G_iload_n dX7_keyOf_11 rfl ?_
  refine G_bipush (v := 8) dX7_keyOf_12 (by decide) ?_
  refine G_iadd dX7_keyOf_14 ?_
  refine G_istore (L' := [_, _, _, _, _, _]) dX7_keyOf_15 (Nat.le_of_ble_eq_true rfl) rfl ?_
  refine G_iload_n dX7_keyOf_17 rfl ?_
  refine G_bipush (v := 20) dX7_keyOf_18 (by decide) ?_
  refine G_ishl dX7_keyOf_20 ?_
  refine G_iload dX7_keyOf_21 rfl ?_
  refine G_bipush (v := 10) dX7_keyOf_23 (by decide) ?_
  refine G_ishl dX7_keyOf_25 ?_
  refine G_ior dX7_keyOf_26 ?_
  refine G_iload dX7_keyOf_27 rfl ?_
  refine G_ior dX7_keyOf_29 ?_
  exact G_ret (v := some (.int _)) ⟨dX7_keyOf_30, _, rfl, rfl⟩ ⟨rfl, rfl⟩
set_option maxRecDepth 20000 in
theorem con_partAt (d : Nat) (K p : Nat) (hK : K < 2 ^ 30) (hp : p < 3) : Con mX7_partAt d 0 0 [] [.int (nI K), .int (nI p)] (fun w' v => w' = [] ∧ v = some (.int (nI (kp K p)))) := by
  refine Con.of (ab_ok7 rfl) (Nat.le_of_ble_eq_true rfl) ?_
  show G ab_x0 mX7_partAt d 0 0 _ 0 [some (.int (nI K)), some (.int (nI p))] [] []
  refine G_iload_n dX7_partAt_0 rfl ?_
  refine G_bipush (v := 10) dX7_partAt_1 (by decide) ?_
  refine G_iconst (v := 2) dX7_partAt_3 (by decide) ?_
  refine G_iload_n dX7_partAt_4 rfl ?_
  refine G_isub dX7_partAt_5 ?_
  refine G_imul dX7_partAt_6 ?_
  refine G_ishr dX7_partAt_7 ?_
  refine G_sipush (v := 1023) dX7_partAt_8 (by decide) ?_
  refine G_iand dX7_partAt_11 ?_
  refine G_ret (v := some (.int _)) ⟨dX7_partAt_12, _, rfl, rfl⟩ ⟨rfl, ?_⟩
  have key : ∀ q, q < 3 → ((10 * (2 - nI q) &&& 31 : Int32).toBitVec.smod 32).toNat = 10 * (2 - q) := by decide
  rw [pk_shrN (by omega) _ _ (key p hp), pk_andN (by have := Nat.div_le_self K (2 ^ (10 * (2 - p))); omega) 10 (by decide)]
  rfl
set_option maxRecDepth 20000 in
theorem con_pointAt (d : Nat) (K p : Nat) (hK : K < 2 ^ 30) (hp : p < 3) : Con mX7_pointAt (d + 1) 0 0 [] [.int (nI K), .int (nI p)] (fun w' v => w' = [] ∧ v = some (.int (nI (kp K p) - 8))) := by
  refine Con.of (ab_ok7 rfl) (Nat.le_of_ble_eq_true rfl) ?_
  show G ab_x0 mX7_pointAt (d + 1) 0 0 _ 0 [some (.int (nI K)), some (.int (nI p))] [] []
  refine G_iload_n dX7_pointAt_0 rfl ?_
  refine G_iload_n dX7_pointAt_1 rfl ?_
  refine G_S (is := []) (fo := []) (as := [.int (nI K), .int (nI p)]) (as' := [.int (nI K), .int (nI p)]) (st := []) (k := 0) (n := 0) cX7_pointAt_2 (con_partAt d K p hK hp) ab_pfx rfl (by decide) rfl rfl rfl rfl (Nat.le_of_ble_eq_true rfl) dX7_pointAt_2 (fun w' v h => by rw [h.1]) (fun w2 v2 hq => ?_)
  obtain ⟨rfl, rfl⟩ := hq
  refine G_bipush (v := 8) dX7_pointAt_5 (by decide) ?_
  refine G_isub dX7_pointAt_7 ?_
  exact G_ret (v := some (.int _)) ⟨dX7_pointAt_8, _, rfl, rfl⟩ ⟨rfl, rfl⟩
set_option maxRecDepth 20000 in
theorem con_isIn (d : Nat) (x : Int32) (f : Nat → Int32) (N c : Nat) (hc : c ≤ N) (hN : N < 2 ^ 31) (hs : ∀ i j, i < j → j < c → f i < f j) : Con mX7_isIn d 0 0 [.inl (0, N, .inl f)] [.int x, .ref 100, .int (nI c)] (fun w' v => w' = [.inl (0, N, .inl f)] ∧ ((∃ i, i < c ∧ f i = x) ∧ v = some (.int 1) ∨ (¬ ∃ i, i < c ∧ f i = x) ∧ v = some (.int 0))) := by
  refine Con.of (ab_ok7 rfl) (Nat.le_of_ble_eq_true rfl) ?_
  show G ab_x0 mX7_isIn d 0 0 _ 0 [some (.int x), some (.ref 100), some (.int (nI c)), none] [] _
  refine G_iconst (v := 0) dX7_isIn_0 (by decide) ?_
  refine G_istore_n (L' := [_, _, _, _]) dX7_isIn_1 (Nat.le_of_ble_eq_true rfl) rfl ?_
  have loop : ∀ (i : Nat), i ≤ c → (∀ j, j < i → f j < x) → G ab_x0 mX7_isIn d 0 0 (fun w' v => w' = [.inl (0, N, .inl f)] ∧ ((∃ i, i < c ∧ f i = x) ∧ v = some (.int 1) ∨ (¬ ∃ i, i < c ∧ f i = x) ∧ v = some (.int 0))) 2 [some (.int x), some (.ref 100), some (.int (nI c)), some (.int (nI i))] [] [.inl (0, N, .inl f)] := by
    intro i
    induction hm : c - i using Nat.strongRecOn generalizing i with
    | ind m ih =>
      subst hm
      intro hi hlt
      refine G_iload_n dX7_isIn_2 rfl ?_
      refine G_iload_n dX7_isIn_3 rfl ?_
      refine G_icmp_geN (tgt := 33) i c dX7_isIn_4 (by decide) rfl rfl (by omega) (by omega) (fun hic => ?_) (fun hic => ?_)
      · refine G_iconst (v := 0) dX7_isIn_33 (by decide) ?_
        refine G_ret (v := some (.int _)) ⟨dX7_isIn_34, _, rfl, rfl⟩ ⟨rfl, Or.inr ⟨?_, rfl⟩⟩
        rintro ⟨j, h1, h2⟩
        have := hlt j (by omega)
        rw [h2] at this
        exact Int32.lt_irrefl this
      refine G_aload_n dX7_isIn_7 rfl ?_
      refine G_iload_n dX7_isIn_8 rfl ?_
      refine G_ialdN i dX7_isIn_9 rfl rfl (by omega) (by omega) ?_
      refine G_iload_n dX7_isIn_10 rfl ?_
      refine G_icmp_lt (tgt := 27) dX7_isIn_11 (by decide) (fun h1 => ?_) (fun h1 => ?_)
      · refine G_iinc (L' := [_, _, _, _]) (v := nI (i + 1)) dX7_isIn_27 rfl (nI_succ i).symm rfl ?_
        refine G_goto (tgt := 2) dX7_isIn_30 (by decide) ?_
        refine ih (c - (i + 1)) (by omega) (i + 1) rfl (by omega) (fun j hj => ?_)
        rcases Nat.lt_or_ge j i with q | q
        · exact hlt j q
        · rw [show j = i by omega]; exact h1
      refine G_aload_n dX7_isIn_14 rfl ?_
      refine G_iload_n dX7_isIn_15 rfl ?_
      refine G_ialdN i dX7_isIn_16 rfl rfl (by omega) (by omega) ?_
      refine G_iload_n dX7_isIn_17 rfl ?_
      refine G_icmp_ne (tgt := 25) dX7_isIn_18 (by decide) (fun h2 => ?_) (fun h2 => ?_)
      · refine G_iconst (v := 0) dX7_isIn_25 (by decide) ?_
        refine G_ret (v := some (.int _)) ⟨dX7_isIn_26, _, rfl, rfl⟩ ⟨rfl, Or.inr ⟨?_, rfl⟩⟩
        rintro ⟨j, h3, h4⟩
        rcases Nat.lt_trichotomy j i with q | q | q
        · have := hlt j q
          rw [h4] at this
          exact Int32.lt_irrefl this
        · subst q
          exact h2 h4
        · have := hs i j q h3
          rw [h4] at this
          exact h1 this
      · refine G_iconst (v := 1) dX7_isIn_21 (by decide) ?_
        refine G_goto (tgt := 26) dX7_isIn_22 (by decide) ?_
        exact G_ret (v := some (.int _)) ⟨dX7_isIn_26, _, rfl, rfl⟩ ⟨rfl, Or.inl ⟨⟨i, hic, h2⟩, rfl⟩⟩
  exact loop 0 (by omega) (fun j hj => by omega)
set_option maxRecDepth 20000 in
theorem con_placeFor (d : Nat) (x : Int32) (f : Nat → Int32) (N c : Nat) (hc : c ≤ N) (hN : N < 2 ^ 31) : Con mX7_placeFor d 0 0 [.inl (0, N, .inl f)] [.int x, .ref 100, .int (nI c)] (fun w' v => w' = [.inl (0, N, .inl f)] ∧ ∃ q, q ≤ c ∧ v = some (.int (nI q)) ∧ (∀ j, j < q → f j < x) ∧ (q < c → x ≤ f q)) := by
  refine Con.of (ab_ok7 rfl) (Nat.le_of_ble_eq_true rfl) ?_
  show G ab_x0 mX7_placeFor d 0 0 _ 0 [some (.int x), some (.ref 100), some (.int (nI c)), none] [] _
  refine G_iconst (v := 0) dX7_placeFor_0 (by decide) ?_
  refine G_istore_n (L' := [_, _, _, _]) dX7_placeFor_1 (Nat.le_of_ble_eq_true rfl) rfl ?_
  have loop : ∀ (i : Nat), i ≤ c → (∀ j, j < i → f j < x) → G ab_x0 mX7_placeFor d 0 0 (fun w' v => w' = [.inl (0, N, .inl f)] ∧ ∃ q, q ≤ c ∧ v = some (.int (nI q)) ∧ (∀ j, j < q → f j < x) ∧ (q < c → x ≤ f q)) 2 [some (.int x), some (.ref 100), some (.int (nI c)), some (.int (nI i))] [] [.inl (0, N, .inl f)] := by
    intro i
    induction hm : c - i using Nat.strongRecOn generalizing i with
    | ind m ih =>
      subst hm
      intro hi hlt
      refine G_iload_n dX7_placeFor_2 rfl ?_
      refine G_iload_n dX7_placeFor_3 rfl ?_
      refine G_icmp_geN (tgt := 22) i c dX7_placeFor_4 (by decide) rfl rfl (by omega) (by omega) (fun hic => ?_) (fun hic => ?_)
      · refine G_iload_n dX7_placeFor_22 rfl ?_
        exact G_ret (v := some (.int _)) ⟨dX7_placeFor_23, _, rfl, rfl⟩ ⟨rfl, c, Nat.le_refl _, rfl, fun j hj => hlt j (by omega), fun h => by omega⟩
      refine G_aload_n dX7_placeFor_7 rfl ?_
      refine G_iload_n dX7_placeFor_8 rfl ?_
      refine G_ialdN i dX7_placeFor_9 rfl rfl (by omega) (by omega) ?_
      refine G_iload_n dX7_placeFor_10 rfl ?_
      refine G_icmp_lt (tgt := 16) dX7_placeFor_11 (by decide) (fun h1 => ?_) (fun h1 => ?_)
      · refine G_iinc (L' := [_, _, _, _]) (v := nI (i + 1)) dX7_placeFor_16 rfl (nI_succ i).symm rfl ?_
        refine G_goto (tgt := 2) dX7_placeFor_19 (by decide) ?_
        refine ih (c - (i + 1)) (by omega) (i + 1) rfl (by omega) (fun j hj => ?_)
        rcases Nat.lt_or_ge j i with q | q
        · exact hlt j q
        · rw [show j = i by omega]; exact h1
      refine G_iload_n dX7_placeFor_14 rfl ?_
      exact G_ret (v := some (.int _)) ⟨dX7_placeFor_15, _, rfl, rfl⟩ ⟨rfl, i, hi, rfl, hlt, fun _ => Int32.not_lt.mp h1⟩
  exact loop 0 (by omega) (fun j hj => by omega)
set_option maxRecDepth 20000 in
theorem con_sameRows (d : Nat) (f g : Nat → Int32) (N N' c : Nat) (hc : c ≤ N) (hc' : c ≤ N') (hN : N < 2 ^ 31) (hN' : N' < 2 ^ 31) : Con mX7_sameRows d 0 0 [.inl (0, N, .inl f), .inl (0, N', .inl g)] [.ref 100, .ref 101, .int (nI c)] (fun w' v => w' = [.inl (0, N, .inl f), .inl (0, N', .inl g)] ∧ ((∀ i, i < c → f i = g i) ∧ v = some (.int 1) ∨ (¬ ∀ i, i < c → f i = g i) ∧ v = some (.int 0))) := by
  refine Con.of (ab_ok7 rfl) (Nat.le_of_ble_eq_true rfl) ?_
  show G ab_x0 mX7_sameRows d 0 0 _ 0 [some (.ref 100), some (.ref 101), some (.int (nI c)), none] [] _
  refine G_iconst (v := 0) dX7_sameRows_0 (by decide) ?_
  refine G_istore_n (L' := [_, _, _, _]) dX7_sameRows_1 (Nat.le_of_ble_eq_true rfl) rfl ?_
  have loop : ∀ (i : Nat), i ≤ c → (∀ j, j < i → f j = g j) → G ab_x0 mX7_sameRows d 0 0 (fun w' v => w' = [.inl (0, N, .inl f), .inl (0, N', .inl g)] ∧ ((∀ i, i < c → f i = g i) ∧ v = some (.int 1) ∨ (¬ ∀ i, i < c → f i = g i) ∧ v = some (.int 0))) 2 [some (.ref 100), some (.ref 101), some (.int (nI c)), some (.int (nI i))] [] [.inl (0, N, .inl f), .inl (0, N', .inl g)] := by
    intro i
    induction hm : c - i using Nat.strongRecOn generalizing i with
    | ind m ih =>
      subst hm
      intro hi hlt
      refine G_iload_n dX7_sameRows_2 rfl ?_
      refine G_iload_n dX7_sameRows_3 rfl ?_
      refine G_icmp_geN (tgt := 24) i c dX7_sameRows_4 (by decide) rfl rfl (by omega) (by omega) (fun hic => ?_) (fun hic => ?_)
      · refine G_iconst (v := 1) dX7_sameRows_24 (by decide) ?_
        exact G_ret (v := some (.int _)) ⟨dX7_sameRows_25, _, rfl, rfl⟩ ⟨rfl, Or.inl ⟨fun j hj => hlt j (by omega), rfl⟩⟩
      refine G_aload_n dX7_sameRows_7 rfl ?_
      refine G_iload_n dX7_sameRows_8 rfl ?_
      refine G_ialdN i dX7_sameRows_9 rfl rfl (by omega) (by omega) ?_
      refine G_aload_n dX7_sameRows_10 rfl ?_
      refine G_iload_n dX7_sameRows_11 rfl ?_
      refine G_ialdN i dX7_sameRows_12 rfl rfl (by omega) (by omega) ?_
      refine G_icmp_eq (tgt := 18) dX7_sameRows_13 (by decide) (fun h1 => ?_) (fun h1 => ?_)
      · refine G_iinc (L' := [_, _, _, _]) (v := nI (i + 1)) dX7_sameRows_18 rfl (nI_succ i).symm rfl ?_
        refine G_goto (tgt := 2) dX7_sameRows_21 (by decide) ?_
        refine ih (c - (i + 1)) (by omega) (i + 1) rfl (by omega) (fun j hj => ?_)
        rcases Nat.lt_or_ge j i with q | q
        · exact hlt j q
        · rw [show j = i by omega]; exact h1
      refine G_iconst (v := 0) dX7_sameRows_16 (by decide) ?_
      exact G_ret (v := some (.int _)) ⟨dX7_sameRows_17, _, rfl, rfl⟩ ⟨rfl, Or.inr ⟨fun h => h1 (h i hic), rfl⟩⟩
  exact loop 0 (by omega) (fun j hj => by omega)
theorem nI_or (a b : Nat) : nI a ||| nI b = nI (a ||| b) := by
  show Int32.ofNat a ||| Int32.ofNat b = Int32.ofNat (a ||| b)
  apply Int32.toBitVec_inj.mp
  simp [Int32.toBitVec_or]
theorem nI_orA {a b : Nat} (hb : b < 1024) : nI (a * 1024) ||| nI b = nI (a * 1024 + b) := by
  rw [nI_or, Nat.mul_comm a 1024, show 1024 = 2 ^ 10 from rfl, ← Nat.two_pow_add_eq_or_of_lt (by omega)]
/-- a place of a key by new numbers g of the blanks -/
def rn (g : Nat → Nat) (x : Nat) : Nat := if x < 8 then 8 - g (7 - x) else x
def rnK (g : Nat → Nat) (K : Nat) : Nat := (rn g (kp K 0) * 1024 + rn g (kp K 1)) * 1024 + rn g (kp K 2)
theorem rn_lt {g : Nat → Nat} {x : Nat} (h : x < 1024) : rn g x < 1024 := by
  unfold rn
  split <;> omega
theorem rnK_lt (g : Nat → Nat) (K : Nat) : rnK g K < 2 ^ 30 := by
  have h0 := rn_lt (g := g) (x := kp K 0) (Nat.mod_lt _ (by decide))
  have h1 := rn_lt (g := g) (x := kp K 1) (Nat.mod_lt _ (by decide))
  have h2 := rn_lt (g := g) (x := kp K 2) (Nat.mod_lt _ (by decide))
  unfold rnK
  omega
set_option maxRecDepth 20000 in
theorem con_renum (d : Nat) (K : Nat) (f : Nat → Int32) (g : Nat → Nat) (hK : K < 2 ^ 30) (hg : ∀ j, j < 8 → f j = nI (g j) ∧ g j ≤ 8) : Con mX7_renumbered d 0 0 [.inl (0, 8, .inl f)] [.int (nI K), .ref 100] (fun w' v => w' = [.inl (0, 8, .inl f)] ∧ v = some (.int (nI (rnK g K)))) := by
  refine Con.of (ab_ok7 rfl) (Nat.le_of_ble_eq_true rfl) ?_
  show G ab_x0 mX7_renumbered d 0 0 _ 0 [some (.int (nI K)), some (.ref 100), none, none, none] [] _
  refine G_iconst (v := 0) dX7_renumbered_0 (by decide) ?_
  refine G_istore_n (L' := [_, _, _, _, _]) dX7_renumbered_1 (Nat.le_of_ble_eq_true rfl) rfl ?_
  refine G_bipush (v := 20) dX7_renumbered_2 (by decide) ?_
  refine G_istore_n (L' := [_, _, _, _, _]) dX7_renumbered_4 (Nat.le_of_ble_eq_true rfl) rfl ?_
  have step : ∀ (t r : Nat) (z : Option Value), t < 3 → r < 2 ^ 20 → (∀ z', G ab_x0 mX7_renumbered d 0 0 (fun w' v => w' = [.inl (0, 8, .inl f)] ∧ v = some (.int (nI (rnK g K)))) 5 [some (.int (nI K)), some (.ref 100), some (.int (nI (r * 1024 + rn g (kp K (2 - t))))), some (.int (nI (10 * t) - 10)), z'] [] [.inl (0, 8, .inl f)]) → G ab_x0 mX7_renumbered d 0 0 (fun w' v => w' = [.inl (0, 8, .inl f)] ∧ v = some (.int (nI (rnK g K)))) 5 [some (.int (nI K)), some (.ref 100), some (.int (nI r)), some (.int (nI (10 * (t + 1)) - 10)), z] [] [.inl (0, 8, .inl f)] := by
    intro t r z ht hr kk
    have a1 : ∀ q, q < 3 → ¬ nI (10 * (q + 1)) - 10 < 0 := by decide
    have a2 : ∀ q, q < 3 → (((nI (10 * (q + 1)) - 10) &&& 31 : Int32).toBitVec.smod 32).toNat = 10 * (2 - (2 - q)) := by decide
    have a3 : ∀ q, q < 3 → nI (10 * (q + 1)) - 10 + Int32.ofInt (-10) = nI (10 * q) - 10 := by decide
    have hkl : kp K (2 - t) < 1024 := Nat.mod_lt _ (by decide)
    have ha : nI K >>> ((nI (10 * (t + 1)) - 10) &&& 31) &&& 1023 = nI (kp K (2 - t)) := by
      rw [pk_shrN (by omega) _ _ (a2 t ht), pk_andN (by have := Nat.div_le_self K (2 ^ (10 * (2 - (2 - t)))); omega) 10 (by decide)]
      rfl
    have fin : ∀ q, q < 1024 → q = rn g (kp K (2 - t)) → G ab_x0 mX7_renumbered d 0 0 (fun w' v => w' = [.inl (0, 8, .inl f)] ∧ v = some (.int (nI (rnK g K)))) 37 [some (.int (nI K)), some (.ref 100), some (.int (nI r)), some (.int (nI (10 * (t + 1)) - 10)), some (.int (nI q))] [] [.inl (0, 8, .inl f)] := by
      intro q hq hqe
      refine G_iload_n dX7_renumbered_37 rfl ?_
      refine G_bipush (v := 10) dX7_renumbered_38 (by decide) ?_
      refine G_ishl dX7_renumbered_40 ?_
      refine G_iload dX7_renumbered_41 rfl ?_
      refine G_ior dX7_renumbered_43 ?_
      refine G_topi (y := nI (r * 1024 + q)) ?_ ?_
      · rw [pk_shlN _ 10 (by decide) (by omega), show r * 2 ^ 10 = r * 1024 from rfl, nI_orA hq]
      refine G_istore_n (L' := [_, _, _, _, _]) dX7_renumbered_44 (Nat.le_of_ble_eq_true rfl) rfl ?_
      refine G_iinc (L' := [_, _, _, _, _]) (v := nI (10 * t) - 10) dX7_renumbered_45 rfl (a3 t ht) rfl ?_
      refine G_goto (tgt := 5) dX7_renumbered_48 (by decide) ?_
      rw [hqe]
      exact kk _
    refine G_iload_n dX7_renumbered_5 rfl ?_
    refine G_if_lt (tgt := 51) dX7_renumbered_6 (by decide) (fun h => absurd h (a1 t ht)) (fun _ => ?_)
    refine G_iload_n dX7_renumbered_9 rfl ?_
    refine G_iload_n dX7_renumbered_10 rfl ?_
    refine G_ishr dX7_renumbered_11 ?_
    refine G_sipush (v := 1023) dX7_renumbered_12 (by decide) ?_
    refine G_iand dX7_renumbered_15 ?_
    refine G_topi ha ?_
    refine G_istore (L' := [_, _, _, _, _]) dX7_renumbered_16 (Nat.le_of_ble_eq_true rfl) rfl ?_
    refine G_iload dX7_renumbered_18 rfl ?_
    refine G_bipush (v := 8) dX7_renumbered_20 (by decide) ?_
    refine G_icmp_geN (tgt := 37) (kp K (2 - t)) 8 dX7_renumbered_22 (by decide) rfl rfl (by omega) (by omega) (fun h => ?_) (fun h => ?_)
    · exact fin _ hkl (by unfold rn; rw [if_neg (by omega)])
    · obtain ⟨e1, e2⟩ := hg (7 - kp K (2 - t)) (by omega)
      refine G_bipush (v := 8) dX7_renumbered_25 (by decide) ?_
      refine G_aload_n dX7_renumbered_27 rfl ?_
      refine G_bipush (v := 7) dX7_renumbered_28 (by decide) ?_
      refine G_iload dX7_renumbered_30 rfl ?_
      refine G_isub dX7_renumbered_32 ?_
      refine G_ialdN (7 - kp K (2 - t)) dX7_renumbered_33 rfl ?_ (by omega) (by omega) ?_
      · exact pk_sub (a := 7) (by omega)
      refine G_isub dX7_renumbered_34 ?_
      refine G_topi (y := nI (8 - g (7 - kp K (2 - t)))) ?_ ?_
      · rw [e1]; exact pk_sub (a := 8) e2
      refine G_istore (L' := [_, _, _, _, _]) dX7_renumbered_35 (Nat.le_of_ble_eq_true rfl) rfl ?_
      exact fin _ (by omega) (by unfold rn; rw [if_pos h])
  have b0 : kp K 0 < 1024 := Nat.mod_lt _ (by decide)
  have b1 : kp K 1 < 1024 := Nat.mod_lt _ (by decide)
  have c0 := rn_lt (g := g) b0
  have c1 := rn_lt (g := g) b1
  refine step 2 0 _ (by omega) (by omega) (fun z => ?_)
  refine step 1 _ _ (by omega) (by show 0 * 1024 + rn g (kp K 0) < _; omega) (fun z => ?_)
  refine step 0 _ _ (by omega) (by show (0 * 1024 + rn g (kp K 0)) * 1024 + rn g (kp K 1) < _; omega) (fun z => ?_)
  refine G_iload_n dX7_renumbered_5 rfl ?_
  refine G_if_lt (tgt := 51) dX7_renumbered_6 (by decide) (fun _ => ?_) (fun h => absurd (show nI (10 * 0) - 10 < 0 by decide) h)
  refine G_iload_n dX7_renumbered_51 rfl ?_
  refine G_ret (v := some (.int _)) ⟨dX7_renumbered_52, _, rfl, rfl⟩ ⟨rfl, ?_⟩
  show some (Value.int (nI (((0 * 1024 + rn g (kp K 0)) * 1024 + rn g (kp K 1)) * 1024 + rn g (kp K 2)))) = _
  unfold rnK
  rw [Nat.zero_mul, Nat.zero_add]
