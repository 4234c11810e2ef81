/-! Groups: sizeOf, compareHashes, hasHashesOf, namings. A hash is ONE number of 256 bits. -/
def uw (x : Int32) : Nat := x.toBitVec.toNat
theorem uw_lt (x : Int32) : uw x < 2 ^ 32 := x.toBitVec.isLt
theorem uw_inj {x y : Int32} (h : uw x = uw y) : x = y := Int32.toBitVec_inj.mp (BitVec.eq_of_toNat_eq h)
/-- the first i words, the first one highest -/
def pw (F : Nat → Nat) : Nat → Nat
  | 0 => 0
  | i + 1 => pw F i * 2 ^ 32 + F i
theorem pw_lt {F F' : Nat → Nat} {i : Nat} (h : pw F i < pw F' i) : ∀ k, (∀ j, F j < 2 ^ 32) → pw F (i + k) < pw F' (i + k)
  | 0, _ => h
  | k + 1, hF => by
    have h1 := pw_lt h k hF
    have h2 := hF (i + k)
    show pw F (i + k) * 2 ^ 32 + F (i + k) < pw F' (i + k) * 2 ^ 32 + F' (i + k)
    omega
theorem pw_eq {F F' : Nat → Nat} (hF : ∀ j, F j < 2 ^ 32) (hF' : ∀ j, F' j < 2 ^ 32) : ∀ n, pw F n = pw F' n ↔ ∀ j, j < n → F j = F' j
  | 0 => ⟨fun _ j hj => by omega, fun _ => rfl⟩
  | n + 1 => by
    have ih := pw_eq hF hF' n
    have h1 := hF n
    have h2 := hF' n
    show pw F n * 2 ^ 32 + F n = pw F' n * 2 ^ 32 + F' n ↔ _
    constructor
    · intro h j hj
      have e1 : pw F n = pw F' n := by omega
      rcases Nat.lt_or_ge j n with q | q
      · exact ih.mp e1 j q
      · rw [show j = n by omega]; omega
    · intro h
      rw [ih.mpr (fun j hj => h j (by omega)), h n (by omega)]
/-- the hash of blank b -/
def hv (F : Nat → Int32) (b : Nat) : Nat := pw (fun i => uw (F (b * 8 + i))) 8
def cmpN (x y : Nat) : Int32 := if x < y then -1 else if x = y then 0 else 1
theorem xor_lt (x y : Int32) : x ^^^ (-2147483648) < y ^^^ (-2147483648) ↔ uw x < uw y := by
  have key : ∀ z : Int32, (z ^^^ (-2147483648)).toInt = (uw z : Int) - 2147483648 := by
    intro z
    have h1 : (z ^^^ (-2147483648)).toBitVec = z.toBitVec ^^^ 0x80000000#32 := rfl
    show (z ^^^ (-2147483648)).toBitVec.toInt = _
    rw [h1, BitVec.toInt_eq_toNat_cond, BitVec.toNat_xor]
    have h2 := uw_lt z
    unfold uw at *
    generalize z.toBitVec.toNat = n at *
    have h3 : (2147483648#32).toNat = 2147483648 := rfl
    rw [h3]
    by_cases h : n < 2147483648
    · have e : n ^^^ 2147483648 = n + 2147483648 := by
        have := Nat.two_pow_add_eq_or_of_lt (i := 31) (b := n) (by omega) 1
        have e2 : (n ^^^ 2147483648) = (2 ^ 31 * 1 ||| n) := by
          apply Nat.eq_of_testBit_eq
          intro i
          rw [Nat.testBit_xor, Nat.testBit_or, show 2147483648 = 2 ^ 31 from rfl, Nat.mul_one, Nat.testBit_two_pow]
          by_cases hi : 31 = i
          · subst hi
            have : n.testBit 31 = false := Nat.testBit_lt_two_pow (by omega)
            simp [this]
          · simp [hi]
        rw [e2, ← this]
        omega
      rw [e]
      omega
    · have e : n ^^^ 2147483648 = n - 2147483648 := by
        have hn : n = 2 ^ 31 * 1 ||| (n - 2147483648) := by
          rw [← Nat.two_pow_add_eq_or_of_lt (by omega)]
          omega
        apply Nat.eq_of_testBit_eq
        intro i
        rw [Nat.testBit_xor, show 2147483648 = 2 ^ 31 from rfl, Nat.testBit_two_pow]
        conv => lhs; rw [hn]
        rw [Nat.testBit_or, Nat.mul_one, Nat.testBit_two_pow]
        by_cases hi : 31 = i
        · subst hi
          have : (n - 2147483648).testBit 31 = false := Nat.testBit_lt_two_pow (by omega)
          have h4 : (n - 2 ^ 31).testBit 31 = false := this
          simp [this, h4]
        · simp [hi]
      rw [e]
      omega
  rw [Int32.lt_iff_toInt_lt, key, key]
  omega
theorem xor_eq (x y : Int32) : x ^^^ (-2147483648) = y ^^^ (-2147483648) ↔ x = y := by
  constructor
  · intro h
    rcases Nat.lt_trichotomy (uw x) (uw y) with q | q | q
    · have := (xor_lt x y).mpr q
      rw [h] at this
      exact absurd this (fun h => Int32.lt_irrefl h)
    · exact uw_inj q
    · have := (xor_lt y x).mpr q
      rw [h] at this
      exact absurd this (fun h => Int32.lt_irrefl h)
  · intro h
    rw [h]
set_option maxRecDepth 20000 in
theorem con_compareHashes (d a b : Nat) (ha : a < 8) (hb : b < 8) (F : Nat → Int32) (ov rv sv cv : Value) : Con mX1_compareHashes d 0 0 [.inr (2, [.ref 101, ov, rv, sv, cv]), cI 64 F] [.ref 100, .int (nI a), .int (nI b)] (fun w' v => w' = [.inr (2, [.ref 101, ov, rv, sv, cv]), cI 64 F] ∧ v = some (.int (cmpN (hv F a) (hv F b)))) := by
  refine Con.of (ab_okc rfl (by decide)) (Nat.le_of_ble_eq_true rfl) ?_
  show G ab_x0 mX1_compareHashes d 0 0 _ 0 [some (.ref 100), some (.int (nI a)), some (.int (nI b)), none, none, none] [] _
  refine G_iconst (v := 0) dX1_compareHashes_0 (by decide) ?_
  refine G_istore_n (L' := [_, _, _, _, _, _]) dX1_compareHashes_1 (Nat.le_of_ble_eq_true rfl) rfl ?_
  have hFa : ∀ j, uw (F (a * 8 + j)) < 2 ^ 32 := fun j => uw_lt _
  have hFb : ∀ j, uw (F (b * 8 + j)) < 2 ^ 32 := fun j => uw_lt _
  have loop : ∀ (i : Nat) (z1 z2 : Option Value), i ≤ 8 → pw (fun i => uw (F (a * 8 + i))) i = pw (fun i => uw (F (b * 8 + i))) i → G ab_x0 mX1_compareHashes d 0 0 (fun w' v => w' = [.inr (2, [.ref 101, ov, rv, sv, cv]), cI 64 F] ∧ v = some (.int (cmpN (hv F a) (hv F b)))) 2 [some (.ref 100), some (.int (nI a)), some (.int (nI b)), some (.int (nI i)), z1, z2] [] [.inr (2, [.ref 101, ov, rv, sv, cv]), cI 64 F] := by
    intro i
    induction hm : 8 - i using Nat.strongRecOn generalizing i with
    | ind m ih =>
      subst hm
      intro z1 z2 hi he
      refine G_iload_n dX1_compareHashes_2 rfl ?_
      refine G_bipush (v := 8) dX1_compareHashes_3 (by decide) ?_
      refine G_icmp_geN (tgt := 66) i 8 dX1_compareHashes_5 (by decide) rfl rfl (by omega) (by omega) (fun hge => ?_) (fun hlt => ?_)
      · refine G_iconst (v := 0) dX1_compareHashes_66 (by decide) ?_
        refine G_ret (v := some (.int _)) ⟨dX1_compareHashes_67, _, rfl, rfl⟩ ⟨rfl, ?_⟩
        have e : i = 8 := by omega
        subst e
        have e : hv F a = hv F b := he
        rw [e]
        simp [cmpN]
      refine G_aload_n dX1_compareHashes_8 rfl ?_
      refine G_get (f := 0) kc2 dX1_compareHashes_9 fX1_9 (by decide) rfl rfl ?_
      refine G_iload_n dX1_compareHashes_12 rfl ?_
      refine G_bipush (v := 8) dX1_compareHashes_13 (by decide) ?_
      refine G_imul dX1_compareHashes_15 ?_
      refine G_iload_n dX1_compareHashes_16 rfl ?_
      refine G_iadd dX1_compareHashes_17 ?_
      refine G_ialdN (a * 8 + i) dX1_compareHashes_18 rfl (by rw [show (8 : Int32) = nI 8 from rfl, pk_mul, nI_add]) (by omega) (by omega) ?_
      refine G_ldc dX1_compareHashes_19 kX1_32 ?_
      refine G_ixor dX1_compareHashes_21 ?_
      refine G_istore (L' := [_, _, _, _, _, _]) dX1_compareHashes_22 (Nat.le_of_ble_eq_true rfl) rfl ?_
      refine G_aload_n dX1_compareHashes_24 rfl ?_
      refine G_get (f := 0) kc2 dX1_compareHashes_25 fX1_9 (by decide) rfl rfl ?_
      refine G_iload_n dX1_compareHashes_28 rfl ?_
      refine G_bipush (v := 8) dX1_compareHashes_29 (by decide) ?_
      refine G_imul dX1_compareHashes_31 ?_
      refine G_iload_n dX1_compareHashes_32 rfl ?_
      refine G_iadd dX1_compareHashes_33 ?_
      refine G_ialdN (b * 8 + i) dX1_compareHashes_34 rfl (by rw [show (8 : Int32) = nI 8 from rfl, pk_mul, nI_add]) (by omega) (by omega) ?_
      refine G_ldc dX1_compareHashes_35 kX1_32 ?_
      refine G_ixor dX1_compareHashes_37 ?_
      refine G_istore (L' := [_, _, _, _, _, _]) dX1_compareHashes_38 (Nat.le_of_ble_eq_true rfl) rfl ?_
      refine G_iload dX1_compareHashes_40 rfl ?_
      refine G_iload dX1_compareHashes_42 rfl ?_
      refine G_icmp_eq (tgt := 60) dX1_compareHashes_44 (by decide) (fun h1 => ?_) (fun h1 => ?_)
      · refine G_iinc (L' := [_, _, _, _, _, _]) (v := nI (i + 1)) dX1_compareHashes_60 rfl (nI_succ i).symm rfl ?_
        refine G_goto (tgt := 2) dX1_compareHashes_63 (by decide) ?_
        refine ih (8 - (i + 1)) (by omega) (i + 1) rfl _ _ (by omega) ?_
        show pw _ i * 2 ^ 32 + uw (F (a * 8 + i)) = pw _ i * 2 ^ 32 + uw (F (b * 8 + i))
        rw [he, (xor_eq _ _).mp h1]
      refine G_iload dX1_compareHashes_47 rfl ?_
      refine G_iload dX1_compareHashes_49 rfl ?_
      refine G_icmp_ge (tgt := 58) dX1_compareHashes_51 (by decide) (fun h2 => ?_) (fun h2 => ?_)
      · refine G_iconst (v := 1) dX1_compareHashes_58 (by decide) ?_
        refine G_ret (v := some (.int _)) ⟨dX1_compareHashes_59, _, rfl, rfl⟩ ⟨rfl, ?_⟩
        have h3 : uw (F (b * 8 + i)) < uw (F (a * 8 + i)) := by
          rcases Int32.lt_or_eq_of_le h2 with q | q
          · exact (xor_lt _ _).mp q
          · exact absurd q.symm h1
        have h4 : hv F b < hv F a := by
          have := pw_lt (F := fun i => uw (F (b * 8 + i))) (F' := fun i => uw (F (a * 8 + i))) (i := i + 1) (by show pw _ i * 2 ^ 32 + uw (F (b * 8 + i)) < pw _ i * 2 ^ 32 + uw (F (a * 8 + i)); rw [he]; omega) (8 - (i + 1)) hFb
          rw [show i + 1 + (8 - (i + 1)) = 8 by omega] at this
          exact this
        unfold cmpN
        rw [if_neg (by omega), if_neg (by omega)]
      refine G_iconst (v := (-1)) dX1_compareHashes_54 (by decide) ?_
      refine G_goto (tgt := 59) dX1_compareHashes_55 (by decide) ?_
      refine G_ret (v := some (.int _)) ⟨dX1_compareHashes_59, _, rfl, rfl⟩ ⟨rfl, ?_⟩
      have h3 : uw (F (a * 8 + i)) < uw (F (b * 8 + i)) := (xor_lt _ _).mp (Int32.not_le.mp h2)
      have h4 : hv F a < hv F b := by
        have := pw_lt (F := fun i => uw (F (a * 8 + i))) (F' := fun i => uw (F (b * 8 + i))) (i := i + 1) (by show pw _ i * 2 ^ 32 + uw (F (a * 8 + i)) < pw _ i * 2 ^ 32 + uw (F (b * 8 + i)); rw [he]; omega) (8 - (i + 1)) hFa
        rw [show i + 1 + (8 - (i + 1)) = 8 by omega] at this
        exact this
      unfold cmpN
      rw [if_pos h4]
  exact loop 0 _ _ (by omega) rfl
set_option maxRecDepth 20000 in
theorem con_sizeOf (d g : Nat) (hg : g < 8) (f : Nat → Int32) (hv ov rv cv : Value) : Con mX1_sizeOf d 0 0 [.inr (2, [hv, ov, rv, .ref 101, cv]), cI 9 f] [.ref 100, .int (nI g)] (fun w' v => w' = [.inr (2, [hv, ov, rv, .ref 101, cv]), cI 9 f] ∧ v = some (.int (f (g + 1) - f g))) := by
  refine Con.of (ab_okc rfl (by decide)) (Nat.le_of_ble_eq_true rfl) ?_
  show G ab_x0 mX1_sizeOf d 0 0 _ 0 [some (.ref 100), some (.int (nI g))] [] _
  refine G_aload_n dX1_sizeOf_0 rfl ?_
  refine G_get (f := 3) kc2 dX1_sizeOf_1 fX1_21 (by decide) rfl rfl ?_
  refine G_iload_n dX1_sizeOf_4 rfl ?_
  refine G_iconst (v := 1) dX1_sizeOf_5 (by decide) ?_
  refine G_iadd dX1_sizeOf_6 ?_
  refine G_ialdN (g + 1) dX1_sizeOf_7 rfl (nI_1 g) (by omega) (by omega) ?_
  refine G_aload_n dX1_sizeOf_8 rfl ?_
  refine G_get (f := 3) kc2 dX1_sizeOf_9 fX1_21 (by decide) rfl rfl ?_
  refine G_iload_n dX1_sizeOf_12 rfl ?_
  refine G_ialdN g dX1_sizeOf_13 rfl rfl (by omega) (by omega) ?_
  refine G_isub dX1_sizeOf_14 ?_
  exact G_ret (v := some (.int _)) ⟨dX1_sizeOf_15, _, rfl, rfl⟩ ⟨rfl, rfl⟩
