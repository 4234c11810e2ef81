/-! Longs without sign: what the reference counts of the class's words. -/
theorem zx_bv (x : Int32) : (zx x).toBitVec = x.toBitVec.setWidth 64 := by
  unfold zx lN uw
  apply BitVec.eq_of_toNat_eq
  rw [Int64.toBitVec_ofNat', BitVec.toNat_ofNat, BitVec.toNat_setWidth]
theorem t32_bv (y : Int64) : y.toInt32.toBitVec = y.toBitVec.setWidth 32 := by
  rw [Int64.toBitVec_toInt32]
  exact BitVec.signExtend_eq_setWidth_of_le _ (by decide)
theorem zx_t (x : Int32) : (zx x).toInt32 = x := by
  apply Int32.toBitVec_inj.mp
  rw [t32_bv, zx_bv]
  apply BitVec.eq_of_toNat_eq
  have := x.toBitVec.isLt
  rw [BitVec.toNat_setWidth, BitVec.toNat_setWidth]
  omega
theorem zx_inj {x y : Int32} (h : zx x = zx y) : x = y := by rw [← zx_t x, h, zx_t]
theorem and_low (y : Int64) : y &&& 4294967295 = zx y.toInt32 := by
  apply Int64.toBitVec_inj.mp
  rw [zx_bv, t32_bv, Int64.toBitVec_and]
  apply BitVec.eq_of_toNat_eq
  rw [BitVec.toNat_and, BitVec.toNat_setWidth, BitVec.toNat_setWidth, show (4294967295 : Int64).toBitVec.toNat = 2 ^ 32 - 1 from rfl, Nat.and_two_pow_sub_one_eq_mod]
  have := Nat.mod_lt y.toBitVec.toNat (show 0 < 2 ^ 32 by decide)
  omega
theorem zx_xor (x y : Int32) : zx x ^^^ zx y = zx (x ^^^ y) := by
  apply Int64.toBitVec_inj.mp
  rw [Int64.toBitVec_xor, zx_bv, zx_bv, zx_bv, Int32.toBitVec_xor, BitVec.setWidth_xor]
theorem zx_and (x y : Int32) : zx x &&& zx y = zx (x &&& y) := by
  apply Int64.toBitVec_inj.mp
  rw [Int64.toBitVec_and, zx_bv, zx_bv, zx_bv, Int32.toBitVec_and, BitVec.setWidth_and]
theorem zx_not (x : Int32) : 4294967295 - zx x = zx (x ^^^ (-1)) := by
  apply Int64.toBitVec_inj.mp
  rw [Int64.toBitVec_sub, zx_bv, zx_bv, Int32.toBitVec_xor]
  apply BitVec.eq_of_toNat_eq
  have h1 : (x.toBitVec ^^^ (-1 : Int32).toBitVec) = ~~~ x.toBitVec := by
    rw [show (-1 : Int32).toBitVec = BitVec.allOnes 32 from by decide]
    exact BitVec.xor_allOnes
  have hx := x.toBitVec.isLt
  rw [h1, BitVec.toNat_sub, BitVec.toNat_setWidth, BitVec.toNat_setWidth, BitVec.toNat_not, show (4294967295 : Int64).toBitVec.toNat = 2 ^ 32 - 1 from rfl]
  omega
theorem zx_toNat (x : Int32) : (zx x).toBitVec.toNat = uw x := by
  rw [zx_bv, BitVec.toNat_setWidth]
  exact Nat.mod_eq_of_lt (Nat.lt_trans (uw_lt x) (by decide))
theorem sh_k {s : Int32} (k : Nat) (hs : s = nI k) (hk : k < 32) : ((s.toInt64 &&& 63).toBitVec.smod 64).toNat = k := by
  subst hs
  revert k
  decide +kernel
theorem l_shr {y : Int64} (hy : y.toBitVec.toNat < 2 ^ 63) (s : Int64) (k : Nat) (hs : (s.toBitVec.smod 64).toNat = k) : (y >>> s).toBitVec.toNat = y.toBitVec.toNat / 2 ^ k := by
  rw [Int64.toBitVec_shiftRight]
  unfold BitVec.sshiftRight'
  rw [BitVec.sshiftRight_eq_of_msb_false, BitVec.toNat_ushiftRight, hs, Nat.shiftRight_eq_div_pow]
  rw [BitVec.msb_eq_decide]
  simp
  exact hy
theorem l_shl (y s : Int64) (k : Nat) (hs : (s.toBitVec.smod 64).toNat = k) : (y <<< s).toBitVec.toNat = y.toBitVec.toNat * 2 ^ k % 2 ^ 64 := by
  rw [Int64.toBitVec_shiftLeft, BitVec.shiftLeft_eq', BitVec.toNat_shiftLeft, hs, Nat.shiftLeft_eq]
theorem us_k (x : Int32) (k : Nat) (hk : k < 32) : uw (us x (nI k)) = uw x / 2 ^ k := by
  unfold us uw
  refine pk_ushr x (nI k) k ?_
  revert k
  decide +kernel
theorem ls_k (x : Int32) (k : Nat) (hk : k < 32) : uw (ls x (nI k)) = uw x * 2 ^ k % 2 ^ 32 := by
  unfold ls uw
  refine pk_shl x _ k ?_
  revert k
  decide +kernel
theorem zx_shr (x : Int32) (k : Nat) (hk : k < 32) : zx x >>> ((nI k).toInt64 &&& 63) = zx (us x (nI k)) := by
  apply Int64.toBitVec_inj.mp
  apply BitVec.eq_of_toNat_eq
  rw [l_shr (by rw [zx_toNat]; exact Nat.lt_trans (uw_lt x) (by decide)) _ k (sh_k k rfl hk), zx_toNat, zx_toNat, us_k x k hk]
theorem zx_turn (x : Int32) (k : Nat) (h0 : 0 < k) (hk : k < 32) : (zx x >>> ((nI k).toInt64 &&& 63) ||| zx x <<< (((32 : Int32) - nI k).toInt64 &&& 63)) &&& 4294967295 = zx (rr x (nI k) (nI (32 - k))) := by
  rw [and_low]
  congr 1
  apply uw_inj
  unfold rr
  have e1 : uw (us x (nI k) ||| ls x (nI (32 - k))) = uw x / 2 ^ k ||| (uw x * 2 ^ (32 - k) % 2 ^ 32) := by
    rw [← us_k x k hk, ← ls_k x (32 - k) (by omega)]
    unfold uw
    rw [Int32.toBitVec_or, BitVec.toNat_or]
  rw [e1]
  unfold uw
  rw [t32_bv, BitVec.toNat_setWidth, Int64.toBitVec_or, BitVec.toNat_or, l_shr (by rw [zx_toNat]; exact Nat.lt_trans (uw_lt x) (by decide)) _ k (sh_k k rfl hk), l_shl (zx x) (((32 : Int32) - nI k).toInt64 &&& 63) (32 - k) (sh_k (32 - k) (pk_sub (a := 32) (by omega)) (by omega)), zx_toNat]
  have hx : uw x < 2 ^ 32 := uw_lt x
  change (uw x / 2 ^ k ||| uw x * 2 ^ (32 - k) % 2 ^ 64) % 2 ^ 32 = uw x / 2 ^ k ||| uw x * 2 ^ (32 - k) % 2 ^ 32
  apply Nat.eq_of_testBit_eq
  intro i
  rw [Nat.testBit_mod_two_pow, Nat.testBit_or, Nat.testBit_or, Nat.testBit_mod_two_pow, Nat.testBit_mod_two_pow]
  by_cases hi : i < 32
  · simp [hi, show i < 64 by omega]
  · have : (uw x / 2 ^ k).testBit i = false := Nat.testBit_lt_two_pow (Nat.lt_of_le_of_lt (Nat.div_le_self _ _) (Nat.lt_of_lt_of_le hx (Nat.pow_le_pow_right (by decide) (by omega))))
    simp [hi, this]
theorem low_add {x y : Int64} {a b : Int32} (hx : x.toInt32 = a) (hy : y.toInt32 = b) : (x + y).toInt32 = a + b := by rw [Int64.toInt32_add, hx, hy]
