/-! A digest by the class's words doesn't hang on what stood in its rows before. -/
def ub (x : Int32) (i : Nat) : Bool := (uw x).testBit i
theorem ub_ext {x y : Int32} (h : ∀ i, i < 32 → ub x i = ub y i) : x = y := by
  apply uw_inj
  apply Nat.eq_of_testBit_eq
  intro i
  by_cases hi : i < 32
  · exact h i hi
  · rw [Nat.testBit_lt_two_pow (Nat.lt_of_lt_of_le (uw_lt x) (Nat.pow_le_pow_right (by decide) (by omega))), Nat.testBit_lt_two_pow (Nat.lt_of_lt_of_le (uw_lt y) (Nat.pow_le_pow_right (by decide) (by omega)))]
theorem ub_or (x y : Int32) (i : Nat) : ub (x ||| y) i = (ub x i || ub y i) := by
  unfold ub uw
  rw [show (x ||| y).toBitVec = x.toBitVec ||| y.toBitVec from rfl, BitVec.toNat_or, Nat.testBit_or]
theorem ub_ls8 (x : Int32) {i : Nat} (hi : i < 32) : ub (ls x 8) i = (decide (8 ≤ i) && ub x (i - 8)) := by
  unfold ub uw ls
  rw [pk_shl _ _ 8 (by decide), Nat.testBit_mod_two_pow, Nat.mul_comm, Nat.testBit_two_pow_mul]
  simp [hi]
/-- alike as far as it counts -/
def RS (s t : SS) : Prop := s.2.2 = t.2.2 ∧ s.2.2 < 64 ∧ (∀ j, j < 8 → s.1 j = t.1 j) ∧ (∀ q, q < s.2.2 / 4 → s.2.1 q = t.2.1 q) ∧ ∀ i, i < 8 * (s.2.2 % 4) → ub (s.2.1 (s.2.2 / 4)) i = ub (t.2.1 (s.2.2 / 4)) i
theorem sc_alike {g g' : Nat → Int32} (h : ∀ q, q < 16 → g q = g' q) : ∀ n q, q < 16 + n → scN n g q = scN n g' q
  | 0, q, hq => h q (by omega)
  | n + 1, q, hq => by
    have ih := sc_alike h n
    show upd _ _ _ q = upd _ _ _ q
    by_cases e : q = 16 + n
    · rw [e, pk_us, pk_us]
      unfold sc1
      rw [ih (16 + n - 16) (by omega), ih (16 + n - 15) (by omega), ih (16 + n - 7) (by omega), ih (16 + n - 2) (by omega)]
    · rw [pk_un e, pk_un e]
      exact ih q (by omega)
theorem rd_alike {w w' : Nat → Int32} (s : S8) : ∀ n, (∀ q, q < n → w q = w' q) → rdN n w s = rdN n w' s
  | 0, _ => rfl
  | n + 1, h => by
    show rd _ (w n) (rdN n w s) = rd _ (w' n) (rdN n w' s)
    rw [rd_alike s n (fun q hq => h q (by omega)), h n (by omega)]
theorem add8_at (st : Nat → Int32) (a b c d e f g h : Int32) : add8 st (a, b, c, d, e, f, g, h) 0 = st 0 + a ∧ add8 st (a, b, c, d, e, f, g, h) 1 = st 1 + b ∧ add8 st (a, b, c, d, e, f, g, h) 2 = st 2 + c ∧ add8 st (a, b, c, d, e, f, g, h) 3 = st 3 + d ∧ add8 st (a, b, c, d, e, f, g, h) 4 = st 4 + e ∧ add8 st (a, b, c, d, e, f, g, h) 5 = st 5 + f ∧ add8 st (a, b, c, d, e, f, g, h) 6 = st 6 + g ∧ add8 st (a, b, c, d, e, f, g, h) 7 = st 7 + h := by
  simp [add8, upd]
/-- word j of the eight -/
def s8 (s : S8) (j : Nat) : Int32 := match s, j with
  | (a, _, _, _, _, _, _, _), 0 => a
  | (_, b, _, _, _, _, _, _), 1 => b
  | (_, _, c, _, _, _, _, _), 2 => c
  | (_, _, _, d, _, _, _, _), 3 => d
  | (_, _, _, _, e, _, _, _), 4 => e
  | (_, _, _, _, _, f, _, _), 5 => f
  | (_, _, _, _, _, _, g, _), 6 => g
  | (_, _, _, _, _, _, _, h), _ => h
theorem add8_s8 (st : Nat → Int32) (s : S8) {j : Nat} (hj : j < 8) : add8 st s j = st j + s8 s j := by
  obtain ⟨a, b, c, d, e, f, g, h⟩ := s
  obtain ⟨h0, h1, h2, h3, h4, h5, h6, h7⟩ := add8_at st a b c d e f g h
  match j, hj with
  | 0, _ => exact h0
  | 1, _ => exact h1
  | 2, _ => exact h2
  | 3, _ => exact h3
  | 4, _ => exact h4
  | 5, _ => exact h5
  | 6, _ => exact h6
  | 7, _ => exact h7
theorem mix_alike {st st' ws ws' : Nat → Int32} (h1 : ∀ j, j < 8 → st j = st' j) (h2 : ∀ q, q < 16 → ws q = ws' q) {j : Nat} (hj : j < 8) : mixS st ws j = mixS st' ws' j := by
  unfold mixS
  have e1 : ini st = ini st' := by
    unfold ini
    rw [h1 0 (by decide), h1 1 (by decide), h1 2 (by decide), h1 3 (by decide), h1 4 (by decide), h1 5 (by decide), h1 6 (by decide), h1 7 (by decide)]
  rw [add8_s8 _ _ hj, add8_s8 _ _ hj, h1 j hj, e1, rd_alike (ini st') 64 (fun q hq => sc_alike h2 48 q (by omega))]
theorem RS_absorb {s t : SS} (h : RS s t) (b : Int32) : RS (absorb s b) (absorb t b) := by
  obtain ⟨st, ws, fl⟩ := s
  obtain ⟨st', ws', fl'⟩ := t
  obtain ⟨h1, h2, h3, h4, h5⟩ := h
  have h1 : fl = fl' := h1
  subst h1
  have h2 : fl < 64 := h2
  have h3 : ∀ j, j < 8 → st j = st' j := h3
  have h4 : ∀ q, q < fl / 4 → ws q = ws' q := h4
  have h5 : ∀ i, i < 8 * (fl % 4) → ub (ws (fl / 4)) i = ub (ws' (fl / 4)) i := h5
  have new : ∀ i, i < 8 * (fl % 4) + 8 → ub (ls (ws (fl / 4)) 8 ||| b) i = ub (ls (ws' (fl / 4)) 8 ||| b) i := fun i hi => by
    rw [ub_or, ub_or, ub_ls8 _ (by omega), ub_ls8 _ (by omega)]
    by_cases h8 : 8 ≤ i
    · rw [h5 (i - 8) (by omega)]
    · simp [h8]
  have whole : fl % 4 = 3 → ls (ws (fl / 4)) 8 ||| b = ls (ws' (fl / 4)) 8 ||| b := fun e => ub_ext fun i hi => new i (by omega)
  have old : fl % 4 = 3 → ∀ q, q < fl / 4 + 1 → upd ws (fl / 4) (ls (ws (fl / 4)) 8 ||| b) q = upd ws' (fl / 4) (ls (ws' (fl / 4)) 8 ||| b) q := fun e q hq => by
    by_cases e2 : q = fl / 4
    · rw [e2, pk_us, pk_us, whole e]
    · rw [pk_un e2, pk_un e2]; exact h4 q (by omega)
  unfold absorb
  by_cases hf : fl + 1 = 64
  · rw [if_pos (by exact hf), if_pos (by exact hf)]
    refine ⟨rfl, by show 0 < 64; omega, fun j hj => ?_, fun q hq => ?_, fun i hi => ?_⟩
    · dsimp only
      exact mix_alike h3 (fun q hq => old (by omega) q (by omega)) hj
    · have hq : q < 0 / 4 := hq
      omega
    · have hi : i < 8 * (0 % 4) := hi
      omega
  · rw [if_neg (by exact hf), if_neg (by exact hf)]
    refine ⟨rfl, by show fl + 1 < 64; omega, h3, fun q hq => ?_, fun i hi => ?_⟩
    · have hq : q < (fl + 1) / 4 := hq
      show upd ws (fl / 4) _ q = upd ws' (fl / 4) _ q
      by_cases e : fl % 4 = 3
      · exact old e q (by omega)
      · rw [pk_un (by omega), pk_un (by omega)]; exact h4 q (by omega)
    · have hi : i < 8 * ((fl + 1) % 4) := hi
      show ub (upd ws (fl / 4) _ ((fl + 1) / 4)) i = ub (upd ws' (fl / 4) _ ((fl + 1) / 4)) i
      rw [show (fl + 1) / 4 = fl / 4 by omega, pk_us, pk_us]
      exact new i (by omega)
theorem RS_eat : ∀ (l : List Int32) {s t : SS}, RS s t → RS (eat s l) (eat t l)
  | [], _, _, h => h
  | b :: l, s, t, h => RS_eat l (RS_absorb h b)
theorem RS_put (k : Nat) (x : Int32) {s t : SS} (h : RS s t) : RS (putF k x s) (putF k x t) := by
  rw [putF_bys, putF_bys]
  exact RS_eat _ h
theorem RS_pad : ∀ (k : Nat) {s t : SS}, RS s t → RS (padF k s) (padF k t)
  | 0, _, _, h => h
  | k + 1, s, t, h => by
    have e := h.1
    unfold padF
    rw [← e]
    split
    · exact h
    · exact RS_pad k (RS_put 1 0 h)
theorem RS_end {s t : SS} (h : RS s t) (len : Int32) : RS (endF s len) (endF t len) := RS_put 4 _ (RS_put 4 0 (RS_pad 64 (RS_put 1 128 h)))
/-- a digest, by what stood in the rows before -/
def dg (st ws : Nat → Int32) (msg : List Int32) : Nat → Int32 := (endF (eat (va_cpy (ab_l ab_start) st 0 0 8, ws, 0) msg) (nI msg.length)).1
/-- THE DIGEST of a list of bytes -/
def dig (msg : List Int32) : Nat → Int32 := dg (fun _ => 0) (fun _ => 0) msg
theorem dg_dig (st ws : Nat → Int32) (msg : List Int32) {j : Nat} (hj : j < 8) : dg st ws msg j = dig msg j := by
  have h : RS (va_cpy (ab_l ab_start) st 0 0 8, ws, 0) (va_cpy (ab_l ab_start) (fun _ => 0) 0 0 8, fun _ => 0, 0) := by
    refine ⟨rfl, by show 0 < 64; omega, fun j hj => ?_, fun q hq => ?_, fun i hi => ?_⟩
    · show va_cpy (ab_l ab_start) st 0 0 8 j = va_cpy (ab_l ab_start) (fun _ => 0) 0 0 8 j
      rw [pk_cpy_in (by omega) (by omega), pk_cpy_in (by omega) (by omega)]
    · have hq : q < 0 / 4 := hq
      omega
    · have hi : i < 8 * (0 % 4) := hi
      omega
  exact (RS_end (RS_eat msg h) _).2.2.1 j hj
