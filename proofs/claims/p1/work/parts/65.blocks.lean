/-! The class's digest, block by block. -/
def mb (f : Nat → Int32) (B p : Nat) : List Int32 := (List.range p).map (fun i => nI (uw (f (B + i)) % 256))
theorem mb_s (f : Nat → Int32) (B p : Nat) : mb f B (p + 1) = mb f B p ++ [nI (uw (f (B + p)) % 256)] := by
  unfold mb
  rw [List.range_succ, List.map_append]
  rfl
theorem mb_app (f : Nat → Int32) (B p : Nat) : ∀ k, mb f B (p + k) = mb f B p ++ mb f (B + p) k
  | 0 => by simp [mb]
  | k + 1 => by rw [← Nat.add_assoc, mb_s, mb_app f B p k, mb_s, List.append_assoc, Nat.add_assoc]
theorem eat_s (s : SS) (l : List Int32) (b : Int32) : eat s (l ++ [b]) = absorb (eat s l) b := by rw [eat_app]; rfl
theorem uw_nI {n : Nat} (h : n < 2 ^ 32) : uw (nI n) = n := pk_tn h
theorem uw_or (x y : Int32) : uw (x ||| y) = uw x ||| uw y := by unfold uw; rw [Int32.toBitVec_or, BitVec.toNat_or]
theorem absorb_word (x : Int32) {b : Nat} (hb : b < 256) : uw (ls x 8 ||| nI b) = uw x * 256 % 2 ^ 32 + b := by
  rw [uw_or, uw_nI (by omega), show ls x 8 = ls x (nI 8) from rfl, ls_k x 8 (by omega)]
  rw [show uw x * 2 ^ 8 % 2 ^ 32 = 2 ^ 8 * (uw x % 2 ^ 24) by omega]
  rw [Nat.two_pow_add_eq_or_of_lt (i := 8) (by omega)]
theorem chunk (f : Nat → Int32) (B : Nat) (S w0 : Nat → Int32) : ∀ p, p ≤ 63 → ∃ ws, eat (S, w0, 0) (mb f B p) = (S, ws, p) ∧ (∀ q, q < p / 4 → ws q = beW f B q) ∧ uw (ws (p / 4)) % 2 ^ (8 * (p % 4)) = bvN f (B + 4 * (p / 4)) (p % 4)
  | 0, _ => ⟨w0, rfl, fun q hq => by omega, by simp [bvN]; omega⟩
  | p + 1, hp => by
    obtain ⟨ws, h1, h2, h3⟩ := chunk f B S w0 p (by omega)
    rw [mb_s, eat_s, h1]
    have hb : uw (f (B + p)) % 256 < 256 := Nat.mod_lt _ (by decide)
    have ea : absorb (S, ws, p) (nI (uw (f (B + p)) % 256)) = (S, upd ws (p / 4) (ls (ws (p / 4)) 8 ||| nI (uw (f (B + p)) % 256)), p + 1) := by
      unfold absorb
      rw [if_neg (by show ¬ p + 1 = 64; omega)]
    have hw := absorb_word (ws (p / 4)) hb
    have hbv : bvN f (B + 4 * (p / 4)) (p % 4 + 1) = 256 * bvN f (B + 4 * (p / 4)) (p % 4) + uw (f (B + p)) % 256 := by
      rw [bvN, show B + 4 * (p / 4) + p % 4 = B + p by omega]
    have hlow : uw (ls (ws (p / 4)) 8 ||| nI (uw (f (B + p)) % 256)) % 2 ^ (8 * (p % 4 + 1)) = bvN f (B + 4 * (p / 4)) (p % 4 + 1) := by
      rw [hw, hbv, ← h3]
      have hm : p % 4 = 0 ∨ p % 4 = 1 ∨ p % 4 = 2 ∨ p % 4 = 3 := by omega
      rcases hm with e | e | e | e <;> rw [e] <;> simp only [Nat.reduceMul, Nat.reduceAdd, Nat.reducePow] <;> omega
    refine ⟨_, ea, fun q hq => ?_, ?_⟩
    · by_cases e : q = p / 4
      · have h4 : p % 4 = 3 := by omega
        rw [e, pk_us]
        rw [h4] at hlow
        unfold beW
        rw [← hlow]
        apply uw_inj
        have := uw_lt (ls (ws (p / 4)) 8 ||| nI (uw (f (B + p)) % 256))
        rw [Nat.mod_eq_of_lt this, uw_nI this]
      · rw [pk_un e]
        exact h2 q (by omega)
    · by_cases h4 : p % 4 = 3
      · rw [show (p + 1) % 4 = 0 by omega]
        simp [bvN]
        omega
      · rw [show (p + 1) / 4 = p / 4 by omega, show (p + 1) % 4 = p % 4 + 1 by omega, pk_us]
        exact hlow
theorem chunk64 (f : Nat → Int32) (B : Nat) (S w0 : Nat → Int32) : ∃ ws, eat (S, w0, 0) (mb f B 64) = (mixS S ws, scN 48 ws, 0) ∧ ∀ q, q < 16 → ws q = beW f B q := by
  obtain ⟨ws, h1, h2, h3⟩ := chunk f B S w0 63 (by omega)
  rw [mb_s, eat_s, h1]
  have hb : uw (f (B + 63)) % 256 < 256 := Nat.mod_lt _ (by decide)
  have hw := absorb_word (ws 15) hb
  generalize nI (uw (f (B + 63)) % 256) = by_ at hw
  have ea : absorb (S, ws, 63) by_ = (mixS S (upd ws (63 / 4) (ls (ws (63 / 4)) 8 ||| by_)), scN 48 (upd ws (63 / 4) (ls (ws (63 / 4)) 8 ||| by_)), 0) := if_pos rfl
  refine ⟨upd ws (63 / 4) (ls (ws (63 / 4)) 8 ||| by_), ea, fun q hq => ?_⟩
  rw [show 63 / 4 = 15 from rfl]
  by_cases e : q = 15
  · rw [e, pk_us]
    unfold beW
    rw [bvN, ← show uw (ws 15) % 2 ^ 24 = bvN f (B + 4 * 15) 3 from h3]
    apply uw_inj
    have := uw_lt (ws 15)
    rw [hw, uw_nI (by rw [show B + 4 * 15 + 3 = B + 63 by omega]; omega), show B + 4 * 15 + 3 = B + 63 by omega]
    omega
  · rw [pk_un e]
    exact h2 q (by omega)
def bk (f : Nat → Int32) : Nat → Nat → Int32
  | 0 => ab_l ab_start
  | k + 1 => mixS (bk f k) (beW f (64 * k))
theorem blocksE (f S w : Nat → Int32) (hS : ∀ j, j < 8 → S j = ab_l ab_start j) : ∀ K, ∃ S1 w1, eat (S, w, 0) (mb f 0 (64 * K)) = (S1, w1, 0) ∧ ∀ j, j < 8 → S1 j = bk f K j
  | 0 => ⟨S, w, rfl, hS⟩
  | K + 1 => by
    obtain ⟨S1, w1, h1, h2⟩ := blocksE f S w hS K
    obtain ⟨ws, h3, h4⟩ := chunk64 f (0 + 64 * K) S1 w1
    refine ⟨mixS S1 ws, scN 48 ws, ?_, fun j hj => ?_⟩
    · rw [show 64 * (K + 1) = 64 * K + 64 by omega, mb_app, eat_app, h1]
      exact h3
    · exact mix_alike h2 (fun q hq => by rw [h4 q hq, Nat.zero_add]) hj
/-- zeros behind the first byte of padding -/
def pz (n : Nat) : Nat := (119 - n % 64) % 64
theorem pz_56 (n : Nat) : (n + 1 + pz n) % 64 = 56 := by unfold pz; omega
theorem eat_fl : ∀ (l : List Int32) (s : SS), s.2.2 < 64 → (eat s l).2.2 = (s.2.2 + l.length) % 64
  | [], s, h => by show s.2.2 = (s.2.2 + 0) % 64; omega
  | b :: l, s, h => by
    show (eat (absorb s b) l).2.2 = _
    rw [eat_fl l _ (absorb_lt h), List.length_cons]
    have : (absorb s b).2.2 = (s.2.2 + 1) % 64 := by
      unfold absorb
      split
      · rename_i e; show 0 = _; omega
      · rename_i e; show s.2.2 + 1 = _; omega
    rw [this]
    omega
theorem pad_eat : ∀ (z i : Nat) (s : SS), s.2.2 < 64 → z ≤ i → (∀ t, t < z → (s.2.2 + t) % 64 ≠ 56) → (s.2.2 + z) % 64 = 56 → z < i → padF i s = eat s (List.replicate z 0)
  | 0, i, s, h, _, _, h56, hi => by
    obtain ⟨i, rfl⟩ : ∃ i', i = i' + 1 := ⟨i - 1, by omega⟩
    unfold padF
    rw [if_pos (by omega)]
    rfl
  | z + 1, i, s, h, hz, hno, h56, hi => by
    obtain ⟨i, rfl⟩ : ∃ i', i = i' + 1 := ⟨i - 1, by omega⟩
    unfold padF
    rw [if_neg (by have := hno 0 (by omega); omega)]
    have e : putF 1 0 s = absorb s 0 := rfl
    have hf : (absorb s 0).2.2 = (s.2.2 + 1) % 64 := eat_fl [0] s h
    rw [e, pad_eat z i (absorb s 0) (absorb_lt h) (by omega) (fun t ht => by rw [hf]; have := hno (t + 1) (by omega); omega) (by rw [hf]; omega) (by omega)]
    rfl
/-- the message with its padding -/
def fullL (msg : List Int32) : List Int32 := msg ++ (128 :: List.replicate (pz msg.length) 0) ++ (bys 4 0 ++ bys 4 (8 * nI msg.length))
theorem fullL_len (msg : List Int32) : (fullL msg).length = msg.length + 9 + pz msg.length := by
  unfold fullL
  simp [bys_len]
  omega
theorem dg_full (S w : Nat → Int32) (msg : List Int32) : endF (eat (S, w, 0) msg) (nI msg.length) = eat (S, w, 0) (fullL msg) := by
  have hl := eat_fl msg (S, w, 0) (by show 0 < 64; omega)
  have h128 : putF 1 128 (eat (S, w, 0) msg) = eat (S, w, 0) (msg ++ [128]) := by rw [eat_app]; rfl
  have hl2 : (eat (S, w, 0) (msg ++ [128])).2.2 = (msg.length + 1) % 64 := by
    rw [eat_fl _ _ (by show 0 < 64; omega)]
    show (0 + _) % 64 = _
    simp
  unfold endF
  rw [h128, pad_eat (pz msg.length) 64 _ (by rw [hl2]; omega) (by unfold pz; omega) (fun t ht => by rw [hl2]; unfold pz at ht; omega) (by rw [hl2]; unfold pz; omega) (by unfold pz; omega), putF_bys, putF_bys]
  unfold fullL
  rw [show eat (eat (S, w, 0) (msg ++ [128])) (List.replicate (pz msg.length) 0) = eat (S, w, 0) (msg ++ (128 :: List.replicate (pz msg.length) 0)) by rw [← eat_app]; simp]
  show eat (eat (eat _ _) _) _ = _
  rw [← eat_app, ← eat_app, List.append_assoc]
/-- byte i of the padded message -/
def FB (msg : List Int32) (i : Nat) : Nat := if i < msg.length then uw (msg.getD i 0) else if i = msg.length then 128 else if i < msg.length + 1 + pz msg.length then 0 else 8 * msg.length / 2 ^ (8 * (msg.length + 8 + pz msg.length - i)) % 256
theorem bys_get (x : Int32) : ∀ k i, i < k → k ≤ 4 → uw ((bys k x).getD i 0) = uw x / 2 ^ (8 * (k - 1 - i)) % 256
  | 0, i, h, _ => by omega
  | k + 1, 0, h, h4 => by
    show uw (us x (8 * nI k) &&& 255) = _
    rw [pk_and _ (m := 255) 8 rfl, uw_nI (Nat.lt_trans (Nat.mod_lt _ (by decide)) (by decide))]
    show uw (us x (8 * nI k)) % 256 = _
    rw [show (8 : Int32) * nI k = nI (8 * k) from pk_mul 8 k, us_k x (8 * k) (by omega)]
    rfl
  | k + 1, i + 1, h, h4 => by
    show uw ((bys k x).getD i 0) = _
    rw [bys_get x k i (by omega) (by omega), show k + 1 - 1 - (i + 1) = k - 1 - i by omega]
theorem full_get (msg : List Int32) (h : msg.length < 2 ^ 20) {i : Nat} (hi : i < (fullL msg).length) : uw ((fullL msg).getD i 0) = FB msg i := by
  rw [fullL_len] at hi
  unfold FB fullL
  have hz := pz_56 msg.length
  rw [List.getD_eq_getElem?_getD, List.append_assoc]
  by_cases h1 : i < msg.length
  · rw [if_pos h1, List.getElem?_append_left h1, List.getD_eq_getElem?_getD]
  rw [if_neg h1, List.getElem?_append_right (by omega)]
  by_cases h2 : i = msg.length
  · rw [if_pos h2, h2, Nat.sub_self]
    rfl
  rw [if_neg h2]
  obtain ⟨t, ht⟩ : ∃ t, i - msg.length = t + 1 := ⟨i - msg.length - 1, by omega⟩
  rw [ht, List.cons_append, List.getElem?_cons_succ]
  by_cases h3 : i < msg.length + 1 + pz msg.length
  · rw [if_pos h3, List.getElem?_append_left (by simp; omega), List.getElem?_replicate, if_pos (by omega)]
    rfl
  rw [if_neg h3, List.getElem?_append_right (by simp; omega), List.length_replicate]
  by_cases h4 : t - pz msg.length < 4
  · rw [List.getElem?_append_left (by rw [bys_len]; omega), ← List.getD_eq_getElem?_getD, bys_get 0 4 _ (by omega) (by omega)]
    rw [show uw 0 = 0 from rfl, Nat.zero_div]
    obtain ⟨e, he⟩ : ∃ e, 8 * (msg.length + 8 + pz msg.length - i) = 32 + e := ⟨8 * (msg.length + 8 + pz msg.length - i) - 32, by omega⟩
    rw [he, Nat.pow_add, ← Nat.div_div_eq_div_mul, Nat.div_eq_of_lt (a := 8 * msg.length) (by omega), Nat.zero_div]
  · rw [List.getElem?_append_right (by rw [bys_len]; omega), bys_len, ← List.getD_eq_getElem?_getD, bys_get _ 4 _ (by omega) (by omega)]
    rw [show (8 : Int32) * nI msg.length = nI (8 * msg.length) from pk_mul 8 _, uw_nI (by omega), show 4 - 1 - (t - pz msg.length - 4) = msg.length + 8 + pz msg.length - i by omega]
theorem FB_lt {msg : List Int32} (hm : ∀ x ∈ msg, uw x < 256) (i : Nat) : FB msg i < 256 := by
  unfold FB
  split
  · rename_i h
    rw [List.getD_eq_getElem?_getD, List.getElem?_eq_getElem h]
    exact hm _ (List.getElem_mem h)
  · split
    · decide
    · split
      · decide
      · exact Nat.mod_lt _ (by decide)
/-- THE DIGEST by blocks -/
theorem dig_bk {msg : List Int32} (h : msg.length < 2 ^ 20) (hm : ∀ x ∈ msg, uw x < 256) {f : Nat → Int32} {K : Nat} (hK : 64 * K = msg.length + 9 + pz msg.length) (hf : ∀ i, i < 64 * K → uw (f i) % 256 = FB msg i) {j : Nat} (hj : j < 8) : bk f K j = dig msg j := by
  unfold dig dg
  rw [dg_full]
  have e : fullL msg = mb f 0 (64 * K) := by
    apply List.ext_getElem?
    intro i
    by_cases hi : i < 64 * K
    · have hi2 : i < (fullL msg).length := by rw [fullL_len]; omega
      have e1 := full_get msg h hi2
      rw [List.getD_eq_getElem?_getD, List.getElem?_eq_getElem hi2] at e1
      rw [List.getElem?_eq_getElem hi2]
      unfold mb
      rw [List.getElem?_map, List.getElem?_range hi]
      show some _ = some (nI (uw (f (0 + i)) % 256))
      rw [Nat.zero_add, hf i hi, ← e1]
      exact congrArg some (nI_uw _).symm
    · rw [List.getElem?_eq_none (by rw [fullL_len]; omega), List.getElem?_eq_none (by unfold mb; simp; omega)]
  obtain ⟨S1, w1, h1, h2⟩ := blocksE f (va_cpy (ab_l ab_start) (fun _ => 0) 0 0 8) (fun _ => 0) (fun j hj => by rw [pk_cpy_in (by omega) (by omega), Nat.zero_add, Nat.sub_zero]) K
  rw [e, h1]
  exact (h2 j hj).symm
