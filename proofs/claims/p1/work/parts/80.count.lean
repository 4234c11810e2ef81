/-! Counting orders. -/
def dec (n y c : Nat) : Nat := y / 9 ^ (n - 1 - c) % 9
theorem enc_dec : ∀ (n y : Nat), y < 9 ^ n → enc (dec n y) n = y := by
  have gen : ∀ (m n y : Nat), m ≤ n → enc (dec n y) m = y / 9 ^ (n - m) % 9 ^ m := by
    intro m
    induction m with
    | zero => intro n y _; rw [enc, Nat.pow_zero, Nat.mod_one]
    | succ m ih =>
      intro n y hm
      rw [enc, ih n y (by omega)]
      unfold dec
      rw [show n - 1 - m = n - (m + 1) by omega, show n - m = (n - (m + 1)) + 1 by omega, Nat.pow_succ 9 (n - (m + 1)), ← Nat.div_div_eq_div_mul]
      generalize y / 9 ^ (n - (m + 1)) = z
      rw [Nat.pow_succ, Nat.mul_comm (9 ^ m) 9, Nat.mod_mul]
      omega
  intro n y hy
  rw [gen n n y (Nat.le_refl _), Nat.sub_self, Nat.pow_zero, Nat.div_one, Nat.mod_eq_of_lt hy]
theorem enc_bd {h : Nat → Nat} : ∀ {n : Nat}, (∀ c, c < n → h c ≤ 8) → enc h n < 9 ^ n
  | 0, _ => by show 0 < 1; omega
  | n + 1, h8 => by
    have := enc_bd (n := n) (fun c hc => h8 c (by omega))
    have := h8 n (by omega)
    rw [enc, Nat.pow_succ]
    omega
theorem dec_le (n y c : Nat) : dec n y c ≤ 8 := by unfold dec; omega
theorem dec_enc {n : Nat} {h : Nat → Nat} (h8 : ∀ c, c < n → h c ≤ 8) : ∀ c, c < n → dec n (enc h n) c = h c := enc_inj (fun c _ => dec_le _ _ _) h8 (enc_dec n _ (enc_bd h8))
theorem PermH_congr {n : Nat} {h s : Nat → Nat} (e : ∀ c, c < n → h c = s c) (hp : PermH n h) : PermH n s := ⟨fun c hc => by rw [← e c hc]; exact hp.1 c hc, fun i j hij hj q => hp.2 i j hij hj (by rw [e i (by omega), e j hj]; exact q)⟩
/-- P looks at the first n numbers only -/
def Loc (n : Nat) (P : (Nat → Nat) → Prop) : Prop := ∀ h s : Nat → Nat, (∀ c, c < n → h c = s c) → P h → P s
/-- how many orders before x have P -/
noncomputable def nP (n : Nat) (P : (Nat → Nat) → Prop) (x : Nat) : Nat := cntP (fun y => PermH n (dec n y) ∧ P (dec n y)) 0 x
theorem nP_le (n : Nat) (P : (Nat → Nat) → Prop) (x : Nat) : nP n P x ≤ x := cntP_le x
theorem nP_yes {n : Nat} {P : (Nat → Nat) → Prop} (hn : n ≤ 8) (hl : Loc n P) {h : Nat → Nat} (hp : PermH n h) (hP : P h) : nP n P (enc h n + 1) = nP n P (enc h n) + 1 :=
  cntP_yes ⟨by omega, PermH_congr (fun c hc => (dec_enc (perm8 hn hp) c hc).symm) hp, hl h _ (fun c hc => (dec_enc (perm8 hn hp) c hc).symm) hP⟩
theorem nP_no {n : Nat} {P : (Nat → Nat) → Prop} (hn : n ≤ 8) (hl : Loc n P) {h : Nat → Nat} (hp : PermH n h) (hP : ¬ P h) : nP n P (enc h n + 1) = nP n P (enc h n) :=
  cntP_no (fun q => hP (hl _ h (fun c hc => dec_enc (perm8 hn hp) c hc) q.2.2))
theorem cntP_gap {P : Nat → Prop} {a : Nat} : ∀ {b : Nat}, a ≤ b → (∀ y, a ≤ y → y < b → ¬ P y) → cntP P 0 b = cntP P 0 a
  | 0, h, _ => by rw [show a = 0 by omega]
  | b + 1, h, hno => by
    by_cases e : a = b + 1
    · rw [e]
    · rw [cntP_no (fun q => hno b (by omega) (by omega) q.2), cntP_gap (by omega) (fun y h1 h2 => hno y h1 (by omega))]
theorem nP_gap {n : Nat} {P : (Nat → Nat) → Prop} {x y : Nat} (hxy : x ≤ y) (hy : y ≤ 9 ^ n) (h : ∀ s, PermH n s → enc s n < x ∨ y ≤ enc s n) : nP n P y = nP n P x := by
  refine cntP_gap hxy (fun z h1 h2 q => ?_)
  have e := enc_dec n z (by omega)
  rcases h _ q.1 with a | a <;> omega
theorem nP_step {n : Nat} {P : (Nat → Nat) → Prop} (hn : n ≤ 8) {h h' : Nat → Nat} (hp' : PermH n h') (hlt : enc h n < enc h' n) (hnx : ∀ s, PermH n s → enc h n < enc s n → enc h' n ≤ enc s n) : nP n P (enc h' n) = nP n P (enc h n + 1) :=
  nP_gap (by omega) (Nat.le_of_lt (enc_bd (perm8 hn hp'))) (fun s sp => by
    rcases Nat.lt_or_ge (enc h n) (enc s n) with a | a
    · exact Or.inr (hnx s sp a)
    · exact Or.inl (by omega))
theorem nP_end {n : Nat} {P : (Nat → Nat) → Prop} (hn : n ≤ 8) {h : Nat → Nat} (hp : PermH n h) (hmax : ∀ s, PermH n s → enc s n ≤ enc h n) : nP n P (9 ^ n) = nP n P (enc h n + 1) :=
  nP_gap (enc_bd (perm8 hn hp)) (Nat.le_refl _) (fun s sp => Or.inl (by have := hmax s sp; omega))
theorem id_perm (n : Nat) : PermH n (fun c => c + 1) := ⟨fun c hc => ⟨by show 1 ≤ c + 1; omega, by show c + 1 ≤ n; omega⟩, fun i j hij _ e => by have e : i + 1 = j + 1 := e; omega⟩
theorem id_least {n : Nat} (hn : n ≤ 8) : ∀ s, PermH n s → enc (fun c => c + 1) n ≤ enc s n := by
  intro s sp
  apply Decidable.byContradiction
  intro hgt
  obtain ⟨c, h1, h2, h3⟩ := enc_cmp (perm8 hn sp) (perm8 hn (id_perm n)) (by omega)
  obtain ⟨x, hx, _, e⟩ := perm_rest (id_perm n) sp (fun c' hc' => (h2 c' hc').symm) (Nat.le_refl c) h1
  have e : s c = x + 1 := e
  have h3 : s c < c + 1 := h3
  omega
theorem nP_0 {n : Nat} (hn : n ≤ 8) (P : (Nat → Nat) → Prop) : nP n P (enc (fun c => c + 1) n) = 0 := by
  have := nP_gap (P := P) (n := n) (Nat.zero_le _) (Nat.le_of_lt (enc_bd (perm8 hn (id_perm n)))) (fun s sp => Or.inr (id_least hn s sp))
  rw [this]
  rfl
theorem rn_loc {n P : Nat} {h s : Nat → Nat} (e : ∀ c, c < n → h c = s c) (hP : P < 8 → 7 - P < n) : rn h P = rn s P := by
  unfold rn
  split
  · rename_i q; rw [e _ (hP q)]
  · rfl
theorem rnK_loc {n K : Nat} {h s : Nat → Nat} (e : ∀ c, c < n → h c = s c) (hK : ∀ p, p < 3 → kp K p < 8 → 7 - kp K p < n) : rnK h K = rnK s K := by
  unfold rnK
  rw [rn_loc e (hK 0 (by omega)), rn_loc e (hK 1 (by omega)), rn_loc e (hK 2 (by omega))]
/-- the keys' blanks are among the first nb -/
def keyN_ (q : Nat → Nat) (nt nb : Nat) : Prop := ∀ i, i < nt → q i < 2 ^ 30 ∧ ∀ p, p < 3 → kp (q i) p < 1009 ∧ (kp (q i) p < 8 → 7 - kp (q i) p < nb)
theorem row_loc {n nt : Nat} {q h s : Nat → Nat} (hq : keyN_ q nt n) (e : ∀ c, c < n → h c = s c) : rowL q nt h = rowL q nt s := by
  unfold rowL
  exact congrArg srtN (List.map_congr_left (fun i hi => rnK_loc e (fun p hp => ((hq i (List.mem_range.mp hi)).2 p hp).2)))
