/-! Orders of numbers: the next one. -/
def PermH (n : Nat) (h : Nat → Nat) : Prop := (∀ c, c < n → 1 ≤ h c ∧ h c ≤ n) ∧ ∀ i j, i < j → j < n → h i ≠ h j
/-- an order as one number -/
def enc (h : Nat → Nat) : Nat → Nat
  | 0 => 0
  | c + 1 => enc h c * 9 + h c
theorem enc_eq {h s : Nat → Nat} : ∀ {n : Nat}, (∀ c, c < n → h c = s c) → enc h n = enc s n
  | 0, _ => rfl
  | n + 1, e => by rw [enc, enc, enc_eq (n := n) (fun c hc => e c (by omega)), e n (by omega)]
theorem enc_up {h s : Nat → Nat} {i : Nat} (hl : enc h i < enc s i) : ∀ {n : Nat}, i ≤ n → (∀ c, c < n → h c ≤ 8) → enc h n < enc s n
  | 0, hi, _ => by rw [show i = 0 by omega] at hl; exact hl
  | n + 1, hi, h8 => by
    by_cases e : i = n + 1
    · rw [e] at hl; exact hl
    · have ih := enc_up hl (n := n) (by omega) (fun c hc => h8 c (by omega))
      have := h8 n (by omega)
      rw [enc, enc]
      omega
theorem enc_lt {h s : Nat → Nat} {n c : Nat} (hc : c < n) (e : ∀ c', c' < c → h c' = s c') (hl : h c < s c) (h8 : ∀ c, c < n → h c ≤ 8) : enc h n < enc s n := by
  refine enc_up (i := c + 1) ?_ (by omega) h8
  rw [enc, enc, enc_eq e]
  omega
theorem enc_inj {h s : Nat → Nat} : ∀ {n : Nat}, (∀ c, c < n → h c ≤ 8) → (∀ c, c < n → s c ≤ 8) → enc h n = enc s n → ∀ c, c < n → h c = s c
  | 0, _, _, _, c, hc => by omega
  | n + 1, h8, s8, e, c, hc => by
    have a := h8 n (by omega)
    have b := s8 n (by omega)
    rw [enc, enc] at e
    by_cases q : c = n
    · rw [q]; omega
    · exact enc_inj (n := n) (fun c hc => h8 c (by omega)) (fun c hc => s8 c (by omega)) (by omega) c (by omega)
theorem enc_cmp {h s : Nat → Nat} : ∀ {n : Nat}, (∀ c, c < n → h c ≤ 8) → (∀ c, c < n → s c ≤ 8) → enc h n < enc s n → ∃ c, c < n ∧ (∀ c', c' < c → h c' = s c') ∧ h c < s c
  | 0, _, _, e => by simp [enc] at e
  | n + 1, h8, s8, e => by
    have a := h8 n (by omega)
    have b := s8 n (by omega)
    rw [enc, enc] at e
    rcases Nat.lt_trichotomy (enc h n) (enc s n) with q | q | q
    · obtain ⟨c, h1, h2, h3⟩ := enc_cmp (n := n) (fun c hc => h8 c (by omega)) (fun c hc => s8 c (by omega)) q
      exact ⟨c, by omega, h2, h3⟩
    · exact ⟨n, by omega, enc_inj (fun c hc => h8 c (by omega)) (fun c hc => s8 c (by omega)) q, by omega⟩
    · omega
theorem perm_sur {n : Nat} {h : Nat → Nat} (hp : PermH n h) {v : Nat} (h1 : 1 ≤ v) (h2 : v ≤ n) : ∃ e, e < n ∧ h e = v := by
  obtain ⟨j, hj, e⟩ := sur_of_inj n (fun c => h c - 1) (fun c hc => by have := hp.1 c hc; show h c - 1 < n; omega) (fun i j hij hj e => by have a := hp.1 i (by omega); have b := hp.1 j hj; have e : h i - 1 = h j - 1 := e; exact hp.2 i j hij hj (by omega)) (v - 1) (by omega)
  have := hp.1 j hj
  have e : h j - 1 = v - 1 := e
  exact ⟨j, hj, by omega⟩
/-- where two orders agree before c, what the one has from c on the other has from c on -/
theorem perm_rest {n c : Nat} {h s : Nat → Nat} (hp : PermH n h) (sp : PermH n s) (e : ∀ c', c' < c → h c' = s c') {d : Nat} (hd : c ≤ d) (hdn : d < n) : ∃ x, c ≤ x ∧ x < n ∧ s d = h x := by
  obtain ⟨x, hx, e2⟩ := perm_sur hp (sp.1 d hdn).1 (sp.1 d hdn).2
  refine ⟨x, ?_, hx, e2.symm⟩
  rcases Nat.lt_or_ge x c with q | q
  · exact absurd (show s x = s d by rw [← e x q, e2]) (sp.2 x d (by omega) hdn)
  · exact q
theorem perm8 {n : Nat} {h : Nat → Nat} (hn : n ≤ 8) (hp : PermH n h) : ∀ c, c < n → h c ≤ 8 := fun c hc => by have := hp.1 c hc; omega
theorem dec_all {n k : Nat} {h : Nat → Nat} (hd : ∀ i, k ≤ i → i + 1 < n → h (i + 1) < h i) : ∀ i j, k ≤ i → i < j → j < n → h j < h i := by
  intro i j hi hij hj
  induction j with
  | zero => omega
  | succ j ih =>
    by_cases e : i = j
    · rw [e]; exact hd j (by omega) hj
    · have := ih (by omega) (by omega)
      have := hd j (by omega) hj
      omega
theorem perm_last {n : Nat} (hn : n ≤ 8) {h : Nat → Nat} (hp : PermH n h) (hd : ∀ i, i + 1 < n → h (i + 1) < h i) : ∀ s, PermH n s → enc s n ≤ enc h n := by
  intro s sp
  apply Decidable.byContradiction
  intro hgt
  obtain ⟨c, h1, h2, h3⟩ := enc_cmp (perm8 hn hp) (perm8 hn sp) (by omega)
  obtain ⟨x, hx, hxn, e⟩ := perm_rest hp sp h2 (Nat.le_refl c) h1
  by_cases q : x = c
  · rw [q] at e; omega
  · have := dec_all (k := 0) (fun i _ hi => hd i hi) c x (by omega) (by omega) hxn
    omega
def swp (h : Nat → Nat) (P j x : Nat) : Nat := if x = P then h j else if x = j then h P else h x
def piv (n P x : Nat) : Nat := if x ≤ P then x else n + P - x
def nxt (n P j : Nat) (h : Nat → Nat) (x : Nat) : Nat := swp h P j (piv n P x)
theorem swp_perm {n P j : Nat} {h : Nat → Nat} (hp : PermH n h) (hP : P < j) (hj : j < n) : PermH n (swp h P j) := by
  refine ⟨fun c hc => ?_, fun a b hab hb => ?_⟩
  · unfold swp
    split
    · exact hp.1 j hj
    · split
      · exact hp.1 P (by omega)
      · exact hp.1 c hc
  · have inj : ∀ x y, x < n → y < n → h x = h y → x = y := fun x y hx hy e => by
      rcases Nat.lt_trichotomy x y with q | q | q
      · exact absurd e (hp.2 x y q hy)
      · exact q
      · exact absurd e.symm (hp.2 y x q hx)
    unfold swp
    intro e
    split at e <;> split at e <;> first | (split at e <;> first | (have := inj _ _ (by omega) (by omega) e; omega) | skip) | (have := inj _ _ (by omega) (by omega) e; omega)
    all_goals first | (split at e <;> (have := inj _ _ (by omega) (by omega) e; omega)) | (have := inj _ _ (by omega) (by omega) e; omega)
theorem nxt_perm {n P j : Nat} {h : Nat → Nat} (hp : PermH n h) (hP : P < j) (hj : j < n) : PermH n (nxt n P j h) := by
  have hs := swp_perm hp hP hj
  have hpl : ∀ x, x < n → piv n P x < n := fun x hx => by unfold piv; split <;> omega
  refine ⟨fun c hc => hs.1 _ (hpl c hc), fun a b hab hb e => ?_⟩
  have hne : piv n P a ≠ piv n P b := by unfold piv; split <;> split <;> omega
  rcases Nat.lt_or_ge (piv n P a) (piv n P b) with q | q
  · exact hs.2 _ _ q (hpl b hb) e
  · exact hs.2 _ _ (by omega) (hpl a (by omega)) e.symm
theorem nxt_least {n P j : Nat} {h : Nat → Nat} (hn : n ≤ 8) (hp : PermH n h) (hP : P < j) (hj : j < n) (hd : ∀ i, P + 1 ≤ i → i + 1 < n → h (i + 1) < h i) (hup : h P < h j) (hlow : ∀ i, j < i → i < n → h i < h P) : enc h n < enc (nxt n P j h) n ∧ ∀ s, PermH n s → enc h n < enc s n → enc (nxt n P j h) n ≤ enc s n := by
  have hnp := nxt_perm hp hP hj
  have da := dec_all hd
  have pvl : ∀ x, x ≤ P → piv n P x = x := fun x hx => if_pos hx
  have pvh : ∀ x, P < x → piv n P x = n + P - x := fun x hx => if_neg (by omega)
  have sw : ∀ x, P < x → swp h P j x = if x = j then h P else h x := fun x hx => if_neg (by omega)
  have nlo : ∀ x, x < P → nxt n P j h x = h x := fun x hx => by
    show swp h P j (piv n P x) = h x
    rw [pvl x (by omega)]
    unfold swp
    rw [if_neg (by omega), if_neg (by omega)]
  have nP : nxt n P j h P = h j := by
    show swp h P j (piv n P P) = h j
    rw [pvl P (Nat.le_refl _)]
    exact if_pos rfl
  have sdec : ∀ a b, P < a → a < b → b < n → swp h P j b < swp h P j a := fun a b ha hab hb => by
    rw [sw a ha, sw b (by omega)]
    by_cases e1 : b = j
    · rw [if_pos e1, if_neg (by omega)]
      have := da a j (by omega) (by omega) hj
      omega
    · rw [if_neg e1]
      by_cases e2 : a = j
      · rw [if_pos e2]; exact hlow b (by omega) hb
      · rw [if_neg e2]; exact da a b (by omega) hab hb
  have ninc : ∀ a b, P < a → a < b → b < n → nxt n P j h a < nxt n P j h b := fun a b ha hab hb => by
    show swp h P j (piv n P a) < swp h P j (piv n P b)
    rw [pvh a ha, pvh b (by omega)]
    exact sdec _ _ (by omega) (by omega) (by omega)
  refine ⟨enc_lt (c := P) (by omega) (fun c' hc' => (nlo c' hc').symm) (by rw [nP]; exact hup) (perm8 hn hp), fun s sp hlt => ?_⟩
  obtain ⟨c, h1, h2, h3⟩ := enc_cmp (perm8 hn hp) (perm8 hn sp) hlt
  obtain ⟨x, hx, hxn, e⟩ := perm_rest hp sp h2 (Nat.le_refl c) h1
  rcases Nat.lt_trichotomy c P with q | q | q
  · exact Nat.le_of_lt (enc_lt (c := c) h1 (fun c' hc' => by rw [nlo c' (by omega)]; exact h2 c' hc') (by rw [nlo c q]; exact h3) (perm8 hn hnp))
  · subst q
    have hge : h j ≤ s c := by
      rw [e]
      rcases Nat.lt_trichotomy x j with z | z | z
      · by_cases ex : x = c
        · rw [ex] at e; omega
        · have := da x j (by omega) z hj; omega
      · rw [z]; exact Nat.le_refl _
      · have := hlow x z hxn
        rw [← e] at this; omega
    by_cases hgt : h j < s c
    · exact Nat.le_of_lt (enc_lt (c := c) h1 (fun c' hc' => by rw [nlo c' hc']; exact h2 c' hc') (by rw [nP]; exact hgt) (perm8 hn hnp))
    · have heq : s c = h j := by omega
      apply Decidable.byContradiction
      intro hng
      obtain ⟨d, d1, d2, d3⟩ := enc_cmp (perm8 hn sp) (perm8 hn hnp) (by omega)
      have hdP : c < d := by
        rcases Nat.lt_trichotomy d c with z | z | z
        · rw [nlo d z, h2 d z] at d3; omega
        · subst z; rw [nP] at d3; omega
        · exact z
      obtain ⟨y, hy, hyn, ey⟩ := perm_rest hnp sp (fun c' hc' => (d2 c' hc').symm) (Nat.le_refl d) d1
      by_cases ed : y = d
      · rw [ed] at ey; omega
      · have := ninc d y hdP (by omega) hyn
        omega
  · by_cases ex : x = c
    · rw [ex] at e; omega
    · have := da c x (by omega) (by omega) hxn
      omega
