/-! The class's search finds the least row of all namings. -/
theorem gdf_spec {p q : Nat → Nat} : ∀ n, (∀ b, b < n → p b ≠ q b → p b ≤ gdf p q n) ∧ (gdf p q n = 0 ∨ ∃ b, b < n ∧ p b ≠ q b ∧ p b = gdf p q n)
  | 0 => ⟨fun b hb => by omega, Or.inl rfl⟩
  | n + 1 => by
    obtain ⟨h1, h2⟩ := gdf_spec (p := p) (q := q) n
    by_cases e : p n = q n
    · have eg : gdf p q (n + 1) = gdf p q n := by rw [gdf, if_pos e]
      rw [eg]
      refine ⟨fun b hb hne => ?_, ?_⟩
      · by_cases z : b = n
        · rw [z] at hne; exact absurd e hne
        · exact h1 b (by omega) hne
      · rcases h2 with z | ⟨b, hb, z⟩
        · exact Or.inl z
        · exact Or.inr ⟨b, by omega, z⟩
    · have eg : gdf p q (n + 1) = max (gdf p q n) (p n) := by rw [gdf, if_neg e]
      rw [eg]
      refine ⟨fun b hb hne => ?_, ?_⟩
      · by_cases z : b = n
        · rw [z]; omega
        · have := h1 b (by omega) hne; omega
      · rcases Nat.lt_or_ge (p n) (gdf p q n) with z | z
        · rcases h2 with y | ⟨b, hb, y1, y2⟩
          · omega
          · exact Or.inr ⟨b, by omega, y1, by omega⟩
        · exact Or.inr ⟨n, by omega, e, by omega⟩
/-- sorted lists that dominate place by place -/
theorem srt_dom {l l' : List Nat} (hl : l.Pairwise (· ≤ ·)) (hl' : l'.Pairwise (· ≤ ·)) {f g : Nat → Nat} {n : Nat} (h1 : l.Perm ((List.range n).map f)) (h2 : l'.Perm ((List.range n).map g)) (hfg : ∀ i, i < n → f i ≤ g i) : ∀ j, j < n → l.getD j 0 ≤ l'.getD j 0 := by
  intro j hj
  apply Decidable.byContradiction
  intro hgt
  have ln : l.length = n := by rw [h1.length_eq]; simp
  have ln' : l'.length = n := by rw [h2.length_eq]; simp
  have get : ∀ (m : List Nat), m.Pairwise (· ≤ ·) → ∀ a b, a ≤ b → b < m.length → m.getD a 0 ≤ m.getD b 0 := fun m hm a b hab hb => by
    by_cases e : a = b
    · rw [e]; exact Nat.le_refl _
    · rw [List.getD_eq_getElem?_getD, List.getD_eq_getElem?_getD, List.getElem?_eq_getElem hb, List.getElem?_eq_getElem (by omega)]
      exact List.pairwise_iff_getElem.mp hm a b (by omega) hb (by omega)
  -- count the places with values at most X
  have cnt : ∀ (m : List Nat) (u : Nat → Nat) (X : Nat), m.Perm ((List.range n).map u) → m.countP (fun z => decide (z ≤ X)) = (List.range n).countP (fun i => decide (u i ≤ X)) := fun m u X hm => by
    rw [hm.countP_eq, List.countP_map]
    rfl
  have c1 := cnt l f (l'.getD j 0) h1
  have c2 := cnt l' g (l'.getD j 0) h2
  have hle : (List.range n).countP (fun i => decide (g i ≤ l'.getD j 0)) ≤ (List.range n).countP (fun i => decide (f i ≤ l'.getD j 0)) := by
    apply List.countP_mono_left
    intro i hi hgi
    have := hfg i (List.mem_range.mp hi)
    have hgi := of_decide_eq_true hgi
    exact decide_eq_true (by omega)
  have lo : j + 1 ≤ l'.countP (fun z => decide (z ≤ l'.getD j 0)) := by
    have e := List.take_append_drop (j + 1) l'
    have hh : l'.countP (fun z => decide (z ≤ l'.getD j 0)) = (l'.take (j + 1)).countP (fun z => decide (z ≤ l'.getD j 0)) + (l'.drop (j + 1)).countP (fun z => decide (z ≤ l'.getD j 0)) := by
      rw [← List.countP_append, e]
    have ha : (l'.take (j + 1)).countP (fun z => decide (z ≤ l'.getD j 0)) = (l'.take (j + 1)).length := List.countP_eq_length.mpr (fun z hz => by
      obtain ⟨i, hi, rfl⟩ := List.mem_iff_getElem.mp hz
      rw [List.length_take] at hi
      rw [List.getElem_take]
      have := get l' hl' i j (by omega) (by omega)
      rw [List.getD_eq_getElem?_getD, List.getElem?_eq_getElem (by omega)] at this
      exact decide_eq_true this)
    rw [hh, ha, List.length_take]
    omega
  have hi : l.countP (fun z => decide (z ≤ l'.getD j 0)) ≤ j := by
    have e := List.take_append_drop j l
    have hh : l.countP (fun z => decide (z ≤ l'.getD j 0)) = (l.take j).countP (fun z => decide (z ≤ l'.getD j 0)) + (l.drop j).countP (fun z => decide (z ≤ l'.getD j 0)) := by
      rw [← List.countP_append, e]
    have hb : (l.drop j).countP (fun z => decide (z ≤ l'.getD j 0)) = 0 := List.countP_eq_zero.mpr (fun z hz => by
      obtain ⟨i, hi, rfl⟩ := List.mem_iff_getElem.mp hz
      rw [List.length_drop] at hi
      rw [List.getElem_drop]
      have := get l hl j (j + i) (by omega) (by omega)
      rw [List.getD_eq_getElem?_getD (l := l) (i := j + i), List.getElem?_eq_getElem (by omega)] at this
      have this : l.getD j 0 ≤ l[j + i] := this
      intro q
      have q := of_decide_eq_true q
      omega)
    have ha := List.countP_le_length (p := fun z => decide (z ≤ l'.getD j 0)) (l := l.take j)
    rw [List.length_take] at ha
    omega
  omega
theorem rowF_dom {q g h : Nat → Nat} {nt : Nat} (hle : ∀ i, i < nt → rnK g (q i) ≤ rnK h (q i)) : ∀ j, j < nt → rowF q nt g j ≤ rowF q nt h j := srt_dom (srtN_sorted _) (srtN_sorted _) (srtN_perm _) (srtN_perm _) hle
theorem rowF_strict {q h : Nat → Nat} {nt nb : Nat} (hnb : nb ≤ 8) (hq : Vk q nt nb) (hp : PermH nb h) : ∀ i j, i < j → j < nt → rowF q nt h i < rowF q nt h j := by
  intro i j hij hj
  have hn : ((List.range nt).map (fun i => rnK h (q i))).Nodup := by
    rw [List.nodup_iff_pairwise_ne, List.pairwise_map]
    refine List.Pairwise.imp_of_mem ?_ (List.nodup_iff_pairwise_ne.mp (List.nodup_range (n := nt)))
    intro a b ha hb hne e
    exact hne (Vk_inj hq (List.mem_range.mp ha) (List.mem_range.mp hb) (rnK_inj hnb hp (hq.1 a (List.mem_range.mp ha)) (hq.1 b (List.mem_range.mp hb)) e))
  have hn2 : (rowL q nt h).Nodup := (srtN_perm _).symm.nodup_iff.mp hn
  have hs : (rowL q nt h).Pairwise (· ≤ ·) := srtN_sorted _
  have ln := rowL_len q nt h
  unfold rowF
  rw [List.getD_eq_getElem?_getD, List.getD_eq_getElem?_getD, List.getElem?_eq_getElem (by omega), List.getElem?_eq_getElem (by omega)]
  have a : (rowL q nt h)[i] ≤ (rowL q nt h)[j] := List.pairwise_iff_getElem.mp hs i j (by omega) (by omega) hij
  have b : (rowL q nt h)[i] ≠ (rowL q nt h)[j] := List.pairwise_iff_getElem.mp (List.nodup_iff_pairwise_ne.mp hn2) i j (by omega) (by omega) hij
  show (rowL q nt h)[i] < (rowL q nt h)[j]
  omega
theorem pshF_dom {s r : Nat → Nat} {n : Nat} (hr : ∀ i j, i < j → j < n → r i < r j) (hd : ∀ j, j < n → s j ≤ r j) : ∀ j, j < n → pshF s j ≤ r j
  | 0, h => hd 0 h
  | j + 1, h => by
    have a := pshF_dom hr hd j (by omega)
    have b := hd (j + 1) h
    have c := hr j (j + 1) (by omega) h
    show max _ _ ≤ _
    omega
theorem pshF_self {s : Nat → Nat} {n : Nat} (hr : ∀ i j, i < j → j < n → s i < s j) : ∀ j, j < n → pshF s j = s j
  | 0, h => rfl
  | j + 1, h => by
    have a := pshF_self hr j (by omega)
    have c := hr j (j + 1) (by omega) h
    show max _ _ = _
    omega
section LS
variable {k : Nat → Nat} {nt nb : Nat} {H o rk st : Nat → Nat} {cn : Nat}
/-- numbers above num are given: to the blanks in T -/
def Cx (nb : Nat) (o rk : Nat → Nat) (num T : Nat) (p : Nat → Nat) : Prop := (∀ b, b < nb → T.testBit b = true → num < p b ∧ p b ≤ nb ∧ rk (o (p b - 1)) = rk b) ∧ (∀ b c, b < nb → c < nb → T.testBit b = true → T.testBit c = true → p b = p c → b = c) ∧ ∀ v, num < v → v ≤ nb → ∃ b, b < nb ∧ T.testBit b = true ∧ p b = v
def Nam (nb : Nat) (o rk s : Nat → Nat) : Prop := PermH nb s ∧ NMg nb o rk s
def On (nb T : Nat) (p s : Nat → Nat) : Prop := ∀ b, b < nb → T.testBit b = true → s b = p b
def Cov (k : Nat → Nat) (nt : Nat) (x : SX) (s : Nat → Nat) : Prop := x.2.1 = true ∧ ¬ LtR (rowF k nt s) x.2.2.2 nt
/-- s comes before: above v as p has it, at v an earlier blank -/
def DE (nb : Nat) (o : Nat → Nat) (num T : Nat) (p s : Nat → Nat) : Prop := ∃ v i j, num < v ∧ v ≤ nb ∧ (∀ b, b < nb → T.testBit b = true → v < p b → s b = p b) ∧ i < j ∧ j < nb ∧ T.testBit (o j) = true ∧ p (o j) = v ∧ s (o i) = v
/-- or at num a blank before place e -/
def DI (nb : Nat) (o : Nat → Nat) (num T e : Nat) (p s : Nat → Nat) : Prop := DE nb o num T p s ∨ (On nb T p s ∧ ∃ i, i < e ∧ i < nb ∧ s (o i) = num)
/-- the best is a naming, its row is its row -/
def St_ (k : Nat → Nat) (nt nb : Nat) (o rk : Nat → Nat) (x : SX) : Prop := x.2.1 = true → Nam nb o rk x.2.2.1 ∧ ∀ j, j < nt → x.2.2.2 j = rowF k nt x.2.2.1 j
/-- y's best is no worse than x's -/
def Lb (nt : Nat) (x y : SX) : Prop := x.2.1 = true → y.2.1 = true ∧ ¬ LtR x.2.2.2 y.2.2.2 nt
theorem rows_tot (a b : Nat → Nat) (n : Nat) : sameR a b n ∨ LtR a b n ∨ LtR b a n := by
  rcases cmpR_spec a b n with ⟨z, _⟩ | ⟨z, _⟩ | ⟨⟨j, b1, b2, b3⟩, _⟩
  · exact Or.inl z
  · exact Or.inr (Or.inl z)
  · exact Or.inr (Or.inr ⟨j, b1, fun k hk => (b2 k hk).symm, b3⟩)
theorem le_tr {a b c : Nat → Nat} {n : Nat} (h1 : ¬ LtR a b n) (h2 : ¬ LtR b c n) : ¬ LtR a c n := fun h => by
  rcases rows_tot a b n with z | z | z
  · exact h2 (LtR_l (fun i hi => (z i hi).symm) h)
  · exact h1 z
  · exact h2 (LtR_tr z h)
theorem Lb_refl (nt : Nat) (x : SX) : Lb nt x x := fun h => ⟨h, fun z => LtR_irr z (fun _ _ => rfl)⟩
theorem Lb_tr {nt : Nat} {x y z : SX} (h1 : Lb nt x y) (h2 : Lb nt y z) : Lb nt x z := fun h => ⟨(h2 (h1 h).1).1, le_tr (h1 h).2 (h2 (h1 h).1).2⟩
theorem Cov_up {nt : Nat} {x y : SX} {s : Nat → Nat} (h : Lb nt x y) (hc : Cov k nt x s) : Cov k nt y s := ⟨(h hc.1).1, le_tr hc.2 (h hc.1).2⟩
/-- what a search answers: the best is no worse; it is the old one or a completion; r -/
def Ans (k : Nat → Nat) (nt nb : Nat) (o rk : Nat → Nat) (num T : Nat) (p : Nat → Nat) (x : SX) (y : SX × Nat) : Prop := St_ k nt nb o rk y.1 ∧ On nb T p y.1.1 ∧ Lb nt x y.1 ∧ (y.1.2 = x.2 ∨ On nb T p y.1.2.2.1) ∧ (y.2 ≤ num → ∀ s, Nam nb o rk s → On nb T p s → Cov k nt y.1 s) ∧ (num < y.2 → y.2 ≤ nb ∧ ∀ s, Nam nb o rk s → (∀ b, b < nb → T.testBit b = true → y.2 ≤ p b → s b = p b) → Cov k nt y.1 s)
theorem bound_row (hnb : nb ≤ 8) (hk : Vk k nt nb) (hG : GP H nb o rk st cn) {num T : Nat} {p s : Nat → Nat} (hC : Cx nb o rk num T p) (hs : Nam nb o rk s) (hO : On nb T p s) : ∀ j, j < nt → trl k nt (lyP p num T nb rk st) j ≤ rowF k nt s j := by
  have hle : ∀ b, b < nb → s b ≤ lyP p num T nb rk st b := fun b hb => by
    unfold lyP
    by_cases hT : T.testBit b = true
    · rw [if_neg (fun z => by rw [hT] at z; exact absurd z.2 (by decide)), hO b hb hT]; exact Nat.le_refl _
    · have hT : T.testBit b = false := Bool.eq_false_iff.mpr hT
      rw [if_pos ⟨hb, hT⟩]
      have hsb := hs.1.1 b hb
      have h1 : s b ≤ num := by
        rcases Nat.lt_or_ge num (s b) with z | z
        · obtain ⟨c, hc, hTc, e⟩ := hC.2.2 (s b) z hsb.2
          have := hO c hc hTc
          have := perm_inj hs.1 hc hb (by omega)
          rw [this, hT] at hTc
          exact absurd hTc (by decide)
        · exact z
      have h2 : s b ≤ st (rk b + 1) := by
        have h5 := (hG.2.2.2.2.1 (s b - 1) (by omega)).2
        rw [hs.2 b hb] at h5
        omega
      omega
  have hkey : ∀ i, i < nt → rnK (lyP p num T nb rk st) (k i) ≤ rnK s (k i) := fun i hi => by
    have hrn : ∀ pl, pl < 3 → rn (lyP p num T nb rk st) (kp (k i) pl) ≤ rn s (kp (k i) pl) := fun pl hpl => by
      unfold rn
      split
      · rename_i q
        have := hle _ (((hk.1 i hi).2 pl hpl).2 q)
        omega
      · exact Nat.le_refl _
    have a := hrn 0 (by omega)
    have b := hrn 1 (by omega)
    have c := hrn 2 (by omega)
    unfold rnK
    omega
  exact pshF_dom (rowF_strict hnb hk hs.1) (rowF_dom hkey)
theorem lex_dom {t r b : Nat → Nat} {n : Nat} (hd : ∀ j, j < n → t j ≤ r j) (hg : LtR b t n) : LtR b r n := by
  obtain ⟨i, h1, h2, h3⟩ := hg
  apply Classical.byContradiction
  intro hno
  rcases rows_tot b r n with z | z | ⟨j, c1, c2, c3⟩
  · have := z i h1; have := hd i h1; omega
  · exact hno z
  · rcases Nat.lt_or_ge j i with y | y
    · have := h2 j y; have := hd j c1; omega
    · rcases Nat.eq_or_lt_of_le y with y | y
      · subst y; have := hd i h1; omega
      · have := c2 i y; have := hd i h1; omega
end LS
