/-! The reference: next. -/
/-- the values that are not said yet -/
def rem_ (sd : Nat → Int32) (l : List Nat) : List Nat := ((List.range l.length).filter (fun d => decide (sd d = 0))).map (fun d => l.getD d 0)
theorem filter_one {p : Nat → Bool} {d0 : Nat} : ∀ {L : List Nat}, L.Nodup → d0 ∈ L → p d0 = true → (L.filter p).Perm (d0 :: L.filter (fun d => p d && decide (d ≠ d0)))
  | [], _, h, _ => absurd h List.not_mem_nil
  | a :: L, hn, h, hp => by
    have hn' := List.nodup_cons.mp hn
    by_cases e : a = d0
    · subst e
      have e1 : (a :: L).filter (fun d => p d && decide (d ≠ a)) = L.filter p := by
        rw [List.filter_cons_of_neg (by simp)]
        apply List.filter_congr
        intro x hx
        have : x ≠ a := fun q => hn'.1 (q ▸ hx)
        simp [this]
      rw [e1, List.filter_cons_of_pos hp]
    · have hm : d0 ∈ L := by
        rcases List.mem_cons.mp h with q | q
        · exact absurd q.symm e
        · exact q
      have ih := filter_one hn'.2 hm hp
      by_cases ha : p a = true
      · rw [List.filter_cons_of_pos ha, List.filter_cons_of_pos (by simp [ha, e])]
        exact (ih.cons a).trans (List.Perm.swap _ _ _)
      · rw [List.filter_cons_of_neg ha, List.filter_cons_of_neg (by simp [ha])]
        exact ih
theorem rem_say {sd : Nat → Int32} {l : List Nat} {d0 : Nat} (h : d0 < l.length) (h0 : sd d0 = 0) : (rem_ sd l).Perm (l.getD d0 0 :: rem_ (upd sd d0 1) l) := by
  unfold rem_
  have := (filter_one (p := fun d => decide (sd d = 0)) (d0 := d0) (L := List.range l.length) List.nodup_range (List.mem_range.mpr h) (decide_eq_true h0)).map (fun d => l.getD d 0)
  rw [List.map_cons] at this
  refine this.trans (List.Perm.of_eq ?_)
  congr 2
  apply List.filter_congr
  intro x hx
  by_cases e : x = d0
  · subst e
    rw [pk_us]
    simp
  · rw [pk_un e]
    simp [e]
theorem mem_rem {sd : Nat → Int32} {l : List Nat} {x : Nat} : x ∈ rem_ sd l ↔ ∃ d, d < l.length ∧ sd d = 0 ∧ x = l.getD d 0 := by
  unfold rem_
  rw [List.mem_map]
  constructor
  · rintro ⟨d, hd, rfl⟩
    obtain ⟨h1, h2⟩ := List.mem_filter.mp hd
    exact ⟨d, List.mem_range.mp h1, of_decide_eq_true h2, rfl⟩
  · rintro ⟨d, h1, h2, rfl⟩
    exact ⟨d, List.mem_filter.mpr ⟨List.mem_range.mpr h1, decide_eq_true h2⟩, rfl⟩
theorem rem_all {sd : Nat → Int32} {l : List Nat} (h : ∀ d, d < l.length → sd d = 0) : rem_ sd l = l := by
  unfold rem_
  rw [List.filter_eq_self.mpr (fun d hd => decide_eq_true (h d (List.mem_range.mp hd)))]
  apply List.ext_getElem?
  intro i
  rw [List.getElem?_map]
  by_cases hi : i < l.length
  · rw [List.getElem?_range hi, List.getElem?_eq_getElem hi]
    show some (l.getD i 0) = _
    rw [List.getD_eq_getElem?_getD, List.getElem?_eq_getElem hi]
    rfl
  · rw [List.getElem?_eq_none (by simp; omega), List.getElem?_eq_none (by omega)]
    rfl
/-- said so far: E, sorted, no greater than what is left -/
def Sel (l E : List Nat) (sd : Nat → Int32) : Prop := (E ++ rem_ sd l).Perm l ∧ E.Pairwise (· ≤ ·) ∧ ∀ x ∈ E, ∀ y ∈ rem_ sd l, x ≤ y
theorem Sel_say {l E : List Nat} {sd : Nat → Int32} (h : Sel l E sd) {d0 : Nat} (hd : d0 < l.length) (h0 : sd d0 = 0) (hmin : ∀ d, d < l.length → sd d = 0 → l.getD d0 0 ≤ l.getD d 0) : Sel l (E ++ [l.getD d0 0]) (upd sd d0 1) := by
  have hp := rem_say hd h0
  refine ⟨?_, ?_, ?_⟩
  · rw [List.append_assoc]
    exact ((hp.symm).append_left E).trans h.1
  · rw [List.pairwise_append]
    refine ⟨h.2.1, List.pairwise_singleton _ _, fun x hx y hy => ?_⟩
    rw [List.mem_singleton.mp hy]
    exact h.2.2 x hx _ (mem_rem.mpr ⟨d0, hd, h0, rfl⟩)
  · intro x hx y hy
    have hy2 : y ∈ rem_ sd l := hp.symm.subset (List.mem_cons_of_mem _ hy)
    rcases List.mem_append.mp hx with q | q
    · exact h.2.2 x q y hy2
    · rw [List.mem_singleton.mp q]
      obtain ⟨d, h1, h2, rfl⟩ := mem_rem.mp hy2
      exact hmin d h1 h2
theorem Sel_end {l E : List Nat} {sd : Nat → Int32} (h : Sel l E sd) (hl : E.length = l.length) : E = srtN l := by
  have h1 := h.1.length_eq
  rw [List.length_append] at h1
  have h2 : rem_ sd l = [] := List.length_eq_zero_iff.mp (by omega)
  have h3 := h.1
  rw [h2, List.append_nil] at h3
  exact perm_sorted_eq _ _ (h3.trans (srtN_perm l).symm) h.2.1 (srtN_sorted l)
theorem Sel_more {l E : List Nat} {sd : Nat → Int32} (h : Sel l E sd) (hl : E.length < l.length) : ∃ d, d < l.length ∧ sd d = 0 := by
  have h1 := h.1.length_eq
  rw [List.length_append] at h1
  obtain ⟨x, hx⟩ := List.exists_mem_of_length_pos (l := rem_ sd l) (by omega)
  obtain ⟨d, h1, h2, _⟩ := mem_rem.mp hx
  exact ⟨d, h1, h2⟩
theorem dls_get {b : Nat} {rk q : Nat → Nat} : ∀ {n d : Nat}, d < (dls b rk q n).length → ∃ i, i < n ∧ (dls b rk q n).getD d 0 = dsc b rk (q i)
  | 0, d, h => by simp [dls] at h
  | n + 1, d, h => by
    rw [List.getD_eq_getElem?_getD, List.getElem?_eq_getElem h]
    have hm : (dls b rk q (n + 1))[d] ∈ dls b rk q (n + 1) := List.getElem_mem h
    obtain ⟨i, h1, h2⟩ := dls_mem hm
    exact ⟨i, h1, h2⟩
