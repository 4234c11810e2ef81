/-! sort: the first c numbers of a row, in order. -/
def arL {α : Type} (f : Nat → α) (c : Nat) : List α := (List.range c).map f
theorem arL_split {α : Type} (g : Nat → α) {p n : Nat} (h : p + 2 ≤ n) : arL g n = arL g p ++ g p :: g (p + 1) :: (List.range (n - p - 2)).map (fun k => g (p + 2 + k)) := by
  unfold arL
  apply List.ext_getElem?
  intro j
  rcases Nat.lt_or_ge j p with h1 | h1
  · rw [List.getElem?_append_left (by simpa using h1)]
    simp [h1, Nat.lt_of_lt_of_le h1 (by omega : p ≤ n)]
  · rw [List.getElem?_append_right (by simpa using h1)]
    rw [List.length_map, List.length_range]
    match hj : j - p with
    | 0 => simp [show j = p by omega, show p < n by omega]
    | 1 => simp [show j = p + 1 by omega, show p + 1 < n by omega]
    | q + 2 =>
      rw [List.getElem?_cons_succ, List.getElem?_cons_succ]
      by_cases hl : j < n
      · simp [hl, show q < n - p - 2 by omega]
        congr 1
        omega
      · simp [hl, show ¬ q < n - p - 2 by omega]
theorem arL_congr {α : Type} {f g : Nat → α} {n : Nat} (h : ∀ j, j < n → f j = g j) : arL f n = arL g n := List.map_congr_left fun j hj => h j (List.mem_range.mp hj)
/-- two neighbours change places -/
theorem arL_swap {α : Type} {f g : Nat → α} {p n : Nat} (h : p + 2 ≤ n) (h1 : g p = f (p + 1)) (h2 : g (p + 1) = f p) (h3 : ∀ j, j ≠ p → j ≠ p + 1 → g j = f j) : (arL g n).Perm (arL f n) := by
  rw [arL_split g h, arL_split f h, h1, h2, arL_congr (f := g) (g := f) (n := p) (fun j hj => h3 j (by omega) (by omega))]
  have e : (List.range (n - p - 2)).map (fun k => g (p + 2 + k)) = (List.range (n - p - 2)).map (fun k => f (p + 2 + k)) := List.map_congr_left fun k _ => h3 _ (by omega) (by omega)
  rw [e]
  exact List.Perm.append_left _ (List.Perm.swap _ _ _)
/-- the first c are in order, they are those of f, the others stay -/
def srt (f g : Nat → Int32) (c : Nat) : Prop := (∀ i j, i < j → j < c → g i ≤ g j) ∧ (arL g c).Perm (arL f c) ∧ ∀ j, c ≤ j → g j = f j
theorem upd_self {f : Nat → Int32} {k : Nat} {x : Int32} (h : f k = x) : upd f k x = f := by
  funext j
  by_cases e : j = k
  · rw [e, pk_us, h]
  · rw [pk_un e]
set_option maxRecDepth 20000 in
theorem con_sort (d : Nat) (f0 : Nat → Int32) (N c : Nat) (hc : c ≤ N) (hN : N < 2 ^ 30) : Con mX7_sort d 0 0 [.inl (0, N, .inl f0)] [.ref 100, .int (nI c)] (fun w' v => v = none ∧ ∃ g, w' = [.inl (0, N, .inl g)] ∧ srt f0 g c) := by
  refine Con.of (ab_ok7 rfl) (Nat.le_of_ble_eq_true rfl) ?_
  show G ab_x0 mX7_sort d 0 0 _ 0 [some (.ref 100), some (.int (nI c)), none, none, none] [] _
  refine G_iconst (v := 1) dX7_sort_0 (by decide) ?_
  refine G_istore_n (L' := [_, _, _, _, _]) dX7_sort_1 (Nat.le_of_ble_eq_true rfl) rfl ?_
  have outer : ∀ (i : Nat) (f : Nat → Int32) (z1 z2 : Option Value), 1 ≤ i → i ≤ c + 1 → (∀ p q, p < q → q < i → f p ≤ f q) → (arL f c).Perm (arL f0 c) → (∀ j, c ≤ j → f j = f0 j) → G ab_x0 mX7_sort d 0 0 (fun w' v => v = none ∧ ∃ g, w' = [.inl (0, N, .inl g)] ∧ srt f0 g c) 2 [some (.ref 100), some (.int (nI c)), some (.int (nI i)), z1, z2] [] [.inl (0, N, .inl f)] := by
    intro i
    induction hm : c - i using Nat.strongRecOn generalizing i with
    | ind m ih =>
      subst hm
      intro f z1 z2 hi hi2 hs hp ht
      refine G_iload_n dX7_sort_2 rfl ?_
      refine G_iload_n dX7_sort_3 rfl ?_
      refine G_icmp_geN (tgt := 56) i c dX7_sort_4 (by decide) rfl rfl (by omega) (by omega) (fun hic => ?_) (fun hic => ?_)
      · exact G_ret (v := none) ⟨dX7_sort_56, rfl⟩ ⟨rfl, f, rfl, fun p q h1 h2 => hs p q h1 (by omega), hp, ht⟩
      refine G_aload_n dX7_sort_7 rfl ?_
      refine G_iload_n dX7_sort_8 rfl ?_
      refine G_ialdN i dX7_sort_9 rfl rfl (by omega) (by omega) ?_
      refine G_istore_n (L' := [_, _, _, _, _]) dX7_sort_10 (Nat.le_of_ble_eq_true rfl) rfl ?_
      refine G_iload_n dX7_sort_11 rfl ?_
      refine G_istore (L' := [_, _, _, _, _]) dX7_sort_12 (Nat.le_of_ble_eq_true rfl) rfl ?_
      have inner : ∀ (a : Nat) (cur : Nat → Int32), a ≤ i → (arL (upd cur a (f i)) c).Perm (arL f0 c) → (∀ j, c ≤ j → cur j = f0 j) → (∀ p q, p < q → q ≤ i → p ≠ a → q ≠ a → cur p ≤ cur q) → (∀ q, a < q → q ≤ i → f i < cur q) → G ab_x0 mX7_sort d 0 0 (fun w' v => v = none ∧ ∃ g, w' = [.inl (0, N, .inl g)] ∧ srt f0 g c) 14 [some (.ref 100), some (.int (nI c)), some (.int (nI i)), some (.int (f i)), some (.int (nI a))] [] [.inl (0, N, .inl cur)] := by
        intro a
        induction a with
        | zero =>
          intro cur ha h1 h2 h3 h4
          refine G_iload dX7_sort_14 rfl ?_
          refine G_if_le (tgt := 45) dX7_sort_16 (by decide) (fun _ => ?_) (fun h => absurd (by decide) h)
          refine G_aload_n dX7_sort_45 rfl ?_
          refine G_iload dX7_sort_46 rfl ?_
          refine G_iload_n dX7_sort_48 rfl ?_
          refine G_iastN (w' := [_]) 0 dX7_sort_49 rfl rfl (by omega) (by omega) rfl ?_
          refine G_iinc (L' := [_, _, _, _, _]) (v := nI (i + 1)) dX7_sort_50 rfl (nI_succ i).symm rfl ?_
          refine G_goto (tgt := 2) dX7_sort_53 (by decide) ?_
          refine ih (c - (i + 1)) (by omega) (i + 1) rfl _ _ _ (by omega) (by omega) (fun p q hpq hq => ?_) h1 (fun j hj => by rw [pk_un (by omega)]; exact h2 j hj)
          rcases Nat.eq_zero_or_pos p with e | e
          · subst e
            rw [pk_us, pk_un (by omega)]
            exact Int32.le_of_lt (h4 q hpq (by omega))
          · rw [pk_un (by omega), pk_un (by omega)]
            exact h3 p q hpq (by omega) (by omega) (by omega)
        | succ a iha =>
          intro cur ha h1 h2 h3 h4
          refine G_iload dX7_sort_14 rfl ?_
          refine G_if_le (tgt := 45) dX7_sort_16 (by decide) (fun h => absurd h (nI_nle (by omega) (by omega))) (fun _ => ?_)
          refine G_aload_n dX7_sort_19 rfl ?_
          refine G_iload dX7_sort_20 rfl ?_
          refine G_iconst (v := 1) dX7_sort_22 (by decide) ?_
          refine G_isub dX7_sort_23 ?_
          refine G_ialdN a dX7_sort_24 rfl (nI_pred a) (by omega) (by omega) ?_
          refine G_iload_n dX7_sort_25 rfl ?_
          refine G_icmp_le (tgt := 45) dX7_sort_26 (by decide) (fun hle => ?_) (fun hgt => ?_)
          · refine G_aload_n dX7_sort_45 rfl ?_
            refine G_iload dX7_sort_46 rfl ?_
            refine G_iload_n dX7_sort_48 rfl ?_
            refine G_iastN (w' := [_]) (a + 1) dX7_sort_49 rfl rfl (by omega) (by omega) rfl ?_
            refine G_iinc (L' := [_, _, _, _, _]) (v := nI (i + 1)) dX7_sort_50 rfl (nI_succ i).symm rfl ?_
            refine G_goto (tgt := 2) dX7_sort_53 (by decide) ?_
            refine ih (c - (i + 1)) (by omega) (i + 1) rfl _ _ _ (by omega) (by omega) (fun p q hpq hq => ?_) h1 (fun j hj => by rw [pk_un (by omega)]; exact h2 j hj)
            by_cases e1 : p = a + 1
            · subst e1
              rw [pk_us, pk_un (by omega)]
              exact Int32.le_of_lt (h4 q hpq (by omega))
            · by_cases e2 : q = a + 1
              · subst e2
                rw [pk_us, pk_un e1]
                rcases Nat.lt_or_ge p a with e3 | e3
                · exact Int32.le_trans (h3 p a e3 (by omega) (by omega) (by omega)) hle
                · rw [show p = a by omega]; exact hle
              · rw [pk_un e1, pk_un e2]
                exact h3 p q hpq (by omega) e1 e2
          · have hgt : f i < cur a := Int32.not_le.mp hgt
            refine G_aload_n dX7_sort_29 rfl ?_
            refine G_iload dX7_sort_30 rfl ?_
            refine G_aload_n dX7_sort_32 rfl ?_
            refine G_iload dX7_sort_33 rfl ?_
            refine G_iconst (v := 1) dX7_sort_35 (by decide) ?_
            refine G_isub dX7_sort_36 ?_
            refine G_ialdN a dX7_sort_37 rfl (nI_pred a) (by omega) (by omega) ?_
            refine G_iastN (w' := [_]) (a + 1) dX7_sort_38 rfl rfl (by omega) (by omega) rfl ?_
            refine G_iinc (L' := [_, _, _, _, _]) (v := nI a) dX7_sort_39 rfl (pk_m1 a) rfl ?_
            refine G_goto (tgt := 14) dX7_sort_42 (by decide) ?_
            refine iha (upd cur (a + 1) (cur a)) (by omega) (List.Perm.trans (arL_swap (p := a) (by omega) ?_ ?_ ?_) h1) (fun j hj => by rw [pk_un (by omega)]; exact h2 j hj) (fun p q hpq hq e1 e2 => ?_) (fun q h5 h6 => ?_)
            · rw [pk_us, pk_us]
            · rw [pk_un (by omega), pk_us, pk_un (by omega)]
            · intro j e1 e2
              rw [pk_un e1, pk_un e2, pk_un e2]
            · by_cases e3 : q = a + 1
              · subst e3
                rw [pk_us, pk_un (by omega)]
                exact h3 p a (by omega) (by omega) (by omega) (by omega)
              · by_cases e4 : p = a + 1
                · subst e4
                  rw [pk_us, pk_un e3]
                  exact h3 a q (by omega) hq (by omega) e3
                · rw [pk_un e4, pk_un e3]
                  exact h3 p q hpq hq e4 e3
            · by_cases e3 : q = a + 1
              · rw [e3, pk_us]; exact hgt
              · rw [pk_un e3]
                exact h4 q (by omega) h6
      refine inner i f (Nat.le_refl _) (by rw [upd_self rfl]; exact hp) ht (fun p q h1 h2 h3 h4 => hs p q h1 (by omega)) (fun q h1 h2 => by omega)
  exact outer 1 f0 _ _ (by omega) (by omega) (fun p q h1 h2 => by omega) (List.Perm.refl _) (fun _ _ => rfl)
