/-! Groups.arrange. -/
def updN (f : Nat → Nat) (k x : Nat) : Nat → Nat := fun j => if j = k then x else f j
theorem updN_s {f : Nat → Nat} {k x : Nat} : updN f k x k = x := by simp [updN]
theorem updN_n {f : Nat → Nat} {k j x : Nat} (h : j ≠ k) : updN f k x j = f j := by simp [updN, h]
/-- by hashes, then by numbers -/
def LX (H : Nat → Nat) (x y : Nat) : Prop := H x < H y ∨ (H x = H y ∧ x < y)
/-- o: the n blanks in order; rk: their groups; st: where these start; cnt: how many there are -/
def GP (H : Nat → Nat) (n : Nat) (o rk st : Nat → Nat) (cnt : Nat) : Prop :=
  (∀ j, j < n → o j < n) ∧ (∀ i j, i < j → j < n → LX H (o i) (o j)) ∧ (∀ b c, b < n → c < n → (rk b ≤ rk c ↔ H b ≤ H c)) ∧ (∀ b, b < n → rk b < cnt) ∧
  (∀ j, j < n → st (rk (o j)) ≤ j ∧ j < st (rk (o j) + 1)) ∧ (∀ g, g < cnt → st g < st (g + 1) ∧ rk (o (st g)) = g) ∧ st cnt = n ∧ cnt ≤ n ∧ st 0 = 0
theorem cmpN_gt {x y : Nat} : 0 < cmpN x y ↔ y < x := by
  unfold cmpN
  split
  · exact ⟨fun h => absurd h (by decide), fun h => by omega⟩
  · split
    · exact ⟨fun h => absurd h (by decide), fun h => by omega⟩
    · exact ⟨fun h => by omega, fun h => by decide⟩
theorem cmpN_0 {x y : Nat} : cmpN x y = 0 ↔ x = y := by
  unfold cmpN
  split
  · exact ⟨fun h => absurd h (by decide), fun h => by omega⟩
  · split
    · exact ⟨fun h => by omega, fun h => by rfl⟩
    · exact ⟨fun h => absurd h (by decide), fun h => by omega⟩
/-- what the second loop has made of the first k places: p their groups, s where these start, c how many -/
def GL (H : Nat → Nat) (o : Nat → Nat) (k : Nat) (p s : Nat → Nat) (c : Nat) : Prop :=
  (∀ j, j < k → p j < c) ∧ (∀ i j, i ≤ j → j < k → p i ≤ p j ∧ (p i = p j ↔ H (o i) = H (o j))) ∧ (∀ g, g < c → s g < k ∧ p (s g) = g) ∧ (∀ j, j < k → s (p j) ≤ j ∧ (p j + 1 < c → j < s (p j + 1))) ∧ c ≤ k ∧ (0 < k → 0 < c ∧ p (k - 1) + 1 = c ∧ s 0 = 0)
theorem GL_same {H o p s : Nat → Nat} {k c : Nat} (h : GL H o k p s c) (hk : 0 < k) (hs : ∀ i j, i < j → j < k + 1 → LX H (o i) (o j)) (he : H (o (k - 1)) = H (o k)) : GL H o (k + 1) (updN p k (c - 1)) s c := by
  obtain ⟨h1, h2, h3, h4, h5, h6⟩ := h
  obtain ⟨h6, h7, h8⟩ := h6 hk
  refine ⟨fun j hj => ?_, fun i j hij hj => ?_, fun g hg => ?_, fun j hj => ?_, by omega, fun _ => ⟨h6, ?_, h8⟩⟩
  · by_cases e : j = k
    · rw [e, updN_s]; omega
    · rw [updN_n e]; exact h1 j (by omega)
  · by_cases e : j = k
    · subst e
      by_cases e2 : i = j
      · subst e2; exact ⟨Nat.le_refl _, iff_of_true rfl rfl⟩
      · rw [updN_s, updN_n e2]
        have := h2 i (j - 1) (by omega) (by omega)
        rw [← he]
        have h9 : p (j - 1) = c - 1 := by omega
        rw [h9] at this
        exact this
    · rw [updN_n e, updN_n (by omega)]; exact h2 i j hij (by omega)
  · obtain ⟨a, b⟩ := h3 g hg
    exact ⟨by omega, by rw [updN_n (by omega)]; exact b⟩
  · by_cases e : j = k
    · subst e
      rw [updN_s]
      have := (h3 (c - 1) (by omega)).1
      exact ⟨by omega, fun h => by omega⟩
    · rw [updN_n e]; exact h4 j (by omega)
  · rw [show k + 1 - 1 = k by omega, updN_s]; omega
theorem GL_new {H o p s : Nat → Nat} {k c : Nat} (h : GL H o k p s c) (hs : ∀ i j, i < j → j < k + 1 → LX H (o i) (o j)) (he : k = 0 ∨ H (o (k - 1)) ≠ H (o k)) : GL H o (k + 1) (updN p k c) (updN s c k) (c + 1) := by
  obtain ⟨h1, h2, h3, h4, h5, h6⟩ := h
  have mono : ∀ i, i < k → H (o i) ≠ H (o k) := fun i hi hh => by
    rcases he with he | he
    · omega
    · have a := hs (k - 1) k (by omega) (by omega)
      rcases Nat.lt_or_ge i (k - 1) with q | q
      · have b := hs i (k - 1) q (by omega)
        unfold LX at a b
        omega
      · rw [show i = k - 1 by omega] at hh; exact he hh
  refine ⟨fun j hj => ?_, fun i j hij hj => ?_, fun g hg => ?_, fun j hj => ?_, by omega, fun _ => ⟨by omega, by rw [show k + 1 - 1 = k by omega, updN_s], ?_⟩⟩
  · by_cases e : j = k
    · rw [e, updN_s]; omega
    · rw [updN_n e]; have := h1 j (by omega); omega
  · by_cases e : j = k
    · subst e
      by_cases e2 : i = j
      · subst e2; exact ⟨Nat.le_refl _, iff_of_true rfl rfl⟩
      · rw [updN_s, updN_n e2]
        have := h1 i (by omega)
        exact ⟨by omega, ⟨fun h => by omega, fun h => absurd h (mono i (by omega))⟩⟩
    · rw [updN_n e, updN_n (by omega)]; exact h2 i j hij (by omega)
  · by_cases e : g = c
    · rw [e, updN_s, updN_s]; exact ⟨by omega, rfl⟩
    · obtain ⟨a, b⟩ := h3 g (by omega)
      rw [updN_n e]
      exact ⟨by omega, by rw [updN_n (by omega)]; exact b⟩
  · by_cases e : j = k
    · subst e
      rw [updN_s, updN_s]
      exact ⟨Nat.le_refl _, fun h => by omega⟩
    · rw [updN_n e]
      have a := h1 j (by omega)
      obtain ⟨b1, b2⟩ := h4 j (by omega)
      rw [updN_n (by omega)]
      refine ⟨b1, fun h => ?_⟩
      by_cases e2 : p j + 1 = c
      · rw [e2, updN_s]; omega
      · rw [updN_n e2]; exact b2 (by omega)
  · by_cases e : 0 = c
    · rw [← e, updN_s]
      rcases Nat.eq_zero_or_pos k with q | q
      · exact q
      · have := (h6 q).1; omega
    · rw [updN_n e]
      exact (h6 (by omega)).2.2
theorem GL_end {H o p s rk : Nat → Nat} {n c : Nat} (h : GL H o n p s c) (h1 : ∀ j, j < n → o j < n) (hsur : ∀ b, b < n → ∃ j, j < n ∧ o j = b) (hs : ∀ i j, i < j → j < n → LX H (o i) (o j)) (hr : ∀ j, j < n → rk (o j) = p j) (hn : n = 0 → c = 0) : GP H n o rk (updN s c n) c := by
  obtain ⟨g1, g2, g3, g4, g5, g6⟩ := h
  have le : ∀ i j, i < n → j < n → (p i ≤ p j ↔ H (o i) ≤ H (o j)) := fun i j hi hj => by
    have key : ∀ i j, i ≤ j → j < n → H (o i) ≤ H (o j) := fun i j hij hj => by
      rcases Nat.lt_or_ge i j with q | q
      · have := hs i j q hj; unfold LX at this; omega
      · rw [show i = j by omega]; exact Nat.le_refl _
    rcases Nat.le_total i j with q | q
    · exact iff_of_true (g2 i j q hj).1 (key i j q hj)
    · have a := g2 j i q hi
      have b := key j i q hi
      constructor
      · intro h
        have := a.2.mp (by omega)
        omega
      · intro h
        have := a.2.mpr (by omega)
        omega
  refine ⟨h1, hs, fun b d hb hd => ?_, fun b hb => ?_, fun j hj => ?_, fun g hg => ?_, updN_s, g5, ?_⟩
  · obtain ⟨i, hi, rfl⟩ := hsur b hb
    obtain ⟨j, hj, rfl⟩ := hsur d hd
    rw [hr i hi, hr j hj]
    exact le i j hi hj
  · obtain ⟨i, hi, rfl⟩ := hsur b hb
    rw [hr i hi]
    exact g1 i hi
  · rw [hr j hj]
    have a := g1 j hj
    obtain ⟨b1, b2⟩ := g4 j hj
    rw [updN_n (by omega)]
    refine ⟨b1, ?_⟩
    by_cases e : p j + 1 = c
    · rw [e, updN_s]; exact hj
    · rw [updN_n e]; exact b2 (by omega)
  · obtain ⟨a1, a2⟩ := g3 g hg
    rw [updN_n (by omega), hr _ a1]
    refine ⟨?_, a2⟩
    by_cases e : g + 1 = c
    · rw [e, updN_s]; exact a1
    · rw [updN_n e]
      have := (g4 (s g) a1).2
      rw [a2] at this
      exact this (by omega)
  · by_cases e : 0 = c
    · rw [← e, updN_s]
      rcases Nat.eq_zero_or_pos n with q | q
      · exact q
      · have := (g6 q).1; omega
    · rw [updN_n e]
      exact (g6 (by omega)).2.2
/-- n different numbers below n are all of them -/
theorem sur_of_inj : ∀ (n : Nat) (o : Nat → Nat), (∀ j, j < n → o j < n) → (∀ i j, i < j → j < n → o i ≠ o j) → ∀ b, b < n → ∃ j, j < n ∧ o j = b
  | 0, _, _, _, b, hb => by omega
  | n + 1, o, h1, h2, b, hb => by
    by_cases e : o n = b
    · exact ⟨n, by omega, e⟩
    · have hon := h1 n (by omega)
      -- the numbers above o n go down by one
      have := sur_of_inj n (fun j => if o j < o n then o j else o j - 1) (fun j hj => by
        have a := h1 j (by omega)
        have c := h2 j n hj (by omega)
        show (if o j < o n then o j else o j - 1) < n
        split <;> omega) (fun i j hij hj => by
        have a := h2 i j hij (by omega)
        have c1 := h2 i n (by omega) (by omega)
        have c2 := h2 j n (by omega) (by omega)
        show (if o i < o n then o i else o i - 1) ≠ (if o j < o n then o j else o j - 1)
        split <;> split <;> omega) (if b < o n then b else b - 1) (by split <;> omega)
      obtain ⟨j, hj, hjb⟩ := this
      have hjb : (if o j < o n then o j else o j - 1) = if b < o n then b else b - 1 := hjb
      have c2 := h2 j n hj (by omega)
      refine ⟨j, by omega, ?_⟩
      split at hjb <;> split at hjb <;> omega
set_option maxRecDepth 20000 in
theorem con_arrange (d n : Nat) (hn : n ≤ 8) (F f1 f2 f3 : Nat → Int32) (cv : Int32) : Con mX1_arrange (d + 1) 0 0 [.inr (2, [.ref 101, .ref 102, .ref 103, .ref 104, .int cv]), cI 64 F, cI 8 f1, cI 8 f2, cI 9 f3] [.ref 100, .int (nI n)] (fun w' v => v = none ∧ ∃ g1 g2 g3 cnt o rk st, w' = [.inr (2, [.ref 101, .ref 102, .ref 103, .ref 104, .int (nI cnt)]), cI 64 F, cI 8 g1, cI 8 g2, cI 9 g3] ∧ GP (hv F) n o rk st cnt ∧ (∀ j, j < n → g1 j = nI (o j)) ∧ (∀ j, j < n → g2 j = nI (rk j)) ∧ ∀ j, j ≤ cnt → g3 j = nI (st j)) := by
  refine Con.of (ab_okc rfl (by decide)) (Nat.le_of_ble_eq_true rfl) ?_
  show G ab_x0 mX1_arrange (d + 1) 0 0 _ 0 [some (.ref 100), some (.int (nI n)), none, none] [] _
  have second : ∀ (g1 : Nat → Int32) (o : Nat → Nat) (z : Option Value), (∀ j, j < n → g1 j = nI (o j)) → (∀ j, j < n → o j < n) → (∀ i j, i < j → j < n → LX (hv F) (o i) (o j)) →
      ∀ (k c : Nat) (p s : Nat → Nat) (f2 f3 : Nat → Int32), k ≤ n → GL (hv F) o k p s c → (∀ j, j < k → f2 (o j) = nI (p j)) → (∀ j, j < c → f3 j = nI (s j)) → (k = 0 → c = 0) → G ab_x0 mX1_arrange (d + 1) 0 0 (fun w' v => v = none ∧ ∃ g1 g2 g3 cnt o rk st, w' = [.inr (2, [.ref 101, .ref 102, .ref 103, .ref 104, .int (nI cnt)]), cI 64 F, cI 8 g1, cI 8 g2, cI 9 g3] ∧ GP (hv F) n o rk st cnt ∧ (∀ j, j < n → g1 j = nI (o j)) ∧ (∀ j, j < n → g2 j = nI (rk j)) ∧ ∀ j, j ≤ cnt → g3 j = nI (st j)) 69 [some (.ref 100), some (.int (nI n)), some (.int (nI k)), z] [] [.inr (2, [.ref 101, .ref 102, .ref 103, .ref 104, .int (nI c)]), cI 64 F, cI 8 g1, cI 8 f2, cI 9 f3] := by
    intro g1 o z hg ho hs k
    induction hm : n - k using Nat.strongRecOn generalizing k with
    | ind m ih =>
      subst hm
      intro c p s f2 f3 hk hG h2 h3 h0
      have inj : ∀ i j, i < j → j < n → o i ≠ o j := fun i j hij hj he => by
        have := hs i j hij hj
        unfold LX at this
        rw [he] at this
        omega
      have hck : c ≤ k := hG.2.2.2.2.1
      refine G_iload_n dX1_arrange_69 rfl ?_
      refine G_iload_n dX1_arrange_70 rfl ?_
      refine G_icmp_geN (tgt := 142) k n dX1_arrange_71 (by decide) rfl rfl (by omega) (by omega) (fun hge => ?_) (fun hlt => ?_)
      · have e : k = n := by omega
        subst e
        refine G_aload_n dX1_arrange_142 rfl ?_
        refine G_get (f := 3) kc2 dX1_arrange_143 fX1_21 (by decide) rfl rfl ?_
        refine G_aload_n dX1_arrange_146 rfl ?_
        refine G_get (f := 4) kc2 dX1_arrange_147 fX1_24 (by decide) rfl rfl ?_
        refine G_iload_n dX1_arrange_150 rfl ?_
        refine G_iastN (w' := [_, _, _, _, _]) c dX1_arrange_151 rfl rfl (by omega) (by omega) rfl ?_
        have hsur := sur_of_inj k o ho inj
        have hrk : ∃ rk : Nat → Nat, ∀ j, j < k → rk (o j) = p j ∧ f2 (o j) = nI (rk (o j)) := by
          refine ⟨fun b => uw (f2 b), fun j hj => ?_⟩
          have a := hG.1 j hj
          show uw (f2 (o j)) = p j ∧ f2 (o j) = nI (uw (f2 (o j)))
          rw [h2 j hj]
          have e : uw (nI (p j)) = p j := pk_tn (by omega)
          rw [e]
          exact ⟨rfl, rfl⟩
        obtain ⟨rk, hrk⟩ := hrk
        refine G_ret (v := none) ⟨dX1_arrange_152, rfl⟩ ⟨rfl, g1, f2, _, c, o, rk, updN s c k, rfl, GL_end hG ho hsur hs (fun j hj => (hrk j hj).1) h0, hg, fun b hb => ?_, fun j hj => ?_⟩
        · obtain ⟨j, hj, rfl⟩ := hsur b hb
          exact (hrk j hj).2
        · by_cases e : j = c
          · rw [e, pk_us, updN_s]
          · rw [pk_un e, updN_n e]; exact h3 j (by omega)
      have tail : ∀ (c' : Nat) (p' s' : Nat → Nat) (f3' : Nat → Int32), c' ≤ k + 1 → 0 < c' → GL (hv F) o (k + 1) p' s' c' → p' k + 1 = c' → (∀ j, j < k → p' j = p j) → (∀ j, j < c' → f3' j = nI (s' j)) → G ab_x0 mX1_arrange (d + 1) 0 0 (fun w' v => v = none ∧ ∃ g1 g2 g3 cnt o rk st, w' = [.inr (2, [.ref 101, .ref 102, .ref 103, .ref 104, .int (nI cnt)]), cI 64 F, cI 8 g1, cI 8 g2, cI 9 g3] ∧ GP (hv F) n o rk st cnt ∧ (∀ j, j < n → g1 j = nI (o j)) ∧ (∀ j, j < n → g2 j = nI (rk j)) ∧ ∀ j, j ≤ cnt → g3 j = nI (st j)) 119 [some (.ref 100), some (.int (nI n)), some (.int (nI k)), z] [] [.inr (2, [.ref 101, .ref 102, .ref 103, .ref 104, .int (nI c')]), cI 64 F, cI 8 g1, cI 8 f2, cI 9 f3'] := by
        intro c' p' s' f3' hc' hc0 hG' hpk hpj hf3
        refine G_aload_n dX1_arrange_119 rfl ?_
        refine G_get (f := 2) kc2 dX1_arrange_120 fX1_18 (by decide) rfl rfl ?_
        refine G_aload_n dX1_arrange_123 rfl ?_
        refine G_get (f := 1) kc2 dX1_arrange_124 fX1_15 (by decide) rfl rfl ?_
        refine G_iload_n dX1_arrange_127 rfl ?_
        refine G_ialdN k dX1_arrange_128 rfl rfl (by omega) (by omega) ?_
        refine G_aload_n dX1_arrange_129 rfl ?_
        refine G_get (f := 4) kc2 dX1_arrange_130 fX1_24 (by decide) rfl rfl ?_
        refine G_iconst (v := 1) dX1_arrange_133 (by decide) ?_
        refine G_isub dX1_arrange_134 ?_
        refine G_topi (y := nI (c' - 1)) (pk_sub (a := c') (b := 1) (by omega)) ?_
        have hok := ho k hlt
        refine G_iastN (w' := [_, _, _, _, _]) (o k) dX1_arrange_135 rfl (hg k hlt) (by omega) (by omega) rfl ?_
        refine G_iinc (L' := [_, _, _, _]) (v := nI (k + 1)) dX1_arrange_136 rfl (nI_succ k).symm rfl ?_
        refine G_goto (tgt := 69) dX1_arrange_139 (by decide) ?_
        refine ih (n - (k + 1)) (by omega) (k + 1) rfl c' p' s' _ f3' (by omega) hG' (fun j hj => ?_) hf3 (fun h => by omega)
        by_cases e : j = k
        · rw [e, pk_us, show c' - 1 = p' k by omega]
        · rw [pk_un (inj j k (by omega) hlt), hpj j (by omega)]
          exact h2 j (by omega)
      have fresh : (k = 0 ∨ hv F (o (k - 1)) ≠ hv F (o k)) → G ab_x0 mX1_arrange (d + 1) 0 0 (fun w' v => v = none ∧ ∃ g1 g2 g3 cnt o rk st, w' = [.inr (2, [.ref 101, .ref 102, .ref 103, .ref 104, .int (nI cnt)]), cI 64 F, cI 8 g1, cI 8 g2, cI 9 g3] ∧ GP (hv F) n o rk st cnt ∧ (∀ j, j < n → g1 j = nI (o j)) ∧ (∀ j, j < n → g2 j = nI (rk j)) ∧ ∀ j, j ≤ cnt → g3 j = nI (st j)) 99 [some (.ref 100), some (.int (nI n)), some (.int (nI k)), z] [] [.inr (2, [.ref 101, .ref 102, .ref 103, .ref 104, .int (nI c)]), cI 64 F, cI 8 g1, cI 8 f2, cI 9 f3] := by
        intro he
        refine G_aload_n dX1_arrange_99 rfl ?_
        refine G_get (f := 3) kc2 dX1_arrange_100 fX1_21 (by decide) rfl rfl ?_
        refine G_aload_n dX1_arrange_103 rfl ?_
        refine G_get (f := 4) kc2 dX1_arrange_104 fX1_24 (by decide) rfl rfl ?_
        refine G_iload_n dX1_arrange_107 rfl ?_
        refine G_iastN (w' := [_, _, _, _, _]) c dX1_arrange_108 rfl rfl (by omega) (by omega) rfl ?_
        refine G_aload_n dX1_arrange_109 rfl ?_
        refine G_dup dX1_arrange_110 rfl ?_
        refine G_get (f := 4) kc2 dX1_arrange_111 fX1_24 (by decide) rfl rfl ?_
        refine G_iconst (v := 1) dX1_arrange_114 (by decide) ?_
        refine G_iadd dX1_arrange_115 ?_
        refine G_topi (nI_1 c) ?_
        refine G_put (w' := [_, _, _, _, _]) (f := 4) kc2 dX1_arrange_116 fX1_24 (by decide) rfl rfl rfl rfl (Nat.le_of_ble_eq_true rfl) rfl ?_
        refine tail (c + 1) (updN p k c) (updN s c k) _ (by omega) (by omega) (GL_new hG (fun i j h1 h2 => hs i j h1 (by omega)) he) (by rw [updN_s]) (fun j hj => updN_n (by omega)) (fun j hj => ?_)
        by_cases e : j = c
        · rw [e, pk_us, updN_s]
        · rw [pk_un e, updN_n e]; exact h3 j (by omega)
      refine G_iload_n dX1_arrange_74 rfl ?_
      refine G_if_eq (tgt := 99) dX1_arrange_75 (by decide) (fun h => ?_) (fun h => ?_)
      · refine fresh (Or.inl ?_)
        rcases Nat.eq_zero_or_pos k with q | q
        · exact q
        · exact absurd h (nI_ne0 q (by omega))
      have hk0 : 0 < k := by
        rcases Nat.eq_zero_or_pos k with q | q
        · subst q; exact absurd nI_0 h
        · exact q
      refine G_aload_n dX1_arrange_78 rfl ?_
      refine G_aload_n dX1_arrange_79 rfl ?_
      refine G_get (f := 1) kc2 dX1_arrange_80 fX1_15 (by decide) rfl rfl ?_
      refine G_iload_n dX1_arrange_83 rfl ?_
      refine G_iconst (v := 1) dX1_arrange_84 (by decide) ?_
      refine G_isub dX1_arrange_85 ?_
      refine G_ialdN (k - 1) dX1_arrange_86 rfl (pk_sub (a := k) (b := 1) (by omega)) (by omega) (by omega) ?_
      refine G_aload_n dX1_arrange_87 rfl ?_
      refine G_get (f := 1) kc2 dX1_arrange_88 fX1_15 (by decide) rfl rfl ?_
      refine G_iload_n dX1_arrange_91 rfl ?_
      refine G_ialdN k dX1_arrange_92 rfl rfl (by omega) (by omega) ?_
      rw [hg k hlt, hg (k - 1) (by omega)]
      have b1 := ho k hlt
      have b2 := ho (k - 1) (by omega)
      refine G_V (is := [0, 1]) (fo := [102, 103, 104]) (as := [.ref 100, .int (nI (o (k - 1))), .int (nI (o k))]) (as' := [.int (nI (o (k - 1))), .int (nI (o k))]) (st := []) (k := 0) (n := 0) cX1_arrange_93 (con_compareHashes d (o (k - 1)) (o k) (by omega) (by omega) F (.ref 4) (.ref 5) (.ref 6) (.int (nI c))) ab_pfx rfl (by decide) rfl rfl rfl rfl rfl rfl (Nat.le_of_ble_eq_true rfl) dX1_arrange_93 (fun w' v h => by rw [h.1]) (fun w2 v2 hq => ?_)
      obtain ⟨rfl, rfl⟩ := hq
      refine G_if_eq (tgt := 119) dX1_arrange_96 (by decide) (fun h => ?_) (fun h => ?_)
      · have he := cmpN_0.mp h
        have hG' := GL_same hG hk0 (fun i j h1 h2 => hs i j h1 (by omega)) he
        have hc0 := (hG.2.2.2.2.2 hk0).1
        exact tail c (updN p k (c - 1)) s f3 (by omega) hc0 hG' (by rw [updN_s]; omega) (fun j hj => updN_n (by omega)) h3
      · exact fresh (Or.inr (fun he => h (cmpN_0.mpr he)))
  refine G_iconst (v := 0) dX1_arrange_0 (by decide) ?_
  refine G_istore_n (L' := [_, _, _, _]) dX1_arrange_1 (Nat.le_of_ble_eq_true rfl) rfl ?_
  have first : ∀ (b : Nat) (cur : Nat → Int32) (o : Nat → Nat) (z : Option Value), b ≤ n → (∀ j, j < b → cur j = nI (o j)) → (∀ j, j < b → o j < b) → (∀ i j, i < j → j < b → LX (hv F) (o i) (o j)) → G ab_x0 mX1_arrange (d + 1) 0 0 (fun w' v => v = none ∧ ∃ g1 g2 g3 cnt o rk st, w' = [.inr (2, [.ref 101, .ref 102, .ref 103, .ref 104, .int (nI cnt)]), cI 64 F, cI 8 g1, cI 8 g2, cI 9 g3] ∧ GP (hv F) n o rk st cnt ∧ (∀ j, j < n → g1 j = nI (o j)) ∧ (∀ j, j < n → g2 j = nI (rk j)) ∧ ∀ j, j ≤ cnt → g3 j = nI (st j)) 2 [some (.ref 100), some (.int (nI n)), some (.int (nI b)), z] [] [.inr (2, [.ref 101, .ref 102, .ref 103, .ref 104, .int cv]), cI 64 F, cI 8 cur, cI 8 f2, cI 9 f3] := by
    intro b
    induction hm : n - b using Nat.strongRecOn generalizing b with
    | ind m ih =>
      subst hm
      intro cur o z hb h1 h2 h3
      refine G_iload_n dX1_arrange_2 rfl ?_
      refine G_iload_n dX1_arrange_3 rfl ?_
      refine G_icmp_geN (tgt := 62) b n dX1_arrange_4 (by decide) rfl rfl (by omega) (by omega) (fun hge => ?_) (fun hlt => ?_)
      · have e : b = n := by omega
        subst e
        refine G_aload_n dX1_arrange_62 rfl ?_
        refine G_iconst (v := 0) dX1_arrange_63 (by decide) ?_
        refine G_put (w' := [_, _, _, _, _]) (f := 4) kc2 dX1_arrange_64 fX1_24 (by decide) rfl rfl rfl rfl (Nat.le_of_ble_eq_true rfl) rfl ?_
        refine G_iconst (v := 0) dX1_arrange_67 (by decide) ?_
        refine G_istore_n (L' := [_, _, _, _]) dX1_arrange_68 (Nat.le_of_ble_eq_true rfl) rfl ?_
        exact second cur o _ h1 h2 h3 0 0 (fun _ => 0) (fun _ => 0) f2 f3 (by omega) ⟨fun j hj => by omega, fun i j hi hj => by omega, fun g hg => by omega, fun j hj => by omega, by omega, fun h => by omega⟩ (fun j hj => by omega) (fun j hj => by omega) (fun _ => rfl)
      refine G_iload_n dX1_arrange_7 rfl ?_
      refine G_istore_n (L' := [_, _, _, _]) dX1_arrange_8 (Nat.le_of_ble_eq_true rfl) rfl ?_
      have inner : ∀ (a : Nat) (cur : Nat → Int32) (p : Nat → Nat), a ≤ b → (∀ j, j ≤ b → j ≠ a → cur j = nI (p j) ∧ p j < b) → (∀ i j, i < j → j ≤ b → i ≠ a → j ≠ a → LX (hv F) (p i) (p j)) → (∀ j, a < j → j ≤ b → hv F b < hv F (p j)) → G ab_x0 mX1_arrange (d + 1) 0 0 (fun w' v => v = none ∧ ∃ g1 g2 g3 cnt o rk st, w' = [.inr (2, [.ref 101, .ref 102, .ref 103, .ref 104, .int (nI cnt)]), cI 64 F, cI 8 g1, cI 8 g2, cI 9 g3] ∧ GP (hv F) n o rk st cnt ∧ (∀ j, j < n → g1 j = nI (o j)) ∧ (∀ j, j < n → g2 j = nI (rk j)) ∧ ∀ j, j ≤ cnt → g3 j = nI (st j)) 9 [some (.ref 100), some (.int (nI n)), some (.int (nI b)), some (.int (nI a))] [] [.inr (2, [.ref 101, .ref 102, .ref 103, .ref 104, .int cv]), cI 64 F, cI 8 cur, cI 8 f2, cI 9 f3] := by
        intro a
        induction a with
        | zero =>
          intro cur p ha g1 g2 g3
          refine G_iload_n dX1_arrange_9 rfl ?_
          refine G_if_le (tgt := 49) dX1_arrange_10 (by decide) (fun _ => ?_) (fun h => absurd (by decide) h)
          refine G_aload_n dX1_arrange_49 rfl ?_
          refine G_get (f := 1) kc2 dX1_arrange_50 fX1_15 (by decide) rfl rfl ?_
          refine G_iload_n dX1_arrange_53 rfl ?_
          refine G_iload_n dX1_arrange_54 rfl ?_
          refine G_iastN (w' := [_, _, _, _, _]) 0 dX1_arrange_55 rfl rfl (by omega) (by omega) rfl ?_
          refine G_iinc (L' := [_, _, _, _]) (v := nI (b + 1)) dX1_arrange_56 rfl (nI_succ b).symm rfl ?_
          refine G_goto (tgt := 2) dX1_arrange_59 (by decide) ?_
          refine ih (n - (b + 1)) (by omega) (b + 1) rfl _ (updN p 0 b) _ (by omega) (fun j hj => ?_) (fun j hj => ?_) (fun i j hij hj => ?_)
          · by_cases e : j = 0
            · rw [e, pk_us, updN_s]
            · rw [pk_un e, updN_n e]; exact (g1 j (by omega) e).1
          · by_cases e : j = 0
            · rw [e, updN_s]; omega
            · rw [updN_n e]; have := (g1 j (by omega) e).2; omega
          · rw [updN_n (j := j) (by omega)]
            by_cases e : i = 0
            · rw [e, updN_s]; exact Or.inl (g3 j (by omega) (by omega))
            · rw [updN_n e]; exact g2 i j hij (by omega) e (by omega)
        | succ a iha =>
          intro cur p ha g1 g2 g3
          obtain ⟨e1, e2⟩ := g1 a (by omega) (by omega)
          refine G_iload_n dX1_arrange_9 rfl ?_
          refine G_if_le (tgt := 49) dX1_arrange_10 (by decide) (fun h => absurd h (nI_nle (by omega) (by omega))) (fun _ => ?_)
          refine G_aload_n dX1_arrange_13 rfl ?_
          refine G_aload_n dX1_arrange_14 rfl ?_
          refine G_get (f := 1) kc2 dX1_arrange_15 fX1_15 (by decide) rfl rfl ?_
          refine G_iload_n dX1_arrange_18 rfl ?_
          refine G_iconst (v := 1) dX1_arrange_19 (by decide) ?_
          refine G_isub dX1_arrange_20 ?_
          refine G_ialdN a dX1_arrange_21 rfl (nI_pred a) (by omega) (by omega) ?_
          rw [e1]
          refine G_iload_n dX1_arrange_22 rfl ?_
          refine G_V (is := [0, 1]) (fo := [102, 103, 104]) (as := [.ref 100, .int (nI (p a)), .int (nI (b))]) (as' := [.int (nI (p a)), .int (nI (b))]) (st := []) (k := 0) (n := 0) cX1_arrange_23 (con_compareHashes d (p a) (b) (by omega) (by omega) F (.ref 4) (.ref 5) (.ref 6) (.int cv)) ab_pfx rfl (by decide) rfl rfl rfl rfl rfl rfl (Nat.le_of_ble_eq_true rfl) dX1_arrange_23 (fun w' v h => by rw [h.1]) (fun w2 v2 hq => ?_)
          obtain ⟨rfl, rfl⟩ := hq
          refine G_if_le (tgt := 49) dX1_arrange_26 (by decide) (fun h => ?_) (fun h => ?_)
          · have hle : hv F (p a) ≤ hv F b := Nat.not_lt.mp (fun q => Int32.not_lt.mpr h (cmpN_gt.mpr q))
            refine G_aload_n dX1_arrange_49 rfl ?_
            refine G_get (f := 1) kc2 dX1_arrange_50 fX1_15 (by decide) rfl rfl ?_
            refine G_iload_n dX1_arrange_53 rfl ?_
            refine G_iload_n dX1_arrange_54 rfl ?_
            refine G_iastN (w' := [_, _, _, _, _]) (a + 1) dX1_arrange_55 rfl rfl (by omega) (by omega) rfl ?_
            refine G_iinc (L' := [_, _, _, _]) (v := nI (b + 1)) dX1_arrange_56 rfl (nI_succ b).symm rfl ?_
            refine G_goto (tgt := 2) dX1_arrange_59 (by decide) ?_
            refine ih (n - (b + 1)) (by omega) (b + 1) rfl _ (updN p (a + 1) b) _ (by omega) (fun j hj => ?_) (fun j hj => ?_) (fun i j hij hj => ?_)
            · by_cases e : j = a + 1
              · rw [e, pk_us, updN_s]
              · rw [pk_un e, updN_n e]; exact (g1 j (by omega) e).1
            · by_cases e : j = a + 1
              · rw [e, updN_s]; omega
              · rw [updN_n e]; have := (g1 j (by omega) e).2; omega
            · by_cases e : j = a + 1
              · subst e
                rw [updN_s, updN_n (by omega)]
                have hpi := (g1 i (by omega) (by omega)).2
                rcases Nat.lt_or_ge i a with q | q
                · have := g2 i a q (by omega) (by omega) (by omega)
                  unfold LX at *
                  omega
                · rw [show i = a by omega]
                  unfold LX
                  omega
              · rw [updN_n e]
                by_cases e3 : i = a + 1
                · rw [e3, updN_s]; exact Or.inl (g3 j (by omega) (by omega))
                · rw [updN_n e3]; exact g2 i j hij (by omega) e3 e
          · have hgt : hv F b < hv F (p a) := cmpN_gt.mp (Int32.not_le.mp h)
            refine G_aload_n dX1_arrange_29 rfl ?_
            refine G_get (f := 1) kc2 dX1_arrange_30 fX1_15 (by decide) rfl rfl ?_
            refine G_iload_n dX1_arrange_33 rfl ?_
            refine G_aload_n dX1_arrange_34 rfl ?_
            refine G_get (f := 1) kc2 dX1_arrange_35 fX1_15 (by decide) rfl rfl ?_
            refine G_iload_n dX1_arrange_38 rfl ?_
            refine G_iconst (v := 1) dX1_arrange_39 (by decide) ?_
            refine G_isub dX1_arrange_40 ?_
            refine G_ialdN a dX1_arrange_41 rfl (nI_pred a) (by omega) (by omega) ?_
            refine G_iastN (w' := [_, _, _, _, _]) (a + 1) dX1_arrange_42 rfl rfl (by omega) (by omega) rfl ?_
            refine G_iinc (L' := [_, _, _, _]) (v := nI a) dX1_arrange_43 rfl (pk_m1 a) rfl ?_
            refine G_goto (tgt := 9) dX1_arrange_46 (by decide) ?_
            refine iha _ (updN p (a + 1) (p a)) (by omega) (fun j hj hja => ?_) (fun i j hij hj hi2 hj2 => ?_) (fun j hj1 hj2 => ?_)
            · by_cases e : j = a + 1
              · rw [e, pk_us, updN_s]; exact ⟨e1, e2⟩
              · rw [pk_un e, updN_n e]; exact g1 j hj e
            · by_cases e : j = a + 1
              · subst e
                rw [updN_s, updN_n (by omega)]; exact g2 i a (by omega) (by omega) (by omega) (by omega)
              · rw [updN_n e]
                by_cases e3 : i = a + 1
                · rw [e3, updN_s]; exact g2 a j (by omega) hj (by omega) e
                · rw [updN_n e3]; exact g2 i j hij hj e3 e
            · by_cases e : j = a + 1
              · rw [e, updN_s]; exact hgt
              · rw [updN_n e]; exact g3 j (by omega) hj2
      exact inner b cur o (Nat.le_refl _) (fun j hj hjb => ⟨h1 j (by omega), h2 j (by omega)⟩) (fun i j hij hj hi2 hj2 => h3 i j hij (by omega)) (fun j hj1 hj2 => by omega)
  exact first 0 f1 (fun _ => 0) _ (by omega) (fun j hj => by omega) (fun j hj => by omega) (fun i j _ hj => by omega)
