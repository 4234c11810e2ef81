/-! Counting; groups are what the hashes make of them. -/
theorem cntP_congr {P Q : Nat → Prop} {a : Nat} : ∀ {n : Nat}, (∀ x, a ≤ x → x < n → (P x ↔ Q x)) → cntP P a n = cntP Q a n
  | 0, _ => rfl
  | n + 1, h => by
    have ih := cntP_congr (n := n) (fun x h1 h2 => h x h1 (by omega))
    by_cases e : a ≤ n ∧ P n
    · rw [cntP_yes e, cntP_yes ⟨e.1, (h n e.1 (by omega)).mp e.2⟩, ih]
    · rw [cntP_no e, cntP_no (fun q => e ⟨q.1, (h n q.1 (by omega)).mpr q.2⟩), ih]
theorem cntP_erase {Q : Nat → Prop} {y : Nat} : ∀ {m : Nat}, y < m → Q y → cntP Q 0 m = cntP (fun x => Q x ∧ x ≠ y) 0 m + 1
  | 0, h, _ => by omega
  | m + 1, h, hq => by
    by_cases e : m = y
    · subst e
      rw [cntP_yes ⟨by omega, hq⟩, cntP_no (fun q => q.2.2 rfl), cntP_congr (Q := fun x => Q x ∧ x ≠ m) (fun x _ hx => ⟨fun q => ⟨q, by omega⟩, fun q => q.1⟩)]
    · have ih := cntP_erase (m := m) (y := y) (by omega) hq
      by_cases hm : Q m
      · rw [cntP_yes ⟨by omega, hm⟩, cntP_yes ⟨by omega, hm, e⟩, ih]
      · rw [cntP_no (fun q => hm q.2), cntP_no (fun q => hm q.2.1), ih]
theorem cntP_inj {P : Nat → Prop} {m : Nat} (f : Nat → Nat) : ∀ {n : Nat} {Q : Nat → Prop}, (∀ x, x < n → P x → f x < m ∧ Q (f x)) → (∀ x y, x < n → y < n → P x → P y → f x = f y → x = y) → cntP P 0 n ≤ cntP Q 0 m
  | 0, Q, _, _ => Nat.zero_le _
  | n + 1, Q, h1, h2 => by
    by_cases hp : P n
    · obtain ⟨h3, h4⟩ := h1 n (by omega) hp
      rw [cntP_yes ⟨by omega, hp⟩, cntP_erase h3 h4]
      have := cntP_inj f (n := n) (Q := fun x => Q x ∧ x ≠ f n) (fun x hx hpx => ⟨(h1 x (by omega) hpx).1, (h1 x (by omega) hpx).2, fun e => by have := h2 x n (by omega) (by omega) hpx hp e; omega⟩) (fun x y hx hy => h2 x y (by omega) (by omega))
      omega
    · rw [cntP_no (fun q => hp q.2)]
      exact cntP_inj f (fun x hx => h1 x (by omega)) (fun x y hx hy => h2 x y (by omega) (by omega))
theorem cntP_not {P : Nat → Prop} : ∀ n, cntP P 0 n + cntP (fun x => ¬ P x) 0 n = n
  | 0 => rfl
  | n + 1 => by
    have ih := cntP_not (P := P) n
    by_cases h : P n
    · rw [cntP_yes ⟨by omega, h⟩, cntP_no (P := fun x => ¬ P x) (fun q => q.2 h)]; omega
    · rw [cntP_no (fun q => h q.2), cntP_yes ⟨by omega, h⟩]; omega
theorem cntP_perm {P : Nat → Prop} {n : Nat} {o : Nat → Nat} (h1 : ∀ j, j < n → o j < n) (h2 : ∀ i j, i < n → j < n → o i = o j → i = j) : cntP (fun j => P (o j)) 0 n = cntP P 0 n := by
  have a := cntP_inj (P := fun j => P (o j)) (Q := P) o (fun x hx hp => ⟨h1 x hx, hp⟩) (fun x y hx hy _ _ e => h2 x y hx hy e)
  have b := cntP_inj (P := fun j => ¬ P (o j)) (Q := fun j => ¬ P j) o (fun x hx hp => ⟨h1 x hx, hp⟩) (fun x y hx hy _ _ e => h2 x y hx hy e)
  have c := cntP_not (P := P) n
  have d := cntP_not (P := fun j => P (o j)) n
  omega
theorem cntP_lt {e : Nat} : ∀ n, e ≤ n → cntP (fun j => j < e) 0 n = e
  | 0, h => by show 0 = e; omega
  | n + 1, h => by
    by_cases q : e = n + 1
    · rw [cntP_yes ⟨by omega, by omega⟩, cntP_congr (Q := fun j => j < n) (fun x _ hx => by omega), cntP_lt n (Nat.le_refl _), q]
    · rw [cntP_no (by omega), cntP_lt n (by omega)]
theorem cntP_mono {P Q : Nat → Prop} {n : Nat} (h : ∀ x, x < n → P x → Q x) : cntP P 0 n ≤ cntP Q 0 n := cntP_inj id (fun x hx hp => ⟨hx, h x hx hp⟩) (fun x y _ _ _ _ e => e)
theorem cntP_less {P Q : Nat → Prop} {n y : Nat} (h : ∀ x, x < n → P x → Q x) (hy : y < n) (hq : Q y) (hp : ¬ P y) : cntP P 0 n < cntP Q 0 n := by
  rw [cntP_erase hy hq]
  have := cntP_mono (P := P) (Q := fun x => Q x ∧ x ≠ y) (n := n) (fun x hx hpx => ⟨h x hx hpx, fun e => hp (e ▸ hpx)⟩)
  omega
theorem LX_tot (H : Nat → Nat) {x y : Nat} (h : x ≠ y) : LX H x y ∨ LX H y x := by unfold LX; omega
theorem LX_irr (H : Nat → Nat) (x : Nat) : ¬ LX H x x := by unfold LX; omega
theorem LX_tr {H : Nat → Nat} {x y z : Nat} (h1 : LX H x y) (h2 : LX H y z) : LX H x z := by unfold LX at *; omega
theorem gp_inj {H o rk st : Nat → Nat} {n cn : Nat} (h : GP H n o rk st cn) : ∀ i j, i < n → j < n → o i = o j → i = j := fun i j hi hj e => by
  rcases Nat.lt_trichotomy i j with q | q | q
  · have := h.2.1 i j q hj; rw [e] at this; exact absurd this (LX_irr _ _)
  · exact q
  · have := h.2.1 j i q hi; rw [e] at this; exact absurd this (LX_irr _ _)
theorem gp_pos {H o rk st : Nat → Nat} {n cn : Nat} (h : GP H n o rk st cn) {j : Nat} (hj : j < n) : cntP (fun c => LX H c (o j)) 0 n = j := by
  rw [← cntP_perm h.1 (gp_inj h), cntP_congr (Q := fun i => i < j) (fun i _ hi => ⟨fun q => ?_, fun q => h.2.1 i j q hj⟩), cntP_lt n (by omega)]
  rcases Nat.lt_trichotomy i j with a | a | a
  · exact a
  · rw [a] at q; exact absurd q (LX_irr _ _)
  · exact absurd (LX_tr q (h.2.1 j i a hi)) (LX_irr _ _)
theorem gp_o {H o rk st o' rk' st' : Nat → Nat} {n cn cn' : Nat} (h : GP H n o rk st cn) (h' : GP H n o' rk' st' cn') {j : Nat} (hj : j < n) : o j = o' j := by
  have a := gp_pos h hj
  have b := gp_pos h' hj
  apply Decidable.byContradiction
  intro hne
  rcases LX_tot H hne with q | q
  · have := cntP_less (P := fun c => LX H c (o j)) (Q := fun c => LX H c (o' j)) (n := n) (y := o j) (fun x _ hx => LX_tr hx q) (h.1 j hj) q (LX_irr _ _)
    omega
  · have := cntP_less (P := fun c => LX H c (o' j)) (Q := fun c => LX H c (o j)) (n := n) (y := o' j) (fun x _ hx => LX_tr hx q) (h'.1 j hj) q (LX_irr _ _)
    omega
theorem gp_sur {H o rk st : Nat → Nat} {n cn : Nat} (h : GP H n o rk st cn) {b : Nat} (hb : b < n) : ∃ j, j < n ∧ o j = b := sur_of_inj n o h.1 (fun i j hij hj e => by have := gp_inj h i j (by omega) hj e; omega) b hb
theorem gp_stlt {H o rk st : Nat → Nat} {n cn g : Nat} (h : GP H n o rk st cn) (hg : g < cn) : st g < n := by
  have h1 := (h.2.2.2.2.2.1 g hg).1
  have h2 := gp_le h (g := g + 1) (by omega)
  omega
theorem gp_mono {H o rk st : Nat → Nat} {n cn : Nat} (h : GP H n o rk st cn) : ∀ {g g' : Nat}, g ≤ g' → g' ≤ cn → st g ≤ st g' := by
  intro g g' h1 h2
  induction g' with
  | zero => rw [show g = 0 by omega]; exact Nat.le_refl _
  | succ k ih =>
    by_cases e : g = k + 1
    · rw [e]; exact Nat.le_refl _
    · have := ih (by omega) (by omega)
      have := (h.2.2.2.2.2.1 k (by omega)).1
      omega
theorem gp_first {H o rk st : Nat → Nat} {n cn g : Nat} (h : GP H n o rk st cn) (hg : g < cn) : frs H (o (st g)) = true := by
  unfold frs
  refine decide_eq_true (fun b hb e => ?_)
  have hlt := gp_stlt h hg
  have ho := h.1 _ hlt
  obtain ⟨j, hj, rfl⟩ := gp_sur h (b := b) (by omega)
  have hr : rk (o j) = g := by
    have a := h.2.2.1 (o j) (o (st g)) (h.1 j hj) ho
    have b := h.2.2.1 (o (st g)) (o j) ho (h.1 j hj)
    have c := (h.2.2.2.2.2.1 g hg).2
    omega
  have hs := (h.2.2.2.2.1 j hj).1
  rw [hr] at hs
  by_cases e2 : st g = j
  · rw [e2] at hb; omega
  · have := h.2.1 (st g) j (by omega) hj
    unfold LX at this
    omega
theorem dfr_cnt (H : Nat → Nat) : ∀ n, dfr H n = cntP (fun c => frs H c = true) 0 n
  | 0 => rfl
  | n + 1 => by
    rw [dfr, dfr_cnt H n]
    by_cases h : frs H n = true
    · rw [if_pos h, cntP_yes ⟨by omega, h⟩]
    · rw [if_neg h, cntP_no (fun q => h q.2), Nat.add_zero]
theorem frs_inj {H : Nat → Nat} {x y : Nat} (hx : frs H x = true) (hy : frs H y = true) (e : H x = H y) : x = y := by
  have a := of_decide_eq_true hx
  have b := of_decide_eq_true hy
  rcases Nat.lt_trichotomy x y with q | q | q
  · exact absurd e (b x q)
  · exact q
  · exact absurd e.symm (a y q)
theorem gp_rkH {H o rk st : Nat → Nat} {n cn : Nat} (h : GP H n o rk st cn) {b c : Nat} (hb : b < n) (hc : c < n) : (rk b = rk c ↔ H b = H c) ∧ (rk b < rk c ↔ H b < H c) := by
  have a := h.2.2.1 b c hb hc
  have d := h.2.2.1 c b hc hb
  omega
theorem gp_cn {H o rk st : Nat → Nat} {n cn : Nat} (h : GP H n o rk st cn) : cn = dfr H n := by
  rw [dfr_cnt]
  have a := cntP_inj (P := fun g => g < cn) (Q := fun c => frs H c = true) (n := cn) (m := n) (fun g => o (st g)) (fun g hg _ => ⟨h.1 _ (gp_stlt h hg), gp_first h hg⟩) (fun g g' hg hg' _ _ e => by
    have e : o (st g) = o (st g') := e
    have h1 := (h.2.2.2.2.2.1 g hg).2
    have h2 := (h.2.2.2.2.2.1 g' hg').2
    rw [e] at h1; omega)
  rw [cntP_lt cn (Nat.le_refl _)] at a
  have b := cntP_inj (P := fun c => frs H c = true) (Q := fun g => g < cn) (n := n) (m := cn) rk (fun c hc _ => ⟨h.2.2.2.1 c hc, h.2.2.2.1 c hc⟩) (fun x y hx hy p1 p2 e => frs_inj p1 p2 ((gp_rkH h hx hy).1.mp e))
  rw [cntP_lt cn (Nat.le_refl _)] at b
  omega
theorem gp_rk {H o rk st : Nat → Nat} {n cn : Nat} (h : GP H n o rk st cn) {b : Nat} (hb : b < n) : rk b = cntP (fun c => frs H c = true ∧ H c < H b) 0 n := by
  have hrb := h.2.2.2.1 b hb
  have a := cntP_inj (P := fun g => g < rk b) (Q := fun c => frs H c = true ∧ H c < H b) (n := rk b) (m := n) (fun g => o (st g)) (fun g hg _ => by
    have hs := gp_stlt h (g := g) (by omega)
    have h1 := (h.2.2.2.2.2.1 g (by omega)).2
    exact ⟨h.1 _ hs, gp_first h (by omega), (gp_rkH h (h.1 _ hs) hb).2.mp (by omega)⟩) (fun g g' hg hg' _ _ e => by
    have e : o (st g) = o (st g') := e
    have h1 := (h.2.2.2.2.2.1 g (by omega)).2
    have h2 := (h.2.2.2.2.2.1 g' (by omega)).2
    rw [e] at h1; omega)
  rw [cntP_lt _ (Nat.le_refl _)] at a
  have c := cntP_inj (P := fun c => frs H c = true ∧ H c < H b) (Q := fun g => g < rk b) (n := n) (m := rk b) rk (fun c hc q => by have := (gp_rkH h hc hb).2.mpr q.2; exact ⟨this, this⟩) (fun x y hx hy p1 p2 e => frs_inj p1.1 p2.1 ((gp_rkH h hx hy).1.mp e))
  rw [cntP_lt _ (Nat.le_refl _)] at c
  omega
theorem gp_jlt {H o rk st : Nat → Nat} {n cn : Nat} (h : GP H n o rk st cn) {j g : Nat} (hj : j < n) (hg : g ≤ cn) : j < st g ↔ rk (o j) < g := by
  have hr := h.2.2.2.1 _ (h.1 j hj)
  have h1 := h.2.2.2.2.1 j hj
  constructor
  · intro q
    rcases Nat.lt_or_ge (rk (o j)) g with a | a
    · exact a
    · have := gp_mono h a (by omega)
      omega
  · intro q
    have := gp_mono h (g := rk (o j) + 1) (g' := g) (by omega) hg
    omega
theorem gp_st {H o rk st : Nat → Nat} {n cn : Nat} (h : GP H n o rk st cn) {g : Nat} (hg : g ≤ cn) : st g = cntP (fun c => rk c < g) 0 n := by
  rw [← cntP_perm h.1 (gp_inj h), cntP_congr (Q := fun j => j < st g) (fun j _ hj => (gp_jlt h hj hg).symm), cntP_lt n (gp_le h hg)]
theorem gp_size {H o rk st : Nat → Nat} {n cn : Nat} (h : GP H n o rk st cn) {g : Nat} (hg : g < cn) : st g + cntP (fun c => rk c = g) 0 n = st (g + 1) := by
  rw [gp_st h (g := g) (by omega), gp_st h (g := g + 1) (by omega)]
  have : ∀ n, cntP (fun c => rk c < g) 0 n + cntP (fun c => rk c = g) 0 n = cntP (fun c => rk c < g + 1) 0 n := by
    intro n
    induction n with
    | zero => rfl
    | succ n ih =>
      rcases Nat.lt_trichotomy (rk n) g with q | q | q
      · rw [cntP_yes (P := fun c => rk c < g) ⟨by omega, q⟩, cntP_no (P := fun c => rk c = g) (by omega), cntP_yes (P := fun c => rk c < g + 1) ⟨by omega, by omega⟩]; omega
      · rw [cntP_no (P := fun c => rk c < g) (by omega), cntP_yes (P := fun c => rk c = g) ⟨by omega, q⟩, cntP_yes (P := fun c => rk c < g + 1) ⟨by omega, by omega⟩]; omega
      · rw [cntP_no (P := fun c => rk c < g) (by omega), cntP_no (P := fun c => rk c = g) (by omega), cntP_no (P := fun c => rk c < g + 1) (by omega)]; omega
  exact this n
theorem gp_exists (H : Nat → Nat) (n : Nat) : ∃ o rk st cn, GP H n o rk st cn := by
  have hpl : ∀ b, b < n → cntP (fun c => LX H c b) 0 n < n := fun b hb => by
    have := cntP_less (P := fun c => LX H c b) (Q := fun _ => True) (n := n) (y := b) (fun _ _ _ => trivial) hb trivial (LX_irr _ _)
    have h2 := cntP_le (P := fun _ => True) (a := 0) n
    omega
  have hlx : ∀ {x y}, x < n → LX H x y → cntP (fun c => LX H c x) 0 n < cntP (fun c => LX H c y) 0 n := fun {x y} hx h => cntP_less (fun z _ hz => LX_tr hz h) hx h (LX_irr _ _)
  have hinj : ∀ i j, i < n → j < n → cntP (fun c => LX H c i) 0 n = cntP (fun c => LX H c j) 0 n → i = j := fun i j hi hj e => by
    apply Decidable.byContradiction
    intro hne
    rcases LX_tot H hne with q | q
    · have := hlx hi q; omega
    · have := hlx hj q; omega
  have hs := sur_of_inj n (fun b => cntP (fun c => LX H c b) 0 n) hpl (fun i j hij hj e => by have := hinj i j (by omega) hj e; omega)
  have hc : ∃ o : Nat → Nat, ∀ j, j < n → o j < n ∧ cntP (fun c => LX H c (o j)) 0 n = j := by
    refine ⟨fun j => if h : j < n then Classical.choose (hs j h) else 0, fun j hj => ?_⟩
    show (dite _ _ _ < n) ∧ _
    have := Classical.choose_spec (hs j hj)
    simp only [hj, dite_true]
    exact this
  obtain ⟨o, ho⟩ := hc
  have hsort : ∀ i j, i < j → j < n → LX H (o i) (o j) := fun i j hij hj => by
    have hi := ho i (by omega)
    have hj' := ho j hj
    by_cases e : o i = o j
    · rw [e] at hi; omega
    · rcases LX_tot H e with q | q
      · exact q
      · have := hlx hj'.1 q; omega
  have hGL : ∀ k, k ≤ n → ∃ p s c, GL H o k p s c ∧ (k = 0 → c = 0) := by
    intro k
    induction k with
    | zero => exact fun _ => ⟨fun _ => 0, fun _ => 0, 0, ⟨fun j hj => by omega, fun i j _ hj => by omega, fun g hg => by omega, fun j hj => by omega, by omega, fun h => by omega⟩, fun _ => rfl⟩
    | succ k ih =>
      intro hk
      obtain ⟨p, s, c, h1, h2⟩ := ih (by omega)
      by_cases e : k = 0 ∨ H (o (k - 1)) ≠ H (o k)
      · exact ⟨_, _, _, GL_new h1 (fun i j hij hj => hsort i j hij (by omega)) e, fun h => by omega⟩
      · have e2 : 0 < k ∧ H (o (k - 1)) = H (o k) := ⟨by omega, Decidable.not_not.mp (fun q => e (Or.inr q))⟩
        exact ⟨_, _, _, GL_same h1 e2.1 (fun i j hij hj => hsort i j hij (by omega)) e2.2, fun h => by omega⟩
  obtain ⟨p, s, c, h1, h2⟩ := hGL n (Nat.le_refl _)
  exact ⟨o, fun b => p (cntP (fun c => LX H c b) 0 n), updN s c n, c, GL_end h1 (fun j hj => (ho j hj).1) (fun b hb => ⟨cntP (fun c => LX H c b) 0 n, hpl b hb, hinj _ _ (ho _ (hpl b hb)).1 hb (ho _ (hpl b hb)).2⟩) hsort (fun j hj => by rw [(ho j hj).2]) h2⟩
