/-! Descriptions as bytes, and as keys. -/
/-- the bytes of a place, of a triple's description, as the reference lays them -/
def plR (F : Nat → Int32) (b P : Nat) : List Int32 := if 8 ≤ P then 0 :: bys 4 (nI (P - 8)) else if 7 - P = b then [1] else 2 :: hbs F (7 - P) 8 0
def preR (F : Nat → Int32) (b K : Nat) : Nat → List Int32
  | 0 => []
  | i + 1 => preR F b K i ++ plR F b (kp K i)
def dR (F : Nat → Int32) (b K : Nat) : List Int32 := preR F b K 3
def g4 (x : Int32) (j : Nat) : Int32 := nI (uw x / 2 ^ (24 - 8 * j) % 256)
theorem bys4 (x : Int32) : bys 4 x = (List.range 4).map (g4 x) := by
  have e : ∀ k, k < 4 → us x (8 * nI k) &&& 255 = g4 x (3 - k) := fun k hk => by
    unfold g4
    rw [pk_and _ (m := 255) 8 rfl]
    show nI (uw (us x (8 * nI k)) % 256) = _
    rw [show (8 : Int32) * nI k = nI (8 * k) from pk_mul 8 k, us_k x (8 * k) (by omega), show 24 - 8 * (3 - k) = 8 * k by omega]
  show [us x (8 * nI 3) &&& 255, us x (8 * nI 2) &&& 255, us x (8 * nI 1) &&& 255, us x (8 * nI 0) &&& 255] = _
  rw [e 3 (by omega), e 2 (by omega), e 1 (by omega), e 0 (by omega)]
  rfl
def g32 (F : Nat → Int32) (c j : Nat) : Int32 := g4 (F (c * 8 + j / 4)) (j % 4)
theorem hbs32 (F : Nat → Int32) (c : Nat) : hbs F c 8 0 = (List.range 32).map (g32 F c) := by
  unfold hbs hbs hbs hbs hbs hbs hbs hbs hbs
  rw [bys4, bys4, bys4, bys4, bys4, bys4, bys4, bys4]
  rfl
theorem g4_lt (x : Int32) (j : Nat) : uw (g4 x j) < 256 := by
  unfold g4
  rw [uw_nI (Nat.lt_trans (Nat.mod_lt _ (by decide)) (by decide))]
  exact Nat.mod_lt _ (by decide)
theorem plR_len (F : Nat → Int32) (b P : Nat) : (plR F b P).length ≤ 33 := by
  unfold plR
  split
  · rw [List.length_cons, bys_len]; omega
  · split
    · show 1 ≤ 33; omega
    · rw [List.length_cons, hbs_len]; omega
theorem preR_len (F : Nat → Int32) (b K : Nat) : ∀ i, (preR F b K i).length ≤ 33 * i
  | 0 => Nat.le_refl _
  | i + 1 => by
    have := preR_len F b K i
    have := plR_len F b (kp K i)
    rw [preR, List.length_append]
    omega
theorem plR_lt (F : Nat → Int32) (b P : Nat) : ∀ x ∈ plR F b P, uw x < 256 := by
  intro x hx
  unfold plR at hx
  have m4 : ∀ y, x ∈ bys 4 y → uw x < 256 := fun y h => by
    rw [bys4] at h
    obtain ⟨j, _, rfl⟩ := List.mem_map.mp h
    exact g4_lt _ _
  have m32 : ∀ c, x ∈ hbs F c 8 0 → uw x < 256 := fun c h => by
    rw [hbs32] at h
    obtain ⟨j, _, rfl⟩ := List.mem_map.mp h
    exact g4_lt _ _
  split at hx
  · rcases List.mem_cons.mp hx with rfl | h
    · decide
    · exact m4 _ h
  · split at hx
    · rw [List.mem_singleton.mp hx]; decide
    · rcases List.mem_cons.mp hx with rfl | h
      · decide
      · exact m32 _ h
theorem preR_lt (F : Nat → Int32) (b K : Nat) : ∀ i, ∀ x ∈ preR F b K i, uw x < 256
  | 0, x, h => absurd h List.not_mem_nil
  | i + 1, x, h => by
    rcases List.mem_append.mp h with h | h
    · exact preR_lt F b K i x h
    · exact plR_lt F b _ x h
/-- first by bytes: the one that comes before -/
def lxb : List Int32 → List Int32 → Bool
  | [], [] => false
  | [], _ :: _ => true
  | _ :: _, [] => false
  | x :: xs, y :: ys => if x = y then lxb xs ys else decide (x < y)
theorem lxb_pre : ∀ (c a b : List Int32), lxb (c ++ a) (c ++ b) = lxb a b
  | [], a, b => rfl
  | x :: c, a, b => by
    show (if x = x then lxb (c ++ a) (c ++ b) else _) = _
    rw [if_pos rfl, lxb_pre c a b]
/-- strictly before, by a byte that both have -/
def SB (a b : List Int32) : Prop := ∃ c x y t u, a = c ++ x :: t ∧ b = c ++ y :: u ∧ x < y
theorem SB_lxb {a b : List Int32} (h : SB a b) (s t : List Int32) : lxb (a ++ s) (b ++ t) = true ∧ lxb (b ++ t) (a ++ s) = false := by
  obtain ⟨c, x, y, t1, u, rfl, rfl, hxy⟩ := h
  rw [List.append_assoc, List.append_assoc, lxb_pre, lxb_pre]
  have hne : x ≠ y := fun e => by rw [e] at hxy; exact absurd hxy (Int32.lt_irrefl)
  constructor
  · show (if x = y then _ else decide (x < y)) = true
    rw [if_neg hne, decide_eq_true hxy]
  · show (if y = x then _ else decide (y < x)) = false
    rw [if_neg (fun e => hne e.symm), decide_eq_false (fun q => by rw [Int32.lt_iff_toInt_lt] at q hxy; omega)]
theorem SB_cons {a b : List Int32} (z : Int32) (h : SB a b) : SB (z :: a) (z :: b) := by
  obtain ⟨c, x, y, t, u, rfl, rfl, hxy⟩ := h
  exact ⟨z :: c, x, y, t, u, rfl, rfl, hxy⟩
theorem SB_app {a b : List Int32} (c s t : List Int32) (h : SB a b) : SB (c ++ (a ++ s)) (c ++ (b ++ t)) := by
  obtain ⟨c1, x, y, t1, u, rfl, rfl, hxy⟩ := h
  exact ⟨c ++ c1, x, y, t1 ++ s, u ++ t, by simp, by simp, hxy⟩
theorem nI_lt8 {a b : Nat} (h : a < b) (hb : b < 256) : nI a < nI b := (nI_ltI (by omega) (by omega)).mpr h
theorem SB_g4 {x y : Int32} (h : uw x < uw y) : SB (bys 4 x) (bys 4 y) := by
  rw [bys4, bys4]
  show SB [g4 x 0, g4 x 1, g4 x 2, g4 x 3] [g4 y 0, g4 y 1, g4 y 2, g4 y 3]
  have hx := uw_lt x
  have hy := uw_lt y
  unfold g4
  simp only [Nat.reduceMul, Nat.reduceSub]
  by_cases h0 : uw x / 2 ^ 24 % 256 = uw y / 2 ^ 24 % 256
  · rw [h0]
    refine SB_cons _ ?_
    by_cases h1 : uw x / 2 ^ 16 % 256 = uw y / 2 ^ 16 % 256
    · rw [h1]
      refine SB_cons _ ?_
      by_cases h2 : uw x / 2 ^ 8 % 256 = uw y / 2 ^ 8 % 256
      · rw [h2]
        refine SB_cons _ ?_
        exact ⟨[], _, _, _, _, rfl, rfl, nI_lt8 (by omega) (by omega)⟩
      · exact ⟨[], _, _, _, _, rfl, rfl, nI_lt8 (by omega) (by omega)⟩
    · exact ⟨[], _, _, _, _, rfl, rfl, nI_lt8 (by omega) (by omega)⟩
  · exact ⟨[], _, _, _, _, rfl, rfl, nI_lt8 (by omega) (by omega)⟩
theorem hbs_split (F : Nat → Int32) (c : Nat) : ∀ k i m, hbs F c (k + m) i = hbs F c k i ++ hbs F c m (i + k)
  | 0, i, m => by simp [hbs]
  | k + 1, i, m => by
    rw [show k + 1 + m = (k + m) + 1 by omega, hbs, hbs, hbs_split F c k (i + 1) m, List.append_assoc, show i + 1 + k = i + (k + 1) by omega]
theorem hbs_eq {F F' : Nat → Int32} {c c' : Nat} : ∀ {k i : Nat}, (∀ j, j < k → F (c * 8 + (i + j)) = F' (c' * 8 + (i + j))) → hbs F c k i = hbs F' c' k i
  | 0, i, h => rfl
  | k + 1, i, h => by
    have h0 := h 0 (by omega)
    rw [Nat.add_zero] at h0
    have hr : hbs F c k (i + 1) = hbs F' c' k (i + 1) := hbs_eq (fun j hj => by
      have := h (j + 1) (by omega)
      rw [show i + (j + 1) = i + 1 + j by omega] at this
      exact this)
    rw [hbs, hbs, h0, hr]
theorem hvx_eq {F F' : Nat → Int32} {c c' : Nat} : hv F c = hv F' c' ↔ ∀ j, j < 8 → F (c * 8 + j) = F' (c' * 8 + j) := by
  unfold hv
  rw [pw_eq (fun j => uw_lt _) (fun j => uw_lt _)]
  exact ⟨fun h j hj => uw_inj (h j hj), fun h j hj => by rw [h j hj]⟩
theorem SB_hbs {F : Nat → Int32} {c c' : Nat} (h : hv F c < hv F c') : SB (hbs F c 8 0) (hbs F c' 8 0) := by
  have hne : ∃ j, j < 8 ∧ F (c * 8 + j) ≠ F (c' * 8 + j) := by
    apply Decidable.byContradiction
    intro hn
    have : hv F c = hv F c' := hvx_eq.mpr (fun j hj => Decidable.byContradiction (fun q => hn ⟨j, hj, q⟩))
    omega
  obtain ⟨i, ⟨hi, hd⟩, hmin⟩ := pk_least _ hne
  have hsame : ∀ j, j < i → F (c * 8 + j) = F (c' * 8 + j) := fun j hj => Decidable.byContradiction (fun q => hmin j hj ⟨by omega, q⟩)
  have hp : pw (fun i => uw (F (c * 8 + i))) i = pw (fun i => uw (F (c' * 8 + i))) i := (pw_eq (fun j => uw_lt _) (fun j => uw_lt _) i).mpr (fun j hj => by rw [hsame j hj])
  have hlt : uw (F (c * 8 + i)) < uw (F (c' * 8 + i)) := by
    rcases Nat.lt_trichotomy (uw (F (c * 8 + i))) (uw (F (c' * 8 + i))) with q | q | q
    · exact q
    · exact absurd (uw_inj q) hd
    · exfalso
      have := pw_lt (F := fun i => uw (F (c' * 8 + i))) (F' := fun i => uw (F (c * 8 + i))) (i := i + 1) (by show pw _ i * 2 ^ 32 + uw (F (c' * 8 + i)) < pw _ i * 2 ^ 32 + uw (F (c * 8 + i)); rw [hp]; omega) (8 - (i + 1)) (fun j => uw_lt _)
      rw [show i + 1 + (8 - (i + 1)) = 8 by omega] at this
      exact absurd h (Nat.lt_asymm this)
  have e1 := hbs_split F c i 0 (8 - i)
  have e2 := hbs_split F c' i 0 (8 - i)
  rw [show i + (8 - i) = 8 by omega, show 8 - i = (7 - i) + 1 by omega] at e1 e2
  have f1 : hbs F c (7 - i + 1) (0 + i) = bys 4 (F (c * 8 + (0 + i))) ++ hbs F c (7 - i) (0 + i + 1) := rfl
  have f2 : hbs F c' (7 - i + 1) (0 + i) = bys 4 (F (c' * 8 + (0 + i))) ++ hbs F c' (7 - i) (0 + i + 1) := rfl
  rw [f1] at e1
  rw [f2] at e2
  rw [e1, e2, hbs_eq (F' := F) (c' := c') (fun j hj => hsame (0 + j) (by omega))]
  rw [Nat.zero_add]
  exact SB_app _ _ _ (SB_g4 hlt)
/-- the ranks of blanks order their hashes -/
def rkOk (F : Nat → Int32) (n : Nat) (rk : Nat → Nat) : Prop := (∀ b c, b < n → c < n → (rk b ≤ rk c ↔ hv F b ≤ hv F c)) ∧ ∀ b, b < n → rk b < 8
theorem plR_cmp {F : Nat → Int32} {n b P P' : Nat} {rk : Nat → Nat} (hr : rkOk F n rk) (hP : P < 1009) (hP' : P' < 1009) (h : P < 8 → 7 - P < n) (h' : P' < 8 → 7 - P' < n) : (dp b rk P = dp b rk P' → plR F b P = plR F b P') ∧ (dp b rk P < dp b rk P' → SB (plR F b P) (plR F b P')) := by
  have tagS : ∀ (x y : Nat) (s t : List Int32), x < y → y < 3 → SB (nI x :: s) (nI y :: t) := fun x y s t h1 h2 => ⟨[], _, _, s, t, rfl, rfl, nI_lt8 h1 (by omega)⟩
  unfold dp plR
  by_cases a : 8 ≤ P
  · rw [if_pos a, if_pos a]
    by_cases a' : 8 ≤ P'
    · rw [if_pos a', if_pos a']
      refine ⟨fun e => by rw [e], fun l => SB_cons _ (SB_g4 ?_)⟩
      rw [uw_nI (by omega), uw_nI (by omega)]
      exact l
    · rw [if_neg a', if_neg a']
      by_cases s' : 7 - P' = b
      · rw [if_pos s', if_pos s']
        exact ⟨fun e => by omega, fun _ => tagS 0 1 _ _ (by omega) (by omega)⟩
      · rw [if_neg s', if_neg s']
        exact ⟨fun e => by omega, fun _ => tagS 0 2 _ _ (by omega) (by omega)⟩
  · rw [if_neg a, if_neg a]
    have hn := h (by omega)
    have := hr.2 _ hn
    by_cases a' : 8 ≤ P'
    · rw [if_pos a', if_pos a']
      split
      · exact ⟨fun e => by omega, fun l => by omega⟩
      · exact ⟨fun e => by omega, fun l => by omega⟩
    · rw [if_neg a', if_neg a']
      have hn' := h' (by omega)
      have := hr.2 _ hn'
      by_cases s : 7 - P = b
      · rw [if_pos s, if_pos s]
        by_cases s' : 7 - P' = b
        · rw [if_pos s', if_pos s']
          exact ⟨fun _ => rfl, fun l => by omega⟩
        · rw [if_neg s', if_neg s']
          exact ⟨fun e => by omega, fun _ => tagS 1 2 _ _ (by omega) (by omega)⟩
      · rw [if_neg s, if_neg s]
        by_cases s' : 7 - P' = b
        · rw [if_pos s', if_pos s']
          exact ⟨fun e => by omega, fun l => by omega⟩
        · rw [if_neg s', if_neg s']
          have q1 := hr.1 _ _ hn hn'
          have q2 := hr.1 _ _ hn' hn
          refine ⟨fun e => ?_, fun l => SB_cons _ (SB_hbs (by omega))⟩
          have : hv F (7 - P) = hv F (7 - P') := by omega
          rw [hbs_eq (F := F) (F' := F) (c := 7 - P) (c' := 7 - P') (k := 8) (i := 0) (fun j hj => by rw [Nat.zero_add]; exact hvx_eq.mp this j hj)]
/-- keys of descriptions order their bytes -/
def keyK (K n : Nat) : Prop := K < 2 ^ 30 ∧ ∀ p, p < 3 → kp K p < 1009 ∧ (kp K p < 8 → 7 - kp K p < n)
theorem dp_lt' {F : Nat → Int32} {n b P : Nat} {rk : Nat → Nat} (hr : rkOk F n rk) (hP : P < 1009) (h : P < 8 → 7 - P < n) : dp b rk P < 1024 := dp_lt (by omega) (fun q => hr.2 _ (h q))
theorem dR_cmp {F : Nat → Int32} {n b K K' : Nat} {rk : Nat → Nat} (hr : rkOk F n rk) (hK : keyK K n) (hK' : keyK K' n) : lxb (dR F b K) (dR F b K') = decide (dsc b rk K < dsc b rk K') ∧ (dsc b rk K = dsc b rk K' → dR F b K = dR F b K') := by
  have c : ∀ p, p < 3 → (dp b rk (kp K p) = dp b rk (kp K' p) → plR F b (kp K p) = plR F b (kp K' p)) ∧ (dp b rk (kp K p) < dp b rk (kp K' p) → SB (plR F b (kp K p)) (plR F b (kp K' p))) := fun p hp => plR_cmp hr (hK.2 p hp).1 (hK'.2 p hp).1 (hK.2 p hp).2 (hK'.2 p hp).2
  have c' : ∀ p, p < 3 → (dp b rk (kp K' p) < dp b rk (kp K p) → SB (plR F b (kp K' p)) (plR F b (kp K p))) := fun p hp => (plR_cmp hr (hK'.2 p hp).1 (hK.2 p hp).1 (hK'.2 p hp).2 (hK.2 p hp).2).2
  have b1 : ∀ p, p < 3 → dp b rk (kp K p) < 1024 := fun p hp => dp_lt' hr (hK.2 p hp).1 (hK.2 p hp).2
  have b2 : ∀ p, p < 3 → dp b rk (kp K' p) < 1024 := fun p hp => dp_lt' hr (hK'.2 p hp).1 (hK'.2 p hp).2
  have e : ∀ K, dR F b K = plR F b (kp K 0) ++ (plR F b (kp K 1) ++ (plR F b (kp K 2) ++ [])) := fun K => by
    show ([] ++ _ ++ _) ++ _ = _
    simp
  rw [e, e]
  unfold dsc
  have a0 := b1 0 (by omega)
  have a1 := b1 1 (by omega)
  have a2 := b1 2 (by omega)
  have a3 := b2 0 (by omega)
  have a4 := b2 1 (by omega)
  have a5 := b2 2 (by omega)
  rcases Nat.lt_trichotomy (dp b rk (kp K 0)) (dp b rk (kp K' 0)) with q | q | q
  · exact ⟨by rw [((SB_lxb ((c 0 (by omega)).2 q)) _ _).1, decide_eq_true (by omega)], fun h => by omega⟩
  · rw [(c 0 (by omega)).1 q, lxb_pre]
    rcases Nat.lt_trichotomy (dp b rk (kp K 1)) (dp b rk (kp K' 1)) with q1 | q1 | q1
    · exact ⟨by rw [((SB_lxb ((c 1 (by omega)).2 q1)) _ _).1, decide_eq_true (by omega)], fun h => by omega⟩
    · rw [(c 1 (by omega)).1 q1, lxb_pre]
      rcases Nat.lt_trichotomy (dp b rk (kp K 2)) (dp b rk (kp K' 2)) with q2 | q2 | q2
      · exact ⟨by rw [((SB_lxb ((c 2 (by omega)).2 q2)) _ _).1, decide_eq_true (by omega)], fun h => by omega⟩
      · rw [(c 2 (by omega)).1 q2, lxb_pre]
        exact ⟨by rw [decide_eq_false (by omega)]; rfl, fun _ => rfl⟩
      · exact ⟨by rw [((SB_lxb (c' 2 (by omega) q2)) _ _).2, decide_eq_false (by omega)], fun h => by omega⟩
    · exact ⟨by rw [((SB_lxb (c' 1 (by omega) q1)) _ _).2, decide_eq_false (by omega)], fun h => by omega⟩
  · exact ⟨by rw [((SB_lxb (c' 0 (by omega) q)) _ _).2, decide_eq_false (by omega)], fun h => by omega⟩
theorem plB_plR {F : Nat → Int32} {n b P cnt : Nat} {o rk st : Nat → Nat} (hn8 : n ≤ 8) (hG : GP (hv F) n o rk st cnt) (hP : P < 1009) (h : P < 8 → 7 - P < n) : plB F (fun g => o (st g)) (dp b rk P) = plR F b P := by
  obtain ⟨g1, g2, g3, g4', g5, g6, g7, g8, g9⟩ := hG
  unfold plB dp plR
  by_cases a : 8 ≤ P
  · rw [if_pos a, if_pos a]
    unfold tag pcB
    rw [if_pos (by omega), if_pos (by omega)]
    rfl
  · rw [if_neg a, if_neg a]
    by_cases s : 7 - P = b
    · rw [if_pos s, if_pos s]
      rfl
    · rw [if_neg s, if_neg s]
      have hn := h (by omega)
      have hr := g4' _ hn
      unfold tag pcB
      rw [if_neg (by omega), if_neg (by omega), if_neg (by omega), if_neg (by omega), show 1002 + rk (7 - P) - 1002 = rk (7 - P) by omega]
      have hs := (g6 _ hr).2
      have hlt : st (rk (7 - P)) < n := by
        have h1 := (g6 _ hr).1
        have h2 := gp_le ⟨g1, g2, g3, g4', g5, g6, g7, g8, g9⟩ (g := rk (7 - P) + 1) (by omega)
        omega
      have ho := g1 _ hlt
      have q1 := g3 _ _ ho hn
      have q2 := g3 _ _ hn ho
      have e : hv F (o (st (rk (7 - P)))) = hv F (7 - P) := by omega
      rw [hbs_eq (F := F) (F' := F) (c := o (st (rk (7 - P)))) (c' := 7 - P) (k := 8) (i := 0) (fun j hj => by rw [Nat.zero_add]; exact hvx_eq.mp e j hj)]
      rfl
theorem gp_rkOk {F : Nat → Int32} {n cnt : Nat} {o rk st : Nat → Nat} (hn8 : n ≤ 8) (hG : GP (hv F) n o rk st cnt) : rkOk F n rk := ⟨hG.2.2.1, fun b hb => by have := hG.2.2.2.1 b hb; have := hG.2.2.2.2.2.2.2.1; omega⟩
theorem dsB_dR {F : Nat → Int32} {n b K cnt : Nat} {o rk st : Nat → Nat} (hn8 : n ≤ 8) (hG : GP (hv F) n o rk st cnt) (hK : keyK K n) : dsB F (fun g => o (st g)) (dsc b rk K) = dR F b K := by
  have hr := gp_rkOk hn8 hG
  have hk := (dsc_kp (b := b) (rk := rk) (K := K) (fun p hp => dp_lt' hr (hK.2 p hp).1 (hK.2 p hp).2)).1
  unfold dsB
  rw [hk 0 (by omega), hk 1 (by omega), hk 2 (by omega), plB_plR hn8 hG (hK.2 0 (by omega)).1 (hK.2 0 (by omega)).2, plB_plR hn8 hG (hK.2 1 (by omega)).1 (hK.2 1 (by omega)).2, plB_plR hn8 hG (hK.2 2 (by omega)).1 (hK.2 2 (by omega)).2]
  show _ = ([] ++ _ ++ _) ++ _
  simp
