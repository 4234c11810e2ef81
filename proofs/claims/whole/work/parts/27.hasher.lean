/-! Hasher: takeRound, partFor, putContent; what is put, as a list of bytes. -/
def bys : Nat → Int32 → List Int32
  | 0, _ => []
  | k + 1, x => (us x (8 * nI k) &&& 255) :: bys k x
theorem bys_len : ∀ (k : Nat) (x : Int32), (bys k x).length = k
  | 0, _ => rfl
  | k + 1, x => by rw [bys, List.length_cons, bys_len k x]
theorem putF_bys : ∀ (k : Nat) (x : Int32) (s : SS), putF k x s = (bys k x).foldl absorb s
  | 0, _, _ => rfl
  | k + 1, x, s => by rw [putF, bys, List.foldl_cons, putF_bys k x]
def eat (s : SS) (l : List Int32) : SS := l.foldl absorb s
theorem eat_app (s : SS) (a b : List Int32) : eat s (a ++ b) = eat (eat s a) b := List.foldl_append
theorem eat_lt : ∀ (l : List Int32) (s : SS), s.2.2 < 64 → (eat s l).2.2 < 64
  | [], _, h => h
  | b :: l, s, h => eat_lt l _ (absorb_lt h)
theorem con_eat (d k : Nat) (hk : k ≤ 4) (x len : Int32) (s : SS) (hs : s.2.2 < 64) : Con mX6_put (d + 1) 0 0 (wS s len) [.ref 100, .int x, .int (nI k)] (fun w' v => v = none ∧ w' = wS (eat s (bys k x)) (len + nI k)) := by
  have h := con_put d k hk x len s hs
  rw [putF_bys] at h
  exact h
/-- the words of a hash from word i on -/
def hbs (F : Nat → Int32) (b : Nat) : Nat → Nat → List Int32
  | 0, _ => []
  | k + 1, i => bys 4 (F (b * 8 + i)) ++ hbs F b k (i + 1)
theorem hbs_len (F : Nat → Int32) (b : Nat) : ∀ (k i : Nat), (hbs F b k i).length = 4 * k
  | 0, _ => rfl
  | k + 1, i => by rw [hbs, List.length_append, bys_len, hbs_len F b k (i + 1)]; omega
/-- what a part puts; bl: the blank that stands for a rank -/
def pcB (F : Nat → Int32) (bl : Nat → Nat) (p : Nat) : List Int32 := if p < 1001 then bys 4 (nI p) else if p = 1001 then [] else hbs F (bl (p - 1002)) 8 0
/-- a place of a description: P the key's place, b the blank, rk the ranks -/
def dp (b : Nat) (rk : Nat → Nat) (P : Nat) : Nat := if 8 ≤ P then P - 8 else if 7 - P = b then 1001 else 1002 + rk (7 - P)
set_option maxRecDepth 20000 in
theorem con_takeRound (d g1 g2 : Nat) (v1 v2 v3 v4 v5 v6 v7 : Value) : Con mX2_takeRound d 0 0 [.inr (3, [v1, v2, .ref g2]), .inr (1, [v3, v4, v5, v6, v7, .ref g1])] [.ref 100, .ref 101] (fun w' v => v = none ∧ w' = [.inr (3, [v1, v2, .ref g1]), .inr (1, [v3, v4, v5, v6, v7, .ref g2])]) := by
  refine Con.of (ab_okc rfl (by decide)) (Nat.le_of_ble_eq_true rfl) ?_
  show G ab_x0 mX2_takeRound d 0 0 _ 0 [some (.ref 100), some (.ref 101), none] [] _
  refine G_aload_n dX2_takeRound_0 rfl ?_
  refine G_get (f := 5) kc1 dX2_takeRound_1 fX2_42 (by decide) rfl rfl ?_
  refine G_astore_n (L' := [_, _, _]) dX2_takeRound_4 (Nat.le_of_ble_eq_true rfl) rfl ?_
  refine G_aload_n dX2_takeRound_5 rfl ?_
  refine G_aload_n dX2_takeRound_6 rfl ?_
  refine G_get (f := 2) kc3 dX2_takeRound_7 fX2_25 (by decide) rfl rfl ?_
  refine G_put (w' := [_, _]) (f := 5) kc1 dX2_takeRound_10 fX2_42 (by decide) rfl rfl rfl rfl (Nat.le_of_ble_eq_true rfl) rfl ?_
  refine G_aload_n dX2_takeRound_13 rfl ?_
  refine G_aload_n dX2_takeRound_14 rfl ?_
  refine G_put (w' := [_, _]) (f := 2) kc3 dX2_takeRound_15 fX2_25 (by decide) rfl rfl rfl rfl (Nat.le_of_ble_eq_true rfl) rfl ?_
  exact G_ret (v := none) ⟨dX2_takeRound_18, rfl⟩ ⟨rfl, rfl⟩
set_option maxRecDepth 20000 in
theorem con_partFor (d P b : Nat) (hP : P < 1024) (hb : b < 8) (f : Nat → Int32) (rk : Nat → Nat) (hr : P < 8 → f (7 - P) = nI (rk (7 - P))) (hv ov sv cv : Value) : Con mX2_partFor d 0 0 [.inr (2, [hv, ov, .ref 101, sv, cv]), cI 8 f] [.ref 100, .int (nI P - 8), .int (nI b)] (fun w' v => w' = [.inr (2, [hv, ov, .ref 101, sv, cv]), cI 8 f] ∧ v = some (.int (nI (dp b rk P)))) := by
  refine Con.of (ab_okc rfl (by decide)) (Nat.le_of_ble_eq_true rfl) ?_
  show G ab_x0 mX2_partFor d 0 0 _ 0 [some (.ref 100), some (.int (nI P - 8)), some (.int (nI b))] [] _
  by_cases h8 : 8 ≤ P
  · have e : nI P - 8 = nI (P - 8) := pk_sub (a := P) (b := 8) h8
    rw [e]
    refine G_iload_n dX2_partFor_0 rfl ?_
    refine G_if_lt (tgt := 6) dX2_partFor_1 (by decide) (fun h => absurd h (nI_pos (by omega))) (fun _ => ?_)
    refine G_iload_n dX2_partFor_4 rfl ?_
    refine G_ret (v := some (.int _)) ⟨dX2_partFor_5, _, rfl, rfl⟩ ⟨rfl, ?_⟩
    unfold dp
    rw [if_pos h8]
  · have hneg : ∀ q, q < 8 → nI q - 8 < 0 := by decide
    have hidx : ∀ q, q < 8 → (-1) - (nI q - 8) = nI (7 - q) := by decide
    have heq : ∀ q, q < 8 → ∀ c, c < 8 → (nI q - 8 = (-1) - nI c ↔ 7 - q = c) := by decide
    refine G_iload_n dX2_partFor_0 rfl ?_
    refine G_if_lt (tgt := 6) dX2_partFor_1 (by decide) (fun _ => ?_) (fun h => absurd (hneg P (by omega)) h)
    refine G_iload_n dX2_partFor_6 rfl ?_
    refine G_iconst (v := (-1)) dX2_partFor_7 (by decide) ?_
    refine G_iload_n dX2_partFor_8 rfl ?_
    refine G_isub dX2_partFor_9 ?_
    refine G_icmp_ne (tgt := 19) dX2_partFor_10 (by decide) (fun h => ?_) (fun h => ?_)
    · have h7 : ¬ 7 - P = b := fun q => h ((heq P (by omega) b hb).mpr q)
      refine G_sipush (v := 1002) dX2_partFor_19 (by decide) ?_
      refine G_aload_n dX2_partFor_22 rfl ?_
      refine G_get (f := 2) kc2 dX2_partFor_23 fX2_83 (by decide) rfl rfl ?_
      refine G_iconst (v := (-1)) dX2_partFor_26 (by decide) ?_
      refine G_iload_n dX2_partFor_27 rfl ?_
      refine G_isub dX2_partFor_28 ?_
      refine G_ialdN (7 - P) dX2_partFor_29 rfl (hidx P (by omega)) (by omega) (by omega) ?_
      rw [hr (by omega)]
      refine G_iadd dX2_partFor_30 ?_
      refine G_ret (v := some (.int _)) ⟨dX2_partFor_31, _, rfl, rfl⟩ ⟨rfl, ?_⟩
      unfold dp
      rw [if_neg h8, if_neg h7, show (1002 : Int32) = nI 1002 from rfl, nI_add]
    · have h7 : 7 - P = b := (heq P (by omega) b hb).mp h
      refine G_sipush (v := 1001) dX2_partFor_13 (by decide) ?_
      refine G_goto (tgt := 31) dX2_partFor_16 (by decide) ?_
      refine G_ret (v := some (.int _)) ⟨dX2_partFor_31, _, rfl, rfl⟩ ⟨rfl, ?_⟩
      unfold dp
      rw [if_neg h8, if_pos h7]
      rfl
set_option maxRecDepth 20000 in
theorem con_putContent (d p : Nat) (hp : p < 1024) (s : SS) (hs : s.2.2 < 64) (len : Int32) (F f1 f3 : Nat → Int32) (bl : Nat → Nat) (q : Nat) (hq : 1002 ≤ p → q < 8 ∧ f3 (p - 1002) = nI q ∧ f1 q = nI (bl (p - 1002)) ∧ bl (p - 1002) < 8 ∧ p < 1011) (dv nv rv cv : Value) : Con mX2_putContent (d + 2) 0 0 [.inr (3, [.ref 101, dv, nv]), .inr (7, [.ref 102, .ref 103, .int (nI s.2.2), .int len]), cI 8 s.1, cI 64 s.2.1, .inr (2, [.ref 105, .ref 106, rv, .ref 107, cv]), cI 64 F, cI 8 f1, cI 9 f3] [.ref 100, .ref 104, .int (nI p)] (fun w' v => v = none ∧ w' = [.inr (3, [.ref 101, dv, nv]), .inr (7, [.ref 102, .ref 103, .int (nI (eat s (pcB F bl p)).2.2), .int (len + nI (pcB F bl p).length)]), cI 8 (eat s (pcB F bl p)).1, cI 64 (eat s (pcB F bl p)).2.1, .inr (2, [.ref 105, .ref 106, rv, .ref 107, cv]), cI 64 F, cI 8 f1, cI 9 f3]) := by
  refine Con.of (ab_okc rfl (by decide)) (Nat.le_of_ble_eq_true rfl) ?_
  show G ab_x0 mX2_putContent (d + 2) 0 0 _ 0 [some (.ref 100), some (.ref 104), some (.int (nI p)), none, none] [] _
  refine G_iload_n dX2_putContent_0 rfl ?_
  refine G_sipush (v := 1001) dX2_putContent_1 (by decide) ?_
  refine G_icmp_geN (tgt := 16) p 1001 dX2_putContent_4 (by decide) rfl rfl (by omega) (by omega) (fun hge => ?_) (fun hlt => ?_)
  · refine G_iload_n dX2_putContent_16 rfl ?_
    refine G_sipush (v := 1002) dX2_putContent_17 (by decide) ?_
    refine G_icmp_ltN (tgt := 75) p 1002 dX2_putContent_20 (by decide) rfl rfl (by omega) (by omega) (fun h1 => ?_) (fun h1 => ?_)
    · have e : pcB F bl p = [] := by
        unfold pcB
        rw [if_neg (by omega), if_pos (by omega)]
      refine G_ret (v := none) ⟨dX2_putContent_75, rfl⟩ ⟨rfl, ?_⟩
      rw [e]
      show _ = [.inr (3, [.ref 101, dv, nv]), .inr (7, [.ref 102, .ref 103, .int (nI s.2.2), .int (len + 0)]), cI 8 s.1, cI 64 s.2.1, .inr (2, [.ref 105, .ref 106, rv, .ref 107, cv]), cI 64 F, cI 8 f1, cI 9 f3]
      rw [Int32.add_zero]
    · obtain ⟨q1, q2, q3, q4, q5⟩ := hq h1
      have e : pcB F bl p = hbs F (bl (p - 1002)) 8 0 := by
        unfold pcB
        rw [if_neg (by omega), if_neg (by omega)]
      generalize bl (p - 1002) = b at q3 q4 e
      refine G_aload_n dX2_putContent_23 rfl ?_
      refine G_get (f := 1) kc2 dX2_putContent_24 fX2_114 (by decide) rfl rfl ?_
      refine G_aload_n dX2_putContent_27 rfl ?_
      refine G_get (f := 3) kc2 dX2_putContent_28 fX2_117 (by decide) rfl rfl ?_
      refine G_iload_n dX2_putContent_31 rfl ?_
      refine G_sipush (v := 1002) dX2_putContent_32 (by decide) ?_
      refine G_isub dX2_putContent_35 ?_
      refine G_ialdN (p - 1002) dX2_putContent_36 rfl (pk_sub (a := p) (b := 1002) h1) (by omega) (by omega) ?_
      rw [q2]
      refine G_ialdN q dX2_putContent_37 rfl rfl (by omega) (by omega) ?_
      rw [q3]
      refine G_istore_n (L' := [_, _, _, _, _]) dX2_putContent_38 (Nat.le_of_ble_eq_true rfl) rfl ?_
      refine G_iconst (v := 0) dX2_putContent_39 (by decide) ?_
      refine G_istore (L' := [_, _, _, _, _]) dX2_putContent_40 (Nat.le_of_ble_eq_true rfl) rfl ?_
      have loop : ∀ (k i : Nat) (s1 : SS) (l1 : Int32), i + k = 8 → s1.2.2 < 64 → eat s1 (hbs F b k i) = eat s (pcB F bl p) → l1 + nI (4 * k) = len + nI (pcB F bl p).length → G ab_x0 mX2_putContent (d + 2) 0 0 (fun w' v => v = none ∧ w' = [.inr (3, [.ref 101, dv, nv]), .inr (7, [.ref 102, .ref 103, .int (nI (eat s (pcB F bl p)).2.2), .int (len + nI (pcB F bl p).length)]), cI 8 (eat s (pcB F bl p)).1, cI 64 (eat s (pcB F bl p)).2.1, .inr (2, [.ref 105, .ref 106, rv, .ref 107, cv]), cI 64 F, cI 8 f1, cI 9 f3]) 42 [some (.ref 100), some (.ref 104), some (.int (nI p)), some (.int (nI b)), some (.int (nI i))] [] [.inr (3, [.ref 101, dv, nv]), .inr (7, [.ref 102, .ref 103, .int (nI s1.2.2), .int l1]), cI 8 s1.1, cI 64 s1.2.1, .inr (2, [.ref 105, .ref 106, rv, .ref 107, cv]), cI 64 F, cI 8 f1, cI 9 f3] := by
        intro k
        induction k with
        | zero =>
          intro i s1 l1 hi hs1 he hl
          refine G_iload dX2_putContent_42 rfl ?_
          refine G_bipush (v := 8) dX2_putContent_44 (by decide) ?_
          refine G_icmp_geN (tgt := 75) i 8 dX2_putContent_46 (by decide) rfl rfl (by omega) (by omega) (fun _ => ?_) (fun h => by omega)
          refine G_ret (v := none) ⟨dX2_putContent_75, rfl⟩ ⟨rfl, ?_⟩
          rw [← he, ← hl]
          show _ = [.inr (3, [.ref 101, dv, nv]), .inr (7, [.ref 102, .ref 103, .int (nI s1.2.2), .int (l1 + 0)]), cI 8 s1.1, cI 64 s1.2.1, .inr (2, [.ref 105, .ref 106, rv, .ref 107, cv]), cI 64 F, cI 8 f1, cI 9 f3]
          rw [Int32.add_zero]
        | succ k ih =>
          intro i s1 l1 hi hs1 he hl
          refine G_iload dX2_putContent_42 rfl ?_
          refine G_bipush (v := 8) dX2_putContent_44 (by decide) ?_
          refine G_icmp_geN (tgt := 75) i 8 dX2_putContent_46 (by decide) rfl rfl (by omega) (by omega) (fun h => by omega) (fun _ => ?_)
          refine G_aload_n dX2_putContent_49 rfl ?_
          refine G_get (f := 0) kc3 dX2_putContent_50 fX2_12 (by decide) rfl rfl ?_
          refine G_aload_n dX2_putContent_53 rfl ?_
          refine G_get (f := 0) kc2 dX2_putContent_54 fX2_45 (by decide) rfl rfl ?_
          refine G_iload_n dX2_putContent_57 rfl ?_
          refine G_bipush (v := 8) dX2_putContent_58 (by decide) ?_
          refine G_imul dX2_putContent_60 ?_
          refine G_iload dX2_putContent_61 rfl ?_
          refine G_iadd dX2_putContent_63 ?_
          refine G_ialdN (b * 8 + i) dX2_putContent_64 rfl (by rw [show (8 : Int32) = nI 8 from rfl, pk_mul, nI_add]) (by omega) (by omega) ?_
          refine G_iconst (v := 4) dX2_putContent_65 (by decide) ?_
          refine G_V (is := [1, 2, 3]) (fo := []) (as := [.ref 100, .int (F (b * 8 + i)), .int (nI 4)]) (as' := [.int (F (b * 8 + i)), .int (nI 4)]) (st := []) (k := 0) (n := 0) cX2_putContent_66 (con_eat d 4 (by decide) (F (b * 8 + i)) l1 s1 (by exact hs1)) ab_pfx rfl (by decide) rfl rfl rfl rfl rfl rfl (Nat.le_of_ble_eq_true rfl) dX2_putContent_66 (fun w' v h => by rw [h.2]; rfl) (fun w2 v2 hq => ?_)
          obtain ⟨rfl, hw2⟩ := hq
          obtain ⟨s2, hs2⟩ : ∃ z, z = eat s1 (bys 4 (F (b * 8 + i))) := ⟨_, rfl⟩
          rw [← hs2] at hw2
          subst hw2
          refine G_iinc (L' := [_, _, _, _, _]) (v := nI (i + 1)) dX2_putContent_69 rfl (nI_succ i).symm rfl ?_
          refine G_goto (tgt := 42) dX2_putContent_72 (by decide) ?_
          refine ih (i + 1) s2 (l1 + nI 4) (by omega) (by rw [hs2]; exact eat_lt _ _ hs1) ?_ ?_
          · rw [← he, hs2, ← eat_app]; rfl
          · rw [← hl, Int32.add_assoc, nI_add, show 4 + 4 * k = 4 * (k + 1) by omega]
      exact loop 8 0 s len rfl hs (by rw [e]) (by rw [e, hbs_len])
  · have e : pcB F bl p = bys 4 (nI p) := by
      unfold pcB
      rw [if_pos hlt]
    refine G_aload_n dX2_putContent_7 rfl ?_
    refine G_get (f := 0) kc3 dX2_putContent_8 fX2_12 (by decide) rfl rfl ?_
    refine G_iload_n dX2_putContent_11 rfl ?_
    refine G_iconst (v := 4) dX2_putContent_12 (by decide) ?_
    refine G_V (is := [1, 2, 3]) (fo := []) (as := [.ref 100, .int (nI p), .int (nI 4)]) (as' := [.int (nI p), .int (nI 4)]) (st := []) (k := 0) (n := 0) cX2_putContent_13 (con_eat d 4 (by decide) (nI p) len s (by exact hs)) ab_pfx rfl (by decide) rfl rfl rfl rfl rfl rfl (Nat.le_of_ble_eq_true rfl) dX2_putContent_13 (fun w' v h => by rw [h.2]; rfl) (fun w2 v2 hq => ?_)
    obtain ⟨rfl, hw2⟩ := hq
    obtain ⟨s2, hs2⟩ : ∃ z, z = eat s (bys 4 (nI p)) := ⟨_, rfl⟩
    rw [← hs2] at hw2
    subst hw2
    refine G_iload_n dX2_putContent_16 rfl ?_
    refine G_sipush (v := 1002) dX2_putContent_17 (by decide) ?_
    refine G_icmp_ltN (tgt := 75) p 1002 dX2_putContent_20 (by decide) rfl rfl (by omega) (by omega) (fun _ => ?_) (fun h => by omega)
    refine G_ret (v := none) ⟨dX2_putContent_75, rfl⟩ ⟨rfl, ?_⟩
    rw [e, ← hs2, bys_len]
    rfl
