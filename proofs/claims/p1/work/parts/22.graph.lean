/-! Graph's methods but its constructor. A Graph: keys, blanks, triples, hashed, rounds, groups. -/
theorem ab_okc {own : String} {y : MethodName} {c : ByteArray} {n : Nat} {r : Option FieldType} (h : y.cls = own) (hp : plainName own = true) : ab_ok (own, y, c, n, r) := ⟨by rw [show (own, y, c, n, r).2.1.cls = own from h]; exact hp, h.symm⟩
def ptB (nb : Nat) (p : Int32) : Bool := decide ((p.toInt < 0 ∧ -(nb : Int) ≤ p.toInt) ∨ (1 ≤ p.toInt ∧ p.toInt ≤ 1000))
def bi (b : Bool) : Int32 := if b then 1 else 0
abbrev cG (ks : Nat) (nb nt : Nat) (hs ro : Int32) (gr : Value) : ab_C := .inr (1, [.ref ks, .int (nI nb), .int (nI nt), .int hs, .int ro, gr])
abbrev cI (N : Nat) (f : Nat → Int32) : ab_C := .inl (0, N, .inl f)
set_option maxRecDepth 20000 in
theorem con_isPoint (d nb : Nat) (hn : nb ≤ 8) (x : Int32) (kv tv hv rv gv : Value) : Con mX0_isPoint d 0 0 [.inr (1, [kv, .int (nI nb), tv, hv, rv, gv])] [.ref 100, .int x] (fun w' v => w' = [.inr (1, [kv, .int (nI nb), tv, hv, rv, gv])] ∧ v = some (.int (bi (ptB nb x)))) := by
  refine Con.of (ab_okc rfl (by decide)) (Nat.le_of_ble_eq_true rfl) ?_
  show G ab_x0 mX0_isPoint d 0 0 _ 0 [some (.ref 100), some (.int x)] [] _
  have hz : (0 : Int32).toInt = 0 := rfl
  have h1 : (1 : Int32).toInt = 1 := rfl
  have h2 : (1000 : Int32).toInt = 1000 := by decide
  have h3 : (-nI nb).toInt = -(nb : Int) := sb_negT (by omega)
  refine G_iload_n dX0_isPoint_0 rfl ?_
  refine G_if_ge (tgt := 21) dX0_isPoint_1 (by decide) (fun a => ?_) (fun a => ?_)
  · rw [Int32.le_iff_toInt_le, hz] at a
    refine G_iload_n dX0_isPoint_21 rfl ?_
    refine G_iconst (v := 1) dX0_isPoint_22 (by decide) ?_
    refine G_icmp_lt (tgt := 37) dX0_isPoint_23 (by decide) (fun b => ?_) (fun b => ?_)
    · rw [Int32.lt_iff_toInt_lt, h1] at b
      refine G_iconst (v := 0) dX0_isPoint_37 (by decide) ?_
      refine G_ret (v := some (.int _)) ⟨dX0_isPoint_38, _, rfl, rfl⟩ ⟨rfl, ?_⟩
      have e : ptB nb x = false := decide_eq_false (by omega)
      rw [e]
      rfl
    · rw [Int32.lt_iff_toInt_lt, h1] at b
      refine G_iload_n dX0_isPoint_26 rfl ?_
      refine G_sipush (v := 1000) dX0_isPoint_27 (by decide) ?_
      refine G_icmp_gt (tgt := 37) dX0_isPoint_30 (by decide) (fun c => ?_) (fun c => ?_)
      · rw [Int32.lt_iff_toInt_lt, h2] at c
        refine G_iconst (v := 0) dX0_isPoint_37 (by decide) ?_
        refine G_ret (v := some (.int _)) ⟨dX0_isPoint_38, _, rfl, rfl⟩ ⟨rfl, ?_⟩
        have e : ptB nb x = false := decide_eq_false (by omega)
        rw [e]
        rfl
      · rw [Int32.lt_iff_toInt_lt, h2] at c
        refine G_iconst (v := 1) dX0_isPoint_33 (by decide) ?_
        refine G_goto (tgt := 38) dX0_isPoint_34 (by decide) ?_
        refine G_ret (v := some (.int _)) ⟨dX0_isPoint_38, _, rfl, rfl⟩ ⟨rfl, ?_⟩
        have e : ptB nb x = true := decide_eq_true (by omega)
        rw [e]
        rfl
  · rw [Int32.le_iff_toInt_le, hz] at a
    refine G_iload_n dX0_isPoint_4 rfl ?_
    refine G_aload_n dX0_isPoint_5 rfl ?_
    refine G_get (f := 1) kc1 dX0_isPoint_6 fX0_15 (by decide) rfl rfl ?_
    refine G_ineg dX0_isPoint_9 ?_
    refine G_icmp_lt (tgt := 17) dX0_isPoint_10 (by decide) (fun b => ?_) (fun b => ?_)
    · rw [Int32.lt_iff_toInt_lt, h3] at b
      refine G_iconst (v := 0) dX0_isPoint_17 (by decide) ?_
      refine G_goto (tgt := 38) dX0_isPoint_18 (by decide) ?_
      refine G_ret (v := some (.int _)) ⟨dX0_isPoint_38, _, rfl, rfl⟩ ⟨rfl, ?_⟩
      have e : ptB nb x = false := decide_eq_false (by omega)
      rw [e]
      rfl
    · rw [Int32.lt_iff_toInt_lt, h3] at b
      refine G_iconst (v := 1) dX0_isPoint_13 (by decide) ?_
      refine G_goto (tgt := 38) dX0_isPoint_14 (by decide) ?_
      refine G_ret (v := some (.int _)) ⟨dX0_isPoint_38, _, rfl, rfl⟩ ⟨rfl, ?_⟩
      have e : ptB nb x = true := decide_eq_true (by omega)
      rw [e]
      rfl
set_option maxRecDepth 20000 in
theorem con_hasPoints (d nb nt : Nat) (hn : nb ≤ 8) (s p o hs ro : Int32) (t1 t2 : Nat) : Con mX0_hasPoints (d + 1) 0 0 [.inr (1, [.ref t1, .int (nI nb), .int (nI nt), .int hs, .int ro, .ref t2])] [.ref 100, .int s, .int p, .int o] (fun w' v => w' = [.inr (1, [.ref t1, .int (nI nb), .int (nI nt), .int hs, .int ro, .ref t2])] ∧ v = some (.int (bi (ptB nb s && ptB nb p && ptB nb o)))) := by
  refine Con.of (ab_okc rfl (by decide)) (Nat.le_of_ble_eq_true rfl) ?_
  show G ab_x0 mX0_hasPoints (d + 1) 0 0 _ 0 [some (.ref 100), some (.int s), some (.int p), some (.int o)] [] _
  refine G_aload_n dX0_hasPoints_0 rfl ?_
  refine G_iload_n dX0_hasPoints_1 rfl ?_
  refine G_V (is := [0]) (fo := [t1, t2]) (as := [.ref 100, .int s]) (as' := [.int s]) (st := []) (k := 0) (n := 0) cX0_hasPoints_2 (con_isPoint d nb hn s (.ref 4) (.int (nI nt)) (.int hs) (.int ro) (.ref 5)) ab_pfx rfl (by decide) rfl rfl rfl rfl rfl rfl (Nat.le_of_ble_eq_true rfl) dX0_hasPoints_2 (fun w' v h => by rw [h.1]) (fun w2 v2 hq => ?_)
  obtain ⟨rfl, rfl⟩ := hq
  refine G_if_eq (tgt := 28) dX0_hasPoints_5 (by decide) (fun e => ?_) (fun e => ?_)
  · have e : ptB nb s = false := by
      cases h : ptB nb s
      · rfl
      · rw [h] at e; exact absurd e (by decide)
    refine G_iconst (v := 0) dX0_hasPoints_28 (by decide) ?_
    refine G_ret (v := some (.int _)) ⟨dX0_hasPoints_29, _, rfl, rfl⟩ ⟨rfl, ?_⟩
    simp [e, bi]
  have e1 : ptB nb s = true := by
    cases h : ptB nb s
    · rw [h] at e; exact absurd (by decide) e
    · rfl
  refine G_aload_n dX0_hasPoints_8 rfl ?_
  refine G_iload_n dX0_hasPoints_9 rfl ?_
  refine G_V (is := [0]) (fo := [t1, t2]) (as := [.ref 100, .int p]) (as' := [.int p]) (st := []) (k := 0) (n := 0) cX0_hasPoints_10 (con_isPoint d nb hn p (.ref 4) (.int (nI nt)) (.int hs) (.int ro) (.ref 5)) ab_pfx rfl (by decide) rfl rfl rfl rfl rfl rfl (Nat.le_of_ble_eq_true rfl) dX0_hasPoints_10 (fun w' v h => by rw [h.1]) (fun w2 v2 hq => ?_)
  obtain ⟨rfl, rfl⟩ := hq
  refine G_if_eq (tgt := 28) dX0_hasPoints_13 (by decide) (fun e => ?_) (fun e => ?_)
  · have e : ptB nb p = false := by
      cases h : ptB nb p
      · rfl
      · rw [h] at e; exact absurd e (by decide)
    refine G_iconst (v := 0) dX0_hasPoints_28 (by decide) ?_
    refine G_ret (v := some (.int _)) ⟨dX0_hasPoints_29, _, rfl, rfl⟩ ⟨rfl, ?_⟩
    simp [e, bi]
  have e2 : ptB nb p = true := by
    cases h : ptB nb p
    · rw [h] at e; exact absurd (by decide) e
    · rfl
  refine G_aload_n dX0_hasPoints_16 rfl ?_
  refine G_iload_n dX0_hasPoints_17 rfl ?_
  refine G_V (is := [0]) (fo := [t1, t2]) (as := [.ref 100, .int o]) (as' := [.int o]) (st := []) (k := 0) (n := 0) cX0_hasPoints_18 (con_isPoint d nb hn o (.ref 4) (.int (nI nt)) (.int hs) (.int ro) (.ref 5)) ab_pfx rfl (by decide) rfl rfl rfl rfl rfl rfl (Nat.le_of_ble_eq_true rfl) dX0_hasPoints_18 (fun w' v h => by rw [h.1]) (fun w2 v2 hq => ?_)
  obtain ⟨rfl, rfl⟩ := hq
  refine G_if_eq (tgt := 28) dX0_hasPoints_21 (by decide) (fun e => ?_) (fun e => ?_)
  · have e : ptB nb o = false := by
      cases h : ptB nb o
      · rfl
      · rw [h] at e; exact absurd e (by decide)
    refine G_iconst (v := 0) dX0_hasPoints_28 (by decide) ?_
    refine G_ret (v := some (.int _)) ⟨dX0_hasPoints_29, _, rfl, rfl⟩ ⟨rfl, ?_⟩
    simp [e, bi]
  have e3 : ptB nb o = true := by
    cases h : ptB nb o
    · rw [h] at e; exact absurd (by decide) e
    · rfl
  refine G_iconst (v := 1) dX0_hasPoints_24 (by decide) ?_
  refine G_goto (tgt := 29) dX0_hasPoints_25 (by decide) ?_
  refine G_ret (v := some (.int _)) ⟨dX0_hasPoints_29, _, rfl, rfl⟩ ⟨rfl, ?_⟩
  simp [e1, e2, e3, bi]
set_option maxRecDepth 20000 in
theorem con_holds (d nb nt : Nat) (hn : nt ≤ 40) (x hs ro : Int32) (gv : Value) (f : Nat → Int32) (hf : ∀ i j, i < j → j < nt → f i < f j) : Con mX0_holds (d + 1) 0 0 [cG 101 nb nt hs ro gv, cI 40 f] [.ref 100, .int x] (fun w' v => w' = [cG 101 nb nt hs ro gv, cI 40 f] ∧ ((∃ i, i < nt ∧ f i = x) ∧ v = some (.int 1) ∨ (¬ ∃ i, i < nt ∧ f i = x) ∧ v = some (.int 0))) := by
  refine Con.of (ab_okc rfl (by decide)) (Nat.le_of_ble_eq_true rfl) ?_
  show G ab_x0 mX0_holds (d + 1) 0 0 _ 0 [some (.ref 100), some (.int x)] [] _
  refine G_iload_n dX0_holds_0 rfl ?_
  refine G_aload_n dX0_holds_1 rfl ?_
  refine G_get (f := 0) kc1 dX0_holds_2 fX0_9 (by decide) rfl rfl ?_
  refine G_aload_n dX0_holds_5 rfl ?_
  refine G_get (f := 2) kc1 dX0_holds_6 fX0_19 (by decide) rfl rfl ?_
  refine G_SN (is := [1]) (fo := []) (as := [.int x, .ref 100, .int (nI nt)]) (as' := [.int x, .ref 101, .int (nI nt)]) (st := []) (k := 0) (n := 0) cX0_holds_9 (con_isIn d x f 40 nt hn (by decide) hf) ab_pfx rfl (by decide) rfl rfl rfl rfl (Nat.le_of_ble_eq_true rfl) dX0_holds_9 (fun w' v h => by rw [h.1]) (fun w2 v2 hq => ?_)
  obtain ⟨rfl, hq⟩ := hq
  rcases hq with ⟨h1, rfl⟩ | ⟨h1, rfl⟩
  · exact G_ret (v := some (.int _)) ⟨dX0_holds_12, _, rfl, rfl⟩ ⟨rfl, Or.inl ⟨h1, rfl⟩⟩
  · exact G_ret (v := some (.int _)) ⟨dX0_holds_12, _, rfl, rfl⟩ ⟨rfl, Or.inr ⟨h1, rfl⟩⟩
set_option maxRecDepth 20000 in
theorem con_hasSizesOf (d nb nt nb' nt' : Nat) (h1 : nb ≤ 8) (h2 : nt ≤ 40) (h3 : nb' ≤ 8) (h4 : nt' ≤ 40) (kv hv rv gv kv' hv' rv' gv' : Value) : Con mX0_hasSizesOf d 0 0 [.inr (1, [kv, .int (nI nb), .int (nI nt), hv, rv, gv]), .inr (1, [kv', .int (nI nb'), .int (nI nt'), hv', rv', gv'])] [.ref 100, .ref 101] (fun w' v => w' = [.inr (1, [kv, .int (nI nb), .int (nI nt), hv, rv, gv]), .inr (1, [kv', .int (nI nb'), .int (nI nt'), hv', rv', gv'])] ∧ v = some (.int (bi (decide (nb = nb' ∧ nt = nt'))))) := by
  refine Con.of (ab_okc rfl (by decide)) (Nat.le_of_ble_eq_true rfl) ?_
  show G ab_x0 mX0_hasSizesOf d 0 0 _ 0 [some (.ref 100), some (.ref 101)] [] _
  refine G_aload_n dX0_hasSizesOf_0 rfl ?_
  refine G_get (f := 1) kc1 dX0_hasSizesOf_1 fX0_15 (by decide) rfl rfl ?_
  refine G_aload_n dX0_hasSizesOf_4 rfl ?_
  refine G_get (f := 1) kc1 dX0_hasSizesOf_5 fX0_15 (by decide) rfl rfl ?_
  refine G_icmp_neN (tgt := 26) nb nb' dX0_hasSizesOf_8 (by decide) rfl rfl (by omega) (by omega) (fun a => ?_) (fun a => ?_)
  · refine G_iconst (v := 0) dX0_hasSizesOf_26 (by decide) ?_
    refine G_ret (v := some (.int _)) ⟨dX0_hasSizesOf_27, _, rfl, rfl⟩ ⟨rfl, ?_⟩
    rw [decide_eq_false (by omega)]
    rfl
  refine G_aload_n dX0_hasSizesOf_11 rfl ?_
  refine G_get (f := 2) kc1 dX0_hasSizesOf_12 fX0_19 (by decide) rfl rfl ?_
  refine G_aload_n dX0_hasSizesOf_15 rfl ?_
  refine G_get (f := 2) kc1 dX0_hasSizesOf_16 fX0_19 (by decide) rfl rfl ?_
  refine G_icmp_neN (tgt := 26) nt nt' dX0_hasSizesOf_19 (by decide) rfl rfl (by omega) (by omega) (fun b => ?_) (fun b => ?_)
  · refine G_iconst (v := 0) dX0_hasSizesOf_26 (by decide) ?_
    refine G_ret (v := some (.int _)) ⟨dX0_hasSizesOf_27, _, rfl, rfl⟩ ⟨rfl, ?_⟩
    rw [decide_eq_false (by omega)]
    rfl
  refine G_iconst (v := 1) dX0_hasSizesOf_22 (by decide) ?_
  refine G_goto (tgt := 27) dX0_hasSizesOf_23 (by decide) ?_
  refine G_ret (v := some (.int _)) ⟨dX0_hasSizesOf_27, _, rfl, rfl⟩ ⟨rfl, ?_⟩
  rw [decide_eq_true (by omega)]
  rfl
/-- a row with a number more at place q, of c -/
def insF (f : Nat → Int32) (q c : Nat) (x : Int32) : Nat → Int32 := fun j => if j < q then f j else if j = q then x else if j ≤ c then f (j - 1) else f j
theorem insF_ok {f : Nat → Int32} {q c : Nat} {x : Int32} (hq : q ≤ c) (hs : ∀ i j, i < j → j < c → f i < f j) (h1 : ∀ j, j < q → f j < x) (h2 : ∀ j, q ≤ j → j < c → x < f j) : (∀ i j, i < j → j < c + 1 → insF f q c x i < insF f q c x j) ∧ ∀ y, (∃ i, i < c + 1 ∧ insF f q c x i = y) ↔ y = x ∨ ∃ i, i < c ∧ f i = y := by
  refine ⟨fun i j hij hj => ?_, fun y => ⟨?_, ?_⟩⟩
  · unfold insF
    repeat' split
    all_goals first | omega | exact hs _ _ (by omega) (by omega) | exact h1 _ (by omega) | exact h2 _ (by omega) (by omega)
  · rintro ⟨i, hi, e⟩
    unfold insF at e
    split at e
    · exact Or.inr ⟨i, by omega, e⟩
    · split at e
      · exact Or.inl e.symm
      · rw [if_pos (by omega)] at e
        exact Or.inr ⟨i - 1, by omega, e⟩
  · rintro (e | ⟨i, hi, e⟩)
    · refine ⟨q, by omega, ?_⟩
      unfold insF
      rw [if_neg (by omega), if_pos rfl, e]
    · by_cases a : i < q
      · refine ⟨i, by omega, ?_⟩
        unfold insF
        rw [if_pos a, e]
      · refine ⟨i + 1, by omega, ?_⟩
        unfold insF
        rw [if_neg (by omega), if_neg (by omega), if_pos (by omega), show i + 1 - 1 = i by omega, e]
set_option maxRecDepth 20000 in
theorem con_insert (d nb nt : Nat) (hn : nt < 40) (x hs ro : Int32) (gv : Value) (f : Nat → Int32) (hf : ∀ i j, i < j → j < nt → f i < f j) (hx : ¬ ∃ i, i < nt ∧ f i = x) : Con mX0_insert (d + 1) 0 0 [cG 101 nb nt hs ro gv, cI 40 f] [.ref 100, .int x] (fun w' v => v = none ∧ ∃ g, w' = [cG 101 nb (nt + 1) 0 ro gv, cI 40 g] ∧ (∀ i j, i < j → j < nt + 1 → g i < g j) ∧ ∀ y, (∃ i, i < nt + 1 ∧ g i = y) ↔ y = x ∨ ∃ i, i < nt ∧ f i = y) := by
  refine Con.of (ab_okc rfl (by decide)) (Nat.le_of_ble_eq_true rfl) ?_
  show G ab_x0 mX0_insert (d + 1) 0 0 _ 0 [some (.ref 100), some (.int x), none, none] [] _
  refine G_iload_n dX0_insert_0 rfl ?_
  refine G_aload_n dX0_insert_1 rfl ?_
  refine G_get (f := 0) kc1 dX0_insert_2 fX0_9 (by decide) rfl rfl ?_
  refine G_aload_n dX0_insert_5 rfl ?_
  refine G_get (f := 2) kc1 dX0_insert_6 fX0_19 (by decide) rfl rfl ?_
  refine G_SN (is := [1]) (fo := []) (as := [.int x, .ref 100, .int (nI nt)]) (as' := [.int x, .ref 101, .int (nI nt)]) (st := []) (k := 0) (n := 0) cX0_insert_9 (con_placeFor d x f 40 nt (by omega) (by decide)) ab_pfx rfl (by decide) rfl rfl rfl rfl (Nat.le_of_ble_eq_true rfl) dX0_insert_9 (fun w' v h => by rw [h.1]) (fun w2 v2 hq => ?_)
  obtain ⟨rfl, q, hq, rfl, h1, h2⟩ := hq
  have h3 : ∀ j, q ≤ j → j < nt → x < f j := fun j h4 h5 => by
    have h6 : x ≤ f j := by
      rcases Nat.lt_or_ge q j with h7 | h7
      · exact Int32.le_trans (h2 (by omega)) (Int32.le_of_lt (hf q j h7 h5))
      · rw [show j = q by omega]; exact h2 (by omega)
    rcases Int32.lt_or_eq_of_le h6 with h7 | h7
    · exact h7
    · exact absurd ⟨j, h5, h7.symm⟩ hx
  refine G_istore_n (L' := [_, _, _, _]) dX0_insert_12 (Nat.le_of_ble_eq_true rfl) rfl ?_
  refine G_aload_n dX0_insert_13 rfl ?_
  refine G_get (f := 2) kc1 dX0_insert_14 fX0_19 (by decide) rfl rfl ?_
  refine G_istore_n (L' := [_, _, _, _]) dX0_insert_17 (Nat.le_of_ble_eq_true rfl) rfl ?_
  have loop : ∀ (i : Nat) (cur : Nat → Int32), q ≤ i → i ≤ nt → (∀ j, cur j = if i < j ∧ j ≤ nt then f (j - 1) else f j) → G ab_x0 mX0_insert (d + 1) 0 0 (fun w' v => v = none ∧ ∃ g, w' = [cG 101 nb (nt + 1) 0 ro gv, cI 40 g] ∧ (∀ i j, i < j → j < nt + 1 → g i < g j) ∧ ∀ y, (∃ i, i < nt + 1 ∧ g i = y) ↔ y = x ∨ ∃ i, i < nt ∧ f i = y) 18 [some (.ref 100), some (.int x), some (.int (nI q)), some (.int (nI i))] [] [cG 101 nb nt hs ro gv, cI 40 cur] := by
    intro i
    induction i with
    | zero =>
      intro cur hqi hi hc
      refine G_iload_n dX0_insert_18 rfl ?_
      refine G_iload_n dX0_insert_19 rfl ?_
      refine G_icmp_leN (tgt := 43) 0 q dX0_insert_20 (by decide) rfl rfl (by omega) (by omega) (fun _ => ?_) (fun h => by omega)
      refine G_aload_n dX0_insert_43 rfl ?_
      refine G_get (f := 0) kc1 dX0_insert_44 fX0_9 (by decide) rfl rfl ?_
      refine G_iload_n dX0_insert_47 rfl ?_
      refine G_iload_n dX0_insert_48 rfl ?_
      refine G_iastN (w' := [_, _]) q dX0_insert_49 rfl rfl (by omega) (by omega) rfl ?_
      refine G_aload_n dX0_insert_50 rfl ?_
      refine G_dup dX0_insert_51 rfl ?_
      refine G_get (f := 2) kc1 dX0_insert_52 fX0_19 (by decide) rfl rfl ?_
      refine G_iconst (v := 1) dX0_insert_55 (by decide) ?_
      refine G_iadd dX0_insert_56 ?_
      refine G_topi (nI_1 nt) ?_
      refine G_put (w' := [_, _]) (f := 2) kc1 dX0_insert_57 fX0_19 (by decide) rfl rfl rfl rfl (Nat.le_of_ble_eq_true rfl) rfl ?_
      refine G_aload_n dX0_insert_60 rfl ?_
      refine G_iconst (v := 0) dX0_insert_61 (by decide) ?_
      refine G_put (w' := [_, _]) (f := 3) kc1 dX0_insert_62 fX0_22 (by decide) rfl (by decide) (by decide) rfl (Nat.le_of_ble_eq_true rfl) rfl ?_
      have e : upd cur q x = insF f q nt x := by
        funext j
        unfold insF
        by_cases a : j = q
        · rw [a, pk_us, if_neg (by omega), if_pos rfl]
        · rw [pk_un a, hc]
          repeat' split
          all_goals first | rfl | omega
      rw [e]
      exact G_ret (v := none) ⟨dX0_insert_65, rfl⟩ ⟨rfl, _, rfl, insF_ok hq hf h1 h3⟩
    | succ i ih =>
      intro cur hqi hi hc
      refine G_iload_n dX0_insert_18 rfl ?_
      refine G_iload_n dX0_insert_19 rfl ?_
      refine G_icmp_leN (tgt := 43) (i + 1) q dX0_insert_20 (by decide) rfl rfl (by omega) (by omega) (fun hle => ?_) (fun hlt => ?_)
      · refine G_aload_n dX0_insert_43 rfl ?_
        refine G_get (f := 0) kc1 dX0_insert_44 fX0_9 (by decide) rfl rfl ?_
        refine G_iload_n dX0_insert_47 rfl ?_
        refine G_iload_n dX0_insert_48 rfl ?_
        refine G_iastN (w' := [_, _]) q dX0_insert_49 rfl rfl (by omega) (by omega) rfl ?_
        refine G_aload_n dX0_insert_50 rfl ?_
        refine G_dup dX0_insert_51 rfl ?_
        refine G_get (f := 2) kc1 dX0_insert_52 fX0_19 (by decide) rfl rfl ?_
        refine G_iconst (v := 1) dX0_insert_55 (by decide) ?_
        refine G_iadd dX0_insert_56 ?_
        refine G_topi (nI_1 nt) ?_
        refine G_put (w' := [_, _]) (f := 2) kc1 dX0_insert_57 fX0_19 (by decide) rfl rfl rfl rfl (Nat.le_of_ble_eq_true rfl) rfl ?_
        refine G_aload_n dX0_insert_60 rfl ?_
        refine G_iconst (v := 0) dX0_insert_61 (by decide) ?_
        refine G_put (w' := [_, _]) (f := 3) kc1 dX0_insert_62 fX0_22 (by decide) rfl (by decide) (by decide) rfl (Nat.le_of_ble_eq_true rfl) rfl ?_
        have e : upd cur q x = insF f q nt x := by
          funext j
          unfold insF
          by_cases a : j = q
          · rw [a, pk_us, if_neg (by omega), if_pos rfl]
          · rw [pk_un a, hc]
            repeat' split
            all_goals first | rfl | omega
        rw [e]
        exact G_ret (v := none) ⟨dX0_insert_65, rfl⟩ ⟨rfl, _, rfl, insF_ok hq hf h1 h3⟩
      refine G_aload_n dX0_insert_23 rfl ?_
      refine G_get (f := 0) kc1 dX0_insert_24 fX0_9 (by decide) rfl rfl ?_
      refine G_iload_n dX0_insert_27 rfl ?_
      refine G_aload_n dX0_insert_28 rfl ?_
      refine G_get (f := 0) kc1 dX0_insert_29 fX0_9 (by decide) rfl rfl ?_
      refine G_iload_n dX0_insert_32 rfl ?_
      refine G_iconst (v := 1) dX0_insert_33 (by decide) ?_
      refine G_isub dX0_insert_34 ?_
      refine G_ialdN i dX0_insert_35 rfl (nI_pred i) (by omega) (by omega) ?_
      refine G_iastN (w' := [_, _]) (i + 1) dX0_insert_36 rfl rfl (by omega) (by omega) rfl ?_
      refine G_iinc (L' := [_, _, _, _]) (v := nI i) dX0_insert_37 rfl (pk_m1 i) rfl ?_
      refine G_goto (tgt := 18) dX0_insert_40 (by decide) ?_
      refine ih _ (by omega) (by omega) (fun j => ?_)
      by_cases a : j = i + 1
      · rw [a, pk_us, hc, if_neg (by omega), if_pos (by omega)]; rfl
      · rw [pk_un a, hc]
        repeat' split
        all_goals first | rfl | omega
  exact loop nt f hq (Nat.le_refl _) (fun j => by rw [if_neg (by omega)])
theorem remF_ok {f g : Nat → Int32} {q c : Nat} {x : Int32} (hq : q < c) (hx : f q = x) (hs : ∀ i j, i < j → j < c → f i < f j) (hg : ∀ j, j < c - 1 → g j = if q ≤ j then f (j + 1) else f j) : (∀ i j, i < j → j < c - 1 → g i < g j) ∧ ∀ y, (∃ i, i < c - 1 ∧ g i = y) ↔ y ≠ x ∧ ∃ i, i < c ∧ f i = y := by
  have inj : ∀ i j, i < c → j < c → f i = f j → i = j := fun i j hi hj e => by
    rcases Nat.lt_trichotomy i j with h | h | h
    · have := hs i j h hj; rw [e] at this; exact absurd this (fun h => Int32.lt_irrefl h)
    · exact h
    · have := hs j i h hi; rw [e] at this; exact absurd this (fun h => Int32.lt_irrefl h)
  refine ⟨fun i j hij hj => ?_, fun y => ⟨?_, ?_⟩⟩
  · rw [hg i (by omega), hg j hj]
    repeat' split
    all_goals first | exact hs _ _ (by omega) (by omega) | omega
  · rintro ⟨i, hi, e⟩
    rw [hg i hi] at e
    split at e
    · exact ⟨fun h => by have := inj (i + 1) q (by omega) hq (by rw [e, h, hx]); omega, i + 1, by omega, e⟩
    · exact ⟨fun h => by have := inj i q (by omega) hq (by rw [e, h, hx]); omega, i, by omega, e⟩
  · rintro ⟨h, i, hi, e⟩
    rcases Nat.lt_trichotomy i q with a | a | a
    · exact ⟨i, by omega, by rw [hg i (by omega), if_neg (by omega), e]⟩
    · subst a
      exact absurd (e.symm.trans hx) h
    · exact ⟨i - 1, by omega, by rw [hg _ (by omega), if_pos (by omega), show i - 1 + 1 = i by omega, e]⟩
set_option maxRecDepth 20000 in
theorem con_remove (d nb nt : Nat) (hn : nt ≤ 40) (x hs ro : Int32) (gv : Value) (f : Nat → Int32) (hf : ∀ i j, i < j → j < nt → f i < f j) (hx : ∃ i, i < nt ∧ f i = x) : Con mX0_remove (d + 1) 0 0 [cG 101 nb nt hs ro gv, cI 40 f] [.ref 100, .int x] (fun w' v => v = none ∧ ∃ g, w' = [cG 101 nb (nt - 1) 0 ro gv, cI 40 g] ∧ (∀ i j, i < j → j < nt - 1 → g i < g j) ∧ ∀ y, (∃ i, i < nt - 1 ∧ g i = y) ↔ y ≠ x ∧ ∃ i, i < nt ∧ f i = y) := by
  refine Con.of (ab_okc rfl (by decide)) (Nat.le_of_ble_eq_true rfl) ?_
  show G ab_x0 mX0_remove (d + 1) 0 0 _ 0 [some (.ref 100), some (.int x), none] [] _
  refine G_iload_n dX0_remove_0 rfl ?_
  refine G_aload_n dX0_remove_1 rfl ?_
  refine G_get (f := 0) kc1 dX0_remove_2 fX0_9 (by decide) rfl rfl ?_
  refine G_aload_n dX0_remove_5 rfl ?_
  refine G_get (f := 2) kc1 dX0_remove_6 fX0_19 (by decide) rfl rfl ?_
  refine G_SN (is := [1]) (fo := []) (as := [.int x, .ref 100, .int (nI nt)]) (as' := [.int x, .ref 101, .int (nI nt)]) (st := []) (k := 0) (n := 0) cX0_remove_9 (con_placeFor d x f 40 nt (by omega) (by decide)) ab_pfx rfl (by decide) rfl rfl rfl rfl (Nat.le_of_ble_eq_true rfl) dX0_remove_9 (fun w' v h => by rw [h.1]) (fun w2 v2 hq => ?_)
  obtain ⟨rfl, q, hq, rfl, h1, h2⟩ := hq
  obtain ⟨i0, hi0, he0⟩ := hx
  have hqi : q = i0 := by
    rcases Nat.lt_trichotomy q i0 with h | h | h
    · have h5 := h2 (by omega)
      have h6 := hf q i0 h hi0
      rw [he0] at h6
      exact absurd (Int32.lt_of_le_of_lt h5 h6) (fun h => Int32.lt_irrefl h)
    · exact h
    · have := h1 i0 h
      rw [he0] at this
      exact absurd this (fun h => Int32.lt_irrefl h)
  subst hqi
  refine G_iconst (v := 1) dX0_remove_12 (by decide) ?_
  refine G_iadd dX0_remove_13 ?_
  refine G_topi (nI_1 q) ?_
  refine G_istore_n (L' := [_, _, _]) dX0_remove_14 (Nat.le_of_ble_eq_true rfl) rfl ?_
  have loop : ∀ (i : Nat) (cur : Nat → Int32), q + 1 ≤ i → i ≤ nt → (∀ j, cur j = if q ≤ j ∧ j + 1 < i then f (j + 1) else f j) → G ab_x0 mX0_remove (d + 1) 0 0 (fun w' v => v = none ∧ ∃ g, w' = [cG 101 nb (nt - 1) 0 ro gv, cI 40 g] ∧ (∀ i j, i < j → j < nt - 1 → g i < g j) ∧ ∀ y, (∃ i, i < nt - 1 ∧ g i = y) ↔ y ≠ x ∧ ∃ i, i < nt ∧ f i = y) 15 [some (.ref 100), some (.int x), some (.int (nI i))] [] [cG 101 nb nt hs ro gv, cI 40 cur] := by
    intro i
    induction hm : nt - i using Nat.strongRecOn generalizing i with
    | ind m ih =>
      subst hm
      intro cur hqi hi hc
      refine G_iload_n dX0_remove_15 rfl ?_
      refine G_aload_n dX0_remove_16 rfl ?_
      refine G_get (f := 2) kc1 dX0_remove_17 fX0_19 (by decide) rfl rfl ?_
      refine G_icmp_geN (tgt := 43) i nt dX0_remove_20 (by decide) rfl rfl (by omega) (by omega) (fun hge => ?_) (fun hlt => ?_)
      · refine G_aload_n dX0_remove_43 rfl ?_
        refine G_dup dX0_remove_44 rfl ?_
        refine G_get (f := 2) kc1 dX0_remove_45 fX0_19 (by decide) rfl rfl ?_
        refine G_iconst (v := 1) dX0_remove_48 (by decide) ?_
        refine G_isub dX0_remove_49 ?_
        refine G_topi (y := nI (nt - 1)) (pk_sub (a := nt) (b := 1) (by omega)) ?_
        refine G_put (w' := [_, _]) (f := 2) kc1 dX0_remove_50 fX0_19 (by decide) rfl rfl rfl rfl (Nat.le_of_ble_eq_true rfl) rfl ?_
        refine G_aload_n dX0_remove_53 rfl ?_
        refine G_iconst (v := 0) dX0_remove_54 (by decide) ?_
        refine G_put (w' := [_, _]) (f := 3) kc1 dX0_remove_55 fX0_22 (by decide) rfl (by decide) (by decide) rfl (Nat.le_of_ble_eq_true rfl) rfl ?_
        exact G_ret (v := none) ⟨dX0_remove_58, rfl⟩ ⟨rfl, _, rfl, remF_ok (by omega) he0 hf (fun j hj => by
          rw [hc]
          repeat' split
          all_goals first | rfl | omega)⟩
      refine G_aload_n dX0_remove_23 rfl ?_
      refine G_get (f := 0) kc1 dX0_remove_24 fX0_9 (by decide) rfl rfl ?_
      refine G_iload_n dX0_remove_27 rfl ?_
      refine G_iconst (v := 1) dX0_remove_28 (by decide) ?_
      refine G_isub dX0_remove_29 ?_
      refine G_aload_n dX0_remove_30 rfl ?_
      refine G_get (f := 0) kc1 dX0_remove_31 fX0_9 (by decide) rfl rfl ?_
      refine G_iload_n dX0_remove_34 rfl ?_
      refine G_ialdN i dX0_remove_35 rfl rfl (by omega) (by omega) ?_
      refine G_iastN (w' := [_, _]) (i - 1) dX0_remove_36 rfl (pk_sub (a := i) (b := 1) (by omega)) (by omega) (by omega) rfl ?_
      refine G_iinc (L' := [_, _, _]) (v := nI (i + 1)) dX0_remove_37 rfl (nI_succ i).symm rfl ?_
      refine G_goto (tgt := 15) dX0_remove_40 (by decide) ?_
      refine ih (nt - (i + 1)) (by omega) (i + 1) rfl _ (by omega) (by omega) (fun j => ?_)
      by_cases a : j = i - 1
      · rw [a, pk_us, hc, if_neg (by omega), if_pos (by omega), show i - 1 + 1 = i by omega]
      · rw [pk_un a, hc]
        repeat' split
        all_goals first | rfl | omega
  exact loop (q + 1) f (Nat.le_refl _) (by omega) (fun j => by rw [if_neg (by omega)])
