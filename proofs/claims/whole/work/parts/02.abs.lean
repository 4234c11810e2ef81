/-! THE ABSTRACT LAYER. A state of a method: pc, locals, operand stack, world; references are TOKENS: 0, 1, 2 the three static arrays, 3 the script, 4 .. 99 cells that the method doesn't open, j + 100 the world's cell j. 'G' is the machine's judgement W over such states, 'Con' a contract. -/
abbrev ab_M : Type := String × MethodName × ByteArray × Nat × Option FieldType
abbrev ab_C : Type := (Nat × vp_A) ⊕ (Nat × List Value)
def ab_v (ad : Nat → Nat) (v : Value) : Value := match v with
  | .ref k => .ref (ad k)
  | v => v
def ab_a (ad : Nat → Nat) (a : vp_A) : vp_A := match a with
  | (n, .inr (.inr (.inr (.inr f)))) => (n, .inr (.inr (.inr (.inr (fun j => (f j).map ad)))))
  | a => a
def ab_e (tc : Nat → ClassId) (ad : Nat → Nat) (c : ab_C) : va_E := match c with
  | .inl (t, a) => .inl (tc t, ab_a ad a)
  | .inr (ci, fs) => .inr (ci, fs.map (ab_v ad))
def ab_w (tc : Nat → ClassId) (ad : Nat → Nat) : Nat → List ab_C → va_W
  | _, [] => []
  | i, c :: w => (ad i, ab_e tc ad c) :: ab_w tc ad (i + 1) w
theorem ab_w_at (tc : Nat → ClassId) (ad : Nat → Nat) : ∀ (w : List ab_C) (i k : Nat), (ab_w tc ad i w)[k]? = (w[k]?).map (fun c => (ad (k + i), ab_e tc ad c))
  | [], i, k => by simp [ab_w]
  | c :: w, i, 0 => by simp [ab_w]
  | c :: w, i, k + 1 => by
    rw [ab_w, List.getElem?_cons_succ, List.getElem?_cons_succ, ab_w_at tc ad w (i + 1) k, Nat.add_right_comm k 1 i, Nat.add_assoc k i 1]
theorem ab_w_len (tc : Nat → ClassId) (ad : Nat → Nat) : ∀ (w : List ab_C) (i : Nat), (ab_w tc ad i w).length = w.length
  | [], i => rfl
  | c :: w, i => by simp [ab_w, ab_w_len tc ad w (i + 1)]
theorem ab_w_set (tc : Nat → ClassId) (ad : Nat → Nat) (w : List ab_C) (i k : Nat) (c : ab_C) : ab_w tc ad i (w.set k c) = (ab_w tc ad i w).set k (ad (k + i), ab_e tc ad c) := by
  apply List.ext_getElem?
  intro j
  rw [ab_w_at, List.getElem?_set, List.getElem?_set, ab_w_len, ab_w_at]
  by_cases h : k = j
  · subst h
    by_cases hl : k < w.length <;> simp [hl]
  · simp [h]
theorem ab_w_app (tc : Nat → ClassId) (ad : Nat → Nat) : ∀ (w v : List ab_C) (i : Nat), ab_w tc ad i (w ++ v) = ab_w tc ad i w ++ ab_w tc ad (w.length + i) v
  | [], v, i => by simp [ab_w]
  | c :: w, v, i => by
    rw [List.cons_append, ab_w, ab_w, ab_w_app tc ad w v (i + 1), List.cons_append, List.length_cons, Nat.add_right_comm w.length 1 i, Nat.add_assoc w.length i 1]
/-- the array classes -/
def ab_tys (tc : Nat → ClassId) : List (ClassId × FieldType) := [(tc 0, .int), (tc 1, .long), (tc 2, .byte), (tc 3, .boolean), (tc 4, .object RX0)]
/-- the words that hold everywhere -/
def ab_U : List Cond := lw_tbl.filter goodWord
def ab_isN (w : Cond) : Bool := match w with
  | .methodLinkNest .. => true
  | _ => false
def ab_N : List Cond := lw_tbl.filter ab_isN
theorem ab_goodU : GoodIn ab_U ab_U := fun w h => ⟨h, good_of_word (List.mem_filter.mp h).2⟩
/-- the statics: three arrays of ints that nobody writes -/
def ab_l (l : List Int32) : Nat → Int32 := fun j => l.getD j 0
def ab_noBytes : List Int32 := [0xe3b0c442, 0x98fc1c14, 0x9afbf4c8, 0x996fb924, 0x27ae41e4, 0x649b934c, 0xa495991b, 0x7852b855]
def ab_start : List Int32 := [0x6a09e667, 0xbb67ae85, 0x3c6ef372, 0xa54ff53a, 0x510e527f, 0x9b05688c, 0x1f83d9ab, 0x5be0cd19]
def ab_steps : List Int32 := [0x428a2f98, 0x71374491, 0xb5c0fbcf, 0xe9b5dba5, 0x3956c25b, 0x59f111f1, 0x923f82a4, 0xab1c5ed5,
  0xd807aa98, 0x12835b01, 0x243185be, 0x550c7dc3, 0x72be5d74, 0x80deb1fe, 0x9bdc06a7, 0xc19bf174,
  0xe49b69c1, 0xefbe4786, 0x0fc19dc6, 0x240ca1cc, 0x2de92c6f, 0x4a7484aa, 0x5cb0a9dc, 0x76f988da,
  0x983e5152, 0xa831c66d, 0xb00327c8, 0xbf597fc7, 0xc6e00bf3, 0xd5a79147, 0x06ca6351, 0x14292967,
  0x27b70a85, 0x2e1b2138, 0x4d2c6dfc, 0x53380d13, 0x650a7354, 0x766a0abb, 0x81c2c92e, 0x92722c85,
  0xa2bfe8a1, 0xa81a664b, 0xc24b8b70, 0xc76c51a3, 0xd192e819, 0xd6990624, 0xf40e3585, 0x106aa070,
  0x19a4c116, 0x1e376c08, 0x2748774c, 0x34b0bcb5, 0x391c0cb3, 0x4ed8aa4a, 0x5b9cca4f, 0x682e6ff3,
  0x748f82ee, 0x78a5636f, 0x84c87814, 0x8cc70208, 0x90befffa, 0xa4506ceb, 0xbef9a3f7, 0xc67178f2]
abbrev ab_XO : Type := List (Nat × (Nat → Int32))
def ab_x0 : ab_XO := [(8, ab_l ab_noBytes), (8, ab_l ab_start), (64, ab_l ab_steps)]
def ab_sn : List (String × String) := [(RX2, "NO_BYTES"), (RX6, "START"), (RX6, "STEPS")]
/-- a static of a loaded table that holds a reference or null -/
def ab_Ls (C n d : String) (A : Nat → Prop) (U : State) (H : Heap) : Prop := ∃ (cf : ClassId) (kf : Class) (fi : Nat) (f : Field) (a : Nat) (cell : Cell) (v : Value), U.vm.findClass C = some cf ∧ U.fieldFound? C n d = some (cf, kf, fi, f) ∧ f.isStatic = true ∧ kf.statics = some a ∧ H[a]? = some cell ∧ cell.vm.isStatics = true ∧ cell.cls = cf ∧ cell.slots[f.slot]? = some v ∧ (v = .null ∨ ∃ t : Nat, v = .ref t) ∧ kf.staticTypes[f.slot]? = some f.type ∧ ¬ A a
theorem ab_Ls.moved {C n d : String} {A : Nat → Prop} {u U : State} {H : Heap} (hvm : u.vm.Alike U.vm) (h : ab_Ls C n d A u H) : ab_Ls C n d A U H := by
  obtain ⟨cf, kf, fi, f, a, cell, v, h0, h1, h2, h3, h4, h5, h6, h7, h8, h9, h10⟩ := h
  obtain ⟨k', hi', he⟩ := State.fieldFound?_setVm hvm h1
  exact ⟨cf, k', fi, f, a, cell, v, (hvm.findClass ..).trans h0, hi', h2, by rw [he]; exact h3, h4, h5, h6, h7, h8, by rw [he]; exact h9, h10⟩
theorem ab_Ls.kept {C n d : String} {A : Nat → Prop} {U : State} {H H1 : Heap} (h : ab_Ls C n d A U H) (hq : ∀ a : Nat, a < H.size → ¬ A a → H1[a]? = H[a]?) : ab_Ls C n d A U H1 := by
  obtain ⟨cf, kf, fi, f, a, cell, v, h0, h1, h2, h3, h4, h5, h6, h7, h8, h9, h10⟩ := h
  exact ⟨cf, kf, fi, f, a, cell, v, h0, h1, h2, h3, by rw [hq a (Array.getElem?_eq_some_iff.mp h4).1 h10]; exact h4, h5, h6, h7, h8, h9, h10⟩
theorem ab_Ls.narrow {C n d : String} {A B : Nat → Prop} {U : State} {H : Heap} (h : ab_Ls C n d A U H) (hAB : ∀ q, B q → A q) : ab_Ls C n d B U H := by
  obtain ⟨cf, kf, fi, f, a, cell, v, h0, h1, h2, h3, h4, h5, h6, h7, h8, h9, h10⟩ := h
  exact ⟨cf, kf, fi, f, a, cell, v, h0, h1, h2, h3, h4, h5, h6, h7, h8, h9, fun z => h10 (hAB a z)⟩
/-- what a throw asks of the statics, and its text -/
def ab_T (A : Nat → Prop) (U : State) (H : Heap) : Prop := ab_Ls "java/lang/Throwable" "UNASSIGNED_STACK" "[Ljava/lang/StackTraceElement;" A U H ∧ ab_Ls "java/lang/Throwable" "SUPPRESSED_SENTINEL" "Ljava/util/List;" A U H ∧ ∃ a : Nat, vk_R "CanonNames" 130 "there are octets 0 .. 31 only" a U
theorem ab_T.moved {A : Nat → Prop} {s U : State} {H : Heap} (hW : s.WarmedH U.vm) (h : ab_T A s H) : ab_T A U H := ⟨h.1.moved hW.alike, h.2.1.moved hW.alike, h.2.2.elim fun a ha => ⟨a, ha.warm hW⟩⟩
theorem ab_T.kept {A : Nat → Prop} {U : State} {H H1 : Heap} (h : ab_T A U H) (hq : ∀ a : Nat, a < H.size → ¬ A a → H1[a]? = H[a]?) : ab_T A U H1 := ⟨h.1.kept hq, h.2.1.kept hq, h.2.2⟩
theorem ab_T.narrow {A B : Nat → Prop} {U : State} {H : Heap} (h : ab_T A U H) (hq : ∀ q, B q → A q) : ab_T B U H := ⟨h.1.narrow hq, h.2.1.narrow hq, h.2.2⟩
/-- what lies outside the world: read-only arrays, the statics that hold them, the nest mates' links -/
def ab_O (xo : ab_XO) (ad : Nat → Nat) (A : Nat → Prop) (U : State) (H : Heap) : Prop :=
  (∀ (i : Nat) (q : Nat × (Nat → Int32)), xo[i]? = some q → va_T .int (ad i) q.1 (fun j => .int (q.2 j)) A U H) ∧
  (∀ (i : Nat) (q : String × String), ab_sn[i]? = some q → va_Z q.1 q.2 "[I" (.ref (ad i)) A U H) ∧ (∀ w ∈ ab_N, va_Nw w U) ∧ va_AO RX0 U ∧ xo.length ≤ 100 ∧ ab_T A U H
theorem ab_O.moved {xo : ab_XO} {ad : Nat → Nat} {A : Nat → Prop} {s U : State} {H : Heap} (hW : s.WarmedH U.vm) (h : ab_O xo ad A s H) : ab_O xo ad A U H := by
  refine ⟨fun i q hq => (h.1 i q hq).moved hW.alike, fun i q hq => (h.2.1 i q hq).moved hW.alike, fun w hw => ?_, h.2.2.2.1.moved hW.alike, h.2.2.2.2.1, h.2.2.2.2.2.moved hW⟩
  have h1 := h.2.2.1 w hw
  have h2 := (List.mem_filter.mp hw).2
  cases w <;> first | exact va_Nw.warmM hW h1 | (simp [ab_isN] at h2)
theorem ab_O.kept {xo : ab_XO} {ad : Nat → Nat} {A : Nat → Prop} {U : State} {H H1 : Heap} (h : ab_O xo ad A U H) (hq : ∀ a : Nat, a < H.size → ¬ A a → H1[a]? = H[a]?) : ab_O xo ad A U H1 :=
  ⟨fun i q hi => (h.1 i q hi).kept hq, fun i q hi => (h.2.1 i q hi).kept hq, h.2.2.1, h.2.2.2.1, h.2.2.2.2.1, h.2.2.2.2.2.kept hq⟩
theorem ab_O.narrow {xo : ab_XO} {ad : Nat → Nat} {A B : Nat → Prop} {U : State} {H : Heap} (h : ab_O xo ad A U H) (hq : ∀ q, B q → A q) : ab_O xo ad B U H :=
  ⟨fun i q hi => (h.1 i q hi).narrow hq, fun i q hi => (h.2.1 i q hi).narrow hq, h.2.2.1, h.2.2.2.1, h.2.2.2.2.1, h.2.2.2.2.2.narrow hq⟩
theorem ab_O.re {xo : ab_XO} {ad ad' : Nat → Nat} {A : Nat → Prop} {U : State} {H : Heap} (h : ab_O xo ad A U H) (hq : ∀ t, t < 100 → ad' t = ad t) : ab_O xo ad' A U H := by
  refine ⟨fun i q hi => ?_, fun i q hi => ?_, h.2.2⟩
  · rw [hq i (Nat.lt_of_lt_of_le (List.getElem?_eq_some_iff.mp hi).1 h.2.2.2.2.1)]
    exact h.1 i q hi
  · rw [hq i (Nat.lt_of_lt_of_le (List.getElem?_eq_some_iff.mp hi).1 (by decide))]
    exact h.2.1 i q hi
/-- the locals -/
def ab_L (ad : Nat → Nat) (ls : Array Slot) (L : List (Option Value)) : Prop := ls.size = L.length ∧ lv_wf ls ∧ ∀ (i : Nat) (v : Value), L[i]? = some (some v) → ls[i]? = some (.val (ab_v ad v))
/-- a method's fixed context -/
def ab_X (xo : ab_XO) (M : ab_M) (d : Nat) (p : Program) (l : Launch) (R : Room) (s : State) (m : MethodId) (args : Array Value) (meth : Method) (c : Code) (D : va_G) (tc : Nat → ClassId) (ad : Nat → Nat) (A : Nat → Prop) : Prop :=
  (p.tables.exec = Jvm.exec ∧ c.code = M.2.2.1 ∧ c.maxLocals = M.2.2.2.1 ∧ s.vm.findClass M.1 = some m.cls) ∧ (meth.sig.returnType = M.2.2.2.2 ∧ meth.locks = false ∧ meth.name = M.2.1.name) ∧ (∀ w ∈ ab_U, w.before args s = true) ∧ va_K D vwCl (ab_tys tc) s ∧ (∀ q : Nat, s.heap.size ≤ q → A q) ∧ (d ≤ R.frames ∧ 64 * d ≤ R.locals ∧ l.stackTraces = false) ∧ ab_O xo ad A s s.heap
/-- the heap holds the world; nothing else has changed -/
def ab_R (D : va_G) (tc : Nat → ClassId) (ad : Nat → Nat) (A : Nat → Prop) (s : State) (H : Heap) (locs : List Loc) (w : List ab_C) : Prop :=
  va_P D vwCl (ab_w tc ad 100 w) H ∧ va_D A (ab_w tc ad 100 w) ∧ va_S A s.heap H locs
/-- a return that is due: its instruction, the answer's kind -/
def ab_ret (M : ab_M) (pc : Nat) (v : Option Value) : Prop := match v with
  | none => decode M.2.2.1 pc = .ok (.return_, 1) ∧ M.2.2.2.2 = none
  | some (.int x) => decode M.2.2.1 pc = .ok (.ireturn, 1) ∧ ∃ ty : FieldType, M.2.2.2.2 = some ty ∧ narrow ty (.int x) = .int x
  | some (.long _) => decode M.2.2.1 pc = .ok (.lreturn, 1) ∧ M.2.2.2.2 = some .long
  | some (.ref _) => decode M.2.2.1 pc = .ok (.areturn, 1) ∧ ∃ n : String, M.2.2.2.2 = some (.object n)
  | some .null => decode M.2.2.1 pc = .ok (.areturn, 1) ∧ ∃ n : String, M.2.2.2.2 = some (.object n)
  | _ => False
/-- the tokens' addresses go on; where no cell was made they are the same -/
def ab_ext (w : List ab_C) (ad : Nat → Nat) (w' : List ab_C) (ad' : Nat → Nat) : Prop := (∀ t, t < w.length + 100 → ad' t = ad t) ∧ w.length ≤ w'.length ∧ (w'.length = w.length → ad' = ad)
/-- THE JUDGEMENT: from this state on method M comes to a return with Q; at most k cells and n slots are made, calls go at most d deep -/
def G (xo : ab_XO) (M : ab_M) (d k n : Nat) (Q : List ab_C → Option Value → Prop) (pc : Nat) (L : List (Option Value)) (st : List Value) (w : List ab_C) : Prop :=
  ∀ (p : Program) (l : Launch) (e : Env) (R : Room) (s : State) (m : MethodId) (args : Array Value) (below : List Frame) (meth : Method) (c : Code) (Z : State → Prop) (D : va_G) (tc : Nat → ClassId) (ad : Nat → Nat) (A : Nat → Prop) (H : Heap) (locs : List Loc) (cells slots : Nat) (ls : Array Slot),
    ab_X xo M d p l R s m args meth c D tc ad A → ab_R D tc ad A s H locs w → ab_L ad ls L → cells + k ≤ R.cells → slots + n ≤ R.slots →
    (∀ (pc' : Nat) (ad' : Nat → Nat) (H' : Heap) (locs' : List Loc) (cells' slots' : Nat) (ls' : Array Slot) (w' : List ab_C) (v : Option Value),
      ab_ret M pc' v → ab_ext w ad w' ad' → ab_R D tc ad' A s H' locs' w' → cells' ≤ cells + k → slots' ≤ slots + n → Q w' v →
      W p l e R s m args below meth c H' locs' cells' slots' Z (F0 m pc' ls' (v.toList.map (ab_v ad')))) →
    W p l e R s m args below meth c H locs cells slots Z (F0 m pc ls (st.map (ab_v ad)))
