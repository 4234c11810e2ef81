/-! Contracts (Con) and rules of G for calls. -/
/-- the locals at a method's entry -/
def ab_en : List Value → List (Option Value)
  | [] => []
  | v :: vs => match v with
    | .long x => some (.long x) :: none :: ab_en vs
    | .double x => some (.double x) :: none :: ab_en vs
    | v => some v :: ab_en vs
def ab_ent (vs : List Value) (n : Nat) : List (Option Value) := ab_en vs ++ List.replicate (n - (ab_en vs).length) none
theorem ab_en_len (ad : Nat → Nat) : ∀ vs : List Value, (lg_sl (vs.map (ab_v ad))).length = (ab_en vs).length
  | [] => rfl
  | v :: vs => by
    have ih := ab_en_len ad vs
    have h : lg_sl ((v :: vs).map (ab_v ad)) = (if (ab_v ad v).category = 2 then [.val (ab_v ad v), .second] else [.val (ab_v ad v)]) ++ lg_sl (vs.map (ab_v ad)) := rfl
    rw [h, List.length_append, ih]
    cases v <;> simp [ab_en, ab_v, Value.category] <;> omega
theorem ab_en_at (ad : Nat → Nat) : ∀ (vs : List Value) (i j : Nat) (v : Value), (ab_en vs)[j]? = some (some v) → (i + j, ab_v ad v) ∈ lv_args i (vs.map (ab_v ad))
  | [], i, j, v, h => by simp [ab_en] at h
  | u :: vs, i, j, v, h => by
    rw [List.map_cons, lv_args]
    have one : ∀ (hu : ¬ u.category = 2) (h : (some u :: ab_en vs)[j]? = some (some v)), (i + j, ab_v ad v) ∈ (i, ab_v ad u) :: lv_args (if (ab_v ad u).category = 2 then i + 2 else i + 1) (vs.map (ab_v ad)) := by
      intro hu h
      rw [ab_cat, if_neg hu]
      cases j with
      | zero =>
        rw [List.getElem?_cons_zero] at h
        cases h
        exact List.mem_cons_self
      | succ j =>
        rw [List.getElem?_cons_succ] at h
        have := ab_en_at ad vs (i + 1) j v h
        rw [show i + 1 + j = i + (j + 1) by omega] at this
        exact List.mem_cons_of_mem _ this
    have two : ∀ (hu : u.category = 2) (h : (some u :: none :: ab_en vs)[j]? = some (some v)), (i + j, ab_v ad v) ∈ (i, ab_v ad u) :: lv_args (if (ab_v ad u).category = 2 then i + 2 else i + 1) (vs.map (ab_v ad)) := by
      intro hu h
      rw [ab_cat, if_pos hu]
      match j, h with
      | 0, h =>
        rw [List.getElem?_cons_zero] at h
        cases h
        exact List.mem_cons_self
      | 1, h => simp at h
      | j + 2, h =>
        rw [List.getElem?_cons_succ, List.getElem?_cons_succ] at h
        have := ab_en_at ad vs (i + 2) j v h
        rw [show i + 2 + j = i + (j + 2) by omega] at this
        exact List.mem_cons_of_mem _ this
    cases u with
    | long x => exact two rfl h
    | double x => exact two rfl h
    | int x => exact one (fun q => by cases q) h
    | float x => exact one (fun q => by cases q) h
    | null => exact one (fun q => by cases q) h
    | ref x => exact one (fun q => by cases q) h
    | retAddr x => exact one (fun q => by cases q) h
/-- what a method leaves -/
def ab_Q (D : va_G) (tc : Nat → ClassId) (ad : Nat → Nat) (w : List ab_C) (sz : Nat) (Q : List ab_C → Option Value → Prop) : Array Value → State → Outcome → State → Prop := fun _ st oc t =>
  (∃ (w' : List ab_C) (ad' : Nat → Nat) (v : Option Value), oc = .returned (v.map (ab_v ad')) ∧ Q w' v ∧ ab_ext w ad w' ad' ∧ va_P D vwCl (ab_w tc ad' 100 w') t.heap ∧ va_D (va_A (ab_w tc ad 100 w) sz) (ab_w tc ad' 100 w')) ∧ va_F (va_A (ab_w tc ad 100 w) sz) st t
def ab_pre (D : va_G) (tc : Nat → ClassId) (ad : Nat → Nat) (w : List ab_C) (sz : Nat) (U : State) : Prop :=
  U.heap.size = sz ∧ va_P D vwCl (ab_w tc ad 100 w) U.heap ∧ va_K D vwCl (ab_tys tc) U ∧ va_D (fun _ => True) (ab_w tc ad 100 w) ∧ ab_O ab_x0 ad (va_A (ab_w tc ad 100 w) sz) U U.heap
abbrev ab_rm (d mc ms : Nat) : Room := { frames := d, cells := mc, slots := ms, locals := 64 * d }
abbrev ab_ws (M : ab_M) : List Cond := Cond.code M.2.1 M.2.2.1 M.2.2.2.1 M.2.2.2.2 :: ab_U
/-- A CONTRACT: from the world w and the arguments, with calls at most d deep, at most mc cells of ms slots are made, and Q holds of the world and the answer -/
def Con (M : ab_M) (d mc ms : Nat) (w : List ab_C) (as : List Value) (Q : List ab_C → Option Value → Prop) : Prop :=
  ∀ l : Launch, l.stackTraces = false → ∀ (D : va_G) (tc : Nat → ClassId) (ad : Nat → Nat) (sz : Nat),
    Met l M.2.1 (ab_ws M) (ab_rm d mc ms) (va_Pc (as.map (ab_v ad)) (ab_pre D tc ad w sz)) (ab_Q D tc ad w sz Q) mc ms (va_A (ab_w tc ad 100 w) sz)
/-- a method of ours -/
def ab_ok (M : ab_M) : Prop := plainName M.2.1.cls = true ∧ M.1 = M.2.1.cls
set_option maxHeartbeats 4000000 in
theorem Con.of {M : ab_M} {d mc ms : Nat} {w : List ab_C} {as : List Value} {Q : List ab_C → Option Value → Prop} (hM : ab_ok M) (hlen : (ab_en as).length ≤ M.2.2.2.1) (h : G ab_x0 M d mc ms Q 0 (ab_ent as M.2.2.2.1) [] w) : Con M d mc ms w as Q := by
  intro l hT D tc ad sz
  refine Met.ofW (cc := M.2.2.1) (maxL := M.2.2.2.1) (ret := M.2.2.2.2) hM.1 rfl ?_
  intro p e s m args below meth c s₁ B hml hv
  obtain ⟨rfl, rfl, hP, hK, hD0, hO⟩ := hv
  have hts := atoms_spec (ws := ab_ws M) B.pre
  have hown : s.vm.findClass M.1 = some m.cls := by rw [hM.2]; exact findClass_of_methodNamed B.named
  have hD := hD0.self (sz := s.heap.size)
  have hl := lv_entry (as.map (ab_v ad)) (n := M.2.2.2.1) (by rw [ab_en_len]; exact hlen)
  rw [lg_entry_eq]
  generalize (lg_sl (as.map (ab_v ad)) ++ List.replicate (M.2.2.2.1 - (lg_sl (as.map (ab_v ad))).length) Slot.unset).toArray = ls at hl ⊢
  have hL : ab_L ad ls (ab_ent as M.2.2.2.1) := by
    refine ⟨hl.1.trans ?_, hl.2.1, fun i v hi => ?_⟩
    · rw [ab_ent, List.length_append, List.length_replicate]
      omega
    · by_cases hi2 : i < (ab_en as).length
      · rw [ab_ent, List.getElem?_append_left hi2] at hi
        have := ab_en_at ad as 0 i v hi
        rw [Nat.zero_add] at this
        exact hl.2.2 _ this
      · rw [ab_ent, List.getElem?_append_right (by omega), List.getElem?_replicate] at hi
        split at hi <;> simp at hi
  have hA : ∀ q : Nat, s.heap.size ≤ q → va_A (ab_w tc ad 100 w) s.heap.size q := fun q h => Or.inr h
  refine h p l e (ab_rm d mc ms) s m (as.map (ab_v ad)).toArray below meth c (MQ below (ab_Q D tc ad w s.heap.size Q) (as.map (ab_v ad)).toArray s mc ms (va_A (ab_w tc ad 100 w) s.heap.size)) D tc ad (va_A (ab_w tc ad 100 w) s.heap.size) s.heap [] 0 0 ls
    ⟨⟨B.exec, B.bytes, hml, hown⟩, ⟨B.returns, B.notSynchronized, (name_of_methodNamed B.named B.method).1⟩, fun w hw => hts w (List.mem_cons_of_mem _ hw), hK, hA, ⟨Nat.le_refl _, Nat.le_refl _, hT⟩, hO⟩ ⟨hP, hD, va_S.rf⟩ hL (by show 0 + mc ≤ mc; omega) (by show 0 + ms ≤ ms; omega) ?_
  intro pc' ad' H' locs' cells' slots' ls' w' v hr hx hR hc hs hq
  refine W.widen (k := mc) (n := ms) (by omega) (by omega) ?_
  have hlocks := B.notSynchronized
  have key : ∀ (t : State), t.heap = H' → ab_Q D tc ad w s.heap.size Q (as.map (ab_v ad)).toArray s (.returned (v.map (ab_v ad'))) t := fun t ht =>
    ⟨⟨w', ad', v, rfl, hq, hx, by rw [ht]; exact hR.1, hR.2.1⟩, hR.2.2.F ht⟩
  match v, hr, key with
  | none, hr, key => exact W.vret B.exec B.bytes (B.returns.trans hr.2) (fun t ht _ => key t ht) hR.2.2.2.2 hr.1
  | some (.int x), hr, key =>
    obtain ⟨hr, ty, h1, h2⟩ := hr
    exact W.zret B.exec B.bytes (B.returns.trans h1) h2 (fun t ht _ => key t ht) hR.2.2.2.2 hr
  | some (.long x), hr, key => exact W.lret B.exec B.bytes (B.returns.trans hr.2) (fun t ht _ => key t ht) hR.2.2.2.2 hr.1
  | some (.ref x), hr, key =>
    obtain ⟨hr, nm, h1⟩ := hr
    exact W.aret B.exec B.bytes (B.returns.trans h1) (Or.inl ⟨nm, rfl⟩) (Or.inr ⟨_, rfl⟩) (fun t ht _ => key t ht) hR.2.2.2.2 hr
  | some .null, hr, key =>
    obtain ⟨hr, nm, h1⟩ := hr
    exact W.aret B.exec B.bytes (B.returns.trans h1) (Or.inl ⟨nm, rfl⟩) (Or.inl rfl) (fun t ht _ => key t ht) hR.2.2.2.2 hr
  | some (.float x), hr, key => exact hr.elim
  | some (.double x), hr, key => exact hr.elim
  | some (.retAddr x), hr, key => exact hr.elim
/-! calls -/
/-- a cell with its tokens renamed -/
def ab_rc (r : Nat → Nat) (c : ab_C) : ab_C := match c with
  | .inl (t, a) => .inl (t, ab_a r a)
  | .inr (ci, fs) => .inr (ci, fs.map (ab_v r))
theorem ab_v_v (ad r : Nat → Nat) (v : Value) : ab_v ad (ab_v r v) = ab_v (fun t => ad (r t)) v := by cases v <;> rfl
theorem ab_e_rc (tc : Nat → ClassId) (ad r : Nat → Nat) (c : ab_C) : ab_e tc ad (ab_rc r c) = ab_e tc (fun t => ad (r t)) c := by
  match c with
  | .inl (t, n, .inl f) => rfl
  | .inl (t, n, .inr (.inl f)) => rfl
  | .inl (t, n, .inr (.inr (.inl f))) => rfl
  | .inl (t, n, .inr (.inr (.inr (.inl f)))) => rfl
  | .inl (t, n, .inr (.inr (.inr (.inr f)))) =>
    show (Sum.inl (tc t, n, .inr (.inr (.inr (.inr (fun j => ((f j).map r).map ad))))) : va_E) = .inl (tc t, n, .inr (.inr (.inr (.inr (fun j => (f j).map (fun t => ad (r t)))))))
    have e : (fun j => ((f j).map r).map ad) = (fun j => (f j).map (fun t => ad (r t))) := by
      funext j
      cases f j <;> rfl
    rw [e]
  | .inr (ci, fs) =>
    show (Sum.inr (ci, (fs.map (ab_v r)).map (ab_v ad)) : va_E) = .inr (ci, fs.map (ab_v (fun t => ad (r t))))
    rw [List.map_map]
    have e : (ab_v ad ∘ ab_v r) = ab_v (fun t => ad (r t)) := by
      funext v
      exact ab_v_v ad r v
    rw [e]
/-- the callee's tokens: is: where its world's cells stand in the caller's; fo: its foreign tokens 4, 5 ..; n: how many cells the caller's world has -/
def ab_rho (is fo : List Nat) (n t : Nat) : Nat := if t < 4 then t else if t < 100 then fo.getD (t - 4) 0 else match is[t - 100]? with
  | some j => j + 100
  | none => t - is.length + n
theorem ab_rho_lo {is fo : List Nat} {n t : Nat} (h : t < 4) : ab_rho is fo n t = t := by simp [ab_rho, h]
theorem ab_rho_at {is fo : List Nat} {n j i : Nat} (h : is[j]? = some i) : ab_rho is fo n (j + 100) = i + 100 := by
  have h1 : ¬ j + 100 < 4 := by omega
  have h2 : ¬ j + 100 < 100 := by omega
  have h3 : j + 100 - 100 = j := by omega
  simp [ab_rho, h1, h2, h3, h]
def ab_put : List ab_C → List Nat → List ab_C → List ab_C
  | w, i :: is, c :: cs => ab_put (w.set i c) is cs
  | w, _, _ => w
theorem ab_put_len : ∀ (is : List Nat) (w cs : List ab_C), (ab_put w is cs).length = w.length
  | [], w, cs => by simp [ab_put]
  | i :: is, w, [] => by simp [ab_put]
  | i :: is, w, c :: cs => by rw [ab_put, ab_put_len is, List.length_set]
theorem ab_put_out : ∀ (is : List Nat) (w cs : List ab_C) (k : Nat), k ∉ is → (ab_put w is cs)[k]? = w[k]?
  | [], w, cs, k, _ => by simp [ab_put]
  | i :: is, w, [], k, _ => by simp [ab_put]
  | i :: is, w, c :: cs, k, h => by
    rw [ab_put, ab_put_out is _ cs k (fun q => h (List.mem_cons_of_mem _ q)), List.getElem?_set_ne (fun q => h (by rw [q]; exact List.mem_cons_self))]
theorem ab_put_in : ∀ (is : List Nat) (w cs : List ab_C), va_nd is = true → ∀ (j i : Nat) (c : ab_C), is[j]? = some i → cs[j]? = some c → i < w.length → (ab_put w is cs)[i]? = some c
  | [], w, cs, _, j, i, c, h, _, _ => by simp at h
  | i0 :: is, w, [], _, j, i, c, _, h, _ => by simp at h
  | i0 :: is, w, c0 :: cs, hn, j, i, c, h1, h2, hl => by
    simp only [va_nd, Bool.and_eq_true, decide_eq_true_eq] at hn
    rw [ab_put]
    cases j with
    | zero =>
      rw [List.getElem?_cons_zero] at h1 h2
      have h1 := Option.some.inj h1
      have h2 := Option.some.inj h2
      subst h1
      subst h2
      rw [ab_put_out is _ cs _ hn.1, List.getElem?_set_self hl]
    | succ j =>
      rw [List.getElem?_cons_succ] at h1 h2
      exact ab_put_in is _ cs hn.2 j i c h1 h2 (by rw [List.length_set]; exact hl)
theorem ab_fm {α β : Type} {f : α → Option β} : ∀ {is : List α} {l : List β}, is.map f = l.map some → is.filterMap f = l
  | [], [], _ => rfl
  | [], b :: l, h => by simp at h
  | a :: is, [], h => by simp at h
  | a :: is, b :: l, h => by
    rw [List.map_cons, List.map_cons] at h
    injection h with h1 h2
    rw [List.filterMap_cons, h1, ab_fm h2]
/-- the callee's world in the caller's -/
def ab_fits (is fo : List Nat) (wc w : List ab_C) : Prop := (wc.map (ab_rc (ab_rho is fo w.length))).map some = is.map (fun i => w[i]?)
theorem ab_fits.len {is fo : List Nat} {wc w : List ab_C} (h : ab_fits is fo wc w) : wc.length = is.length := by
  have := congrArg List.length h
  simpa using this
theorem ab_fits.at {is fo : List Nat} {wc w : List ab_C} (h : ab_fits is fo wc w) {j : Nat} {c : ab_C} (hc : wc[j]? = some c) : ∃ i, is[j]? = some i ∧ w[i]? = some (ab_rc (ab_rho is fo w.length) c) := by
  have h1 := congrArg (fun l => l[j]?) h
  simp only [List.getElem?_map, hc, Option.map_some] at h1
  cases hi : is[j]? with
  | none => rw [hi] at h1; cases h1
  | some i =>
    rw [hi] at h1
    exact ⟨i, rfl, (Option.some.inj h1).symm⟩
theorem ab_fits.ws {is fo : List Nat} {wc w : List ab_C} (h : ab_fits is fo wc w) (tc : Nat → ClassId) (ad : Nat → Nat) : is.map (fun i => (ab_w tc ad 100 w)[i]?) = (ab_w tc (fun t => ad (ab_rho is fo w.length t)) 100 wc).map some := by
  apply List.ext_getElem?
  intro j
  rw [List.getElem?_map, List.getElem?_map, ab_w_at]
  cases hc : wc[j]? with
  | none =>
    have h1 : is[j]? = none := by
      rw [List.getElem?_eq_none_iff] at hc ⊢
      rw [← h.len]
      exact hc
    rw [h1]
    rfl
  | some c =>
    obtain ⟨i, h1, h2⟩ := h.at hc
    rw [h1]
    show some ((ab_w tc ad 100 w)[i]?) = some (some (ad (ab_rho is fo w.length (j + 100)), ab_e tc _ c))
    rw [ab_w_at, h2, ab_rho_at h1]
    show some (some (ad (i + 100), ab_e tc ad (ab_rc _ c))) = _
    rw [ab_e_rc]
theorem ab_O.less {xo : ab_XO} {ad ad' : Nat → Nat} {A : Nat → Prop} {U : State} {H : Heap} (h : ab_O xo ad A U H) (hx : ∀ (i : Nat) (q : Nat × (Nat → Int32)), ab_x0[i]? = some q → xo[i]? = some q) (hq : ∀ t, t < 4 → ad' t = ad t) : ab_O ab_x0 ad' A U H := by
  refine ⟨fun i q hi => ?_, fun i q hi => ?_, h.2.2.1, h.2.2.2.1, by decide, h.2.2.2.2.2⟩
  · have hl : i < 4 := Nat.lt_of_lt_of_le (List.getElem?_eq_some_iff.mp hi).1 (by decide)
    rw [hq i hl]
    exact h.1 i q (hx i q hi)
  · have hl : i < 4 := Nat.lt_of_lt_of_le (List.getElem?_eq_some_iff.mp hi).1 (by decide)
    rw [hq i hl]
    exact h.2.1 i q hi
theorem ab_O.calls {xo : ab_XO} {ad : Nat → Nat} {A : Nat → Prop} {U : State} {H : Heap} (g : JFrame) (mk : MethodId) (a : Array Value) (h : ab_O xo ad A U H) : ab_O xo ad A (U.calling g mk a) H := by
  refine ⟨fun i q hq => (h.1 i q hq).moved (U := U.calling g mk a) (Vm.Alike.refl U.vm), fun i q hq => (h.2.1 i q hq).moved (U := U.calling g mk a) (Vm.Alike.refl U.vm), fun w hw => ?_, h.2.2.2.1.moved (U := U.calling g mk a) (Vm.Alike.refl U.vm), h.2.2.2.2.1, h.2.2.2.2.2.1.moved (U := U.calling g mk a) (Vm.Alike.refl U.vm), h.2.2.2.2.2.2.1.moved (U := U.calling g mk a) (Vm.Alike.refl U.vm), h.2.2.2.2.2.2.2.elim fun b hb => ⟨b, vk_R.same (u := U) rfl hb⟩⟩
  have h1 := h.2.2.1 w hw
  have h2 := (List.mem_filter.mp hw).2
  cases w <;> first | exact va_Nw.same rfl rfl h1 | (simp [ab_isN] at h2)
theorem ab_blind {av : List Value} {D : va_G} {tc : Nat → ClassId} {ad : Nat → Nat} {w : List ab_C} {sz : Nat} : FrameBlind (va_Pc av (ab_pre D tc ad w sz)) := by
  intro a U g mk h
  obtain ⟨h1, h2, h3, h4, h5, h6⟩ := h
  exact ⟨h1, h2, h3, va_K.moved (u := U) (U := U.calling g mk a) (Vm.Alike.refl U.vm) h4, h5, h6.calls g mk a⟩
section ABC
variable {xo : ab_XO} {M N : ab_M} {d k n mc ms : Nat} {Q Qc : List ab_C → Option Value → Prop} {pc : Nat} {L : List (Option Value)} {st : List Value} {w wc : List ab_C} {is fo : List Nat}
variable {p : Program} {l : Launch} {e : Env} {R : Room} {s : State} {m : MethodId} {args : Array Value} {below : List Frame} {meth : Method} {c : Code} {Z : State → Prop} {D : va_G} {tc : Nat → ClassId} {ad : Nat → Nat} {A : Nat → Prop} {H : Heap} {locs : List Loc} {cells slots : Nat} {ls : Array Slot}
theorem ab_pre.of (X : ab_X xo M d p l R s m args meth c D tc ad A) (hR : ab_R D tc ad A s H locs w) (hx : ∀ (i : Nat) (q : Nat × (Nat → Int32)), ab_x0[i]? = some q → xo[i]? = some q) (hf : ab_fits is fo wc w) (hn : va_nd is = true) (U : State) (hU : U.heap = H) (hW : s.WarmedH U.vm) : ab_pre D tc (fun t => ad (ab_rho is fo w.length t)) wc H.size U := by
  have hC := hf.ws tc ad
  refine ⟨by rw [hU], by rw [hU]; exact hR.1.sub is (ab_fm hC), va_K.moved hW.alike X.2.2.2.1, (hR.2.1.sub is hn hC).weaken (fun _ _ _ _ => trivial), ?_⟩
  rw [hU]
  refine ab_O.narrow (A := A) (ab_O.less (ab_O.kept (ab_O.moved hW X.2.2.2.2.2.2) (fun a h1 h2 => hR.2.2.2.1 a h1 h2)) hx (fun t ht => ?_)) (va_free hR.2.1 hR.2.2 X.2.2.2.2.1 is hC)
  show ad (ab_rho is fo w.length t) = ad t
  rw [ab_rho_lo ht]
theorem ab_D_iff {w : List ab_C} : va_D A (ab_w tc ad 100 w) ↔ (∀ i j, i < w.length → j < w.length → ad (i + 100) = ad (j + 100) → i = j) ∧ ∀ i, i < w.length → A (ad (i + 100)) := by
  have at' : ∀ i, i < w.length → ∃ ce, (ab_w tc ad 100 w)[i]? = some (ad (i + 100), ce) := fun i hi => by
    rw [ab_w_at, List.getElem?_eq_getElem hi]
    exact ⟨_, rfl⟩
  have of' : ∀ (i : Nat) (q : Nat × va_E), (ab_w tc ad 100 w)[i]? = some q → i < w.length ∧ q.1 = ad (i + 100) := fun i q h => by
    rw [ab_w_at] at h
    cases hw : w[i]? with
    | none => rw [hw] at h; cases h
    | some ce =>
      rw [hw] at h
      cases h
      exact ⟨(List.getElem?_eq_some_iff.mp hw).1, rfl⟩
  constructor
  · intro h
    refine ⟨fun i j hi hj hij => ?_, fun i hi => ?_⟩
    · obtain ⟨a, ha⟩ := at' i hi
      obtain ⟨b, hb⟩ := at' j hj
      exact h.1 i j _ _ ha hb hij
    · obtain ⟨a, ha⟩ := at' i hi
      exact h.2 i _ ha
  · intro h
    refine ⟨fun i j x y hi hj hxy => ?_, fun i x hi => ?_⟩
    · obtain ⟨a1, a2⟩ := of' i x hi
      obtain ⟨b1, b2⟩ := of' j y hj
      exact h.1 i j a1 b1 (by rw [← a2, ← b2, hxy])
    · obtain ⟨a1, a2⟩ := of' i x hi
      rw [a2]
      exact h.2 i a1
/-- the world behind a call that makes nothing -/
theorem ab_R.back {w' : List ab_C} {H1 : Heap} {locs1 : List Loc} (hR : ab_R D tc ad A s H locs w) (hf : ab_fits is fo wc w) (hn : va_nd is = true) (hl : w'.length = wc.length) (hS : va_S A s.heap H1 locs1)
    (hk : ∀ q : Nat, q < H.size → ¬ va_A (ab_w tc (fun t => ad (ab_rho is fo w.length t)) 100 wc) H.size q → H1[q]? = H[q]?) (hP1 : va_P D vwCl (ab_w tc (fun t => ad (ab_rho is fo w.length t)) 100 w') H1) : ab_R D tc ad A s H1 locs1 (ab_put w is (w'.map (ab_rc (ab_rho is fo w.length)))) := by
  refine ⟨fun x q hx => ?_, ab_D_iff.mpr (by rw [ab_put_len]; exact ab_D_iff.mp hR.2.1), hS⟩
  rw [ab_w_at] at hx
  by_cases hin : x ∈ is
  · obtain ⟨j, hj⟩ := List.getElem?_of_mem hin
    have hjl : j < w'.length := by
      rw [hl, hf.len]
      exact (List.getElem?_eq_some_iff.mp hj).1
    have hw' : w'[j]? = some w'[j] := List.getElem?_eq_getElem hjl
    obtain ⟨i, h1, h2⟩ := hf.at (List.getElem?_eq_getElem (by rw [← hl]; exact hjl))
    have hi : i = x := Option.some.inj (h1.symm.trans hj)
    subst hi
    rw [ab_put_in is w _ hn j i _ hj (by rw [List.getElem?_map, hw']; rfl) (List.getElem?_eq_some_iff.mp h2).1] at hx
    cases hx
    have h3 := hP1 j _ (by rw [ab_w_at, hw']; rfl)
    rw [ab_rho_at hj] at h3
    have h3 : va_at D vwCl (ad (i + 100), ab_e tc (fun t => ad (ab_rho is fo w.length t)) w'[j]) H1 := h3
    rw [← ab_e_rc] at h3
    exact h3
  · rw [ab_put_out is w _ x hin] at hx
    cases hw : w[x]? with
    | none => rw [hw] at hx; cases hx
    | some cx =>
      rw [hw] at hx
      cases hx
      have h3 := hR.1 x _ (by rw [ab_w_at, hw]; rfl)
      refine h3.kept (hk _ h3.lt (fun hA => ?_))
      rcases hA with ⟨j, ce, hj⟩ | hA
      · rw [ab_w_at] at hj
        cases hc : wc[j]? with
        | none => rw [hc] at hj; cases hj
        | some cj =>
          rw [hc] at hj
          obtain ⟨i, h4, h5⟩ := hf.at hc
          have hj := congrArg Prod.fst (Option.some.inj hj)
          have hj : ad (ab_rho is fo w.length (j + 100)) = ad (x + 100) := hj
          rw [ab_rho_at h4] at hj
          have := (ab_D_iff.mp hR.2.1).1 i x (List.getElem?_eq_some_iff.mp h5).1 (List.getElem?_eq_some_iff.mp hw).1 hj
          subst this
          exact hin (List.mem_of_getElem? h4)
      · have := h3.lt
        omega
theorem ab_vl (r : Nat → Nat) (v : Option Value) : (v.map (ab_v (fun t => ad (r t)))).toList = (v.map (ab_v r)).toList.map (ab_v ad) := by
  cases v with
  | none => rfl
  | some v => show [ab_v (fun t => ad (r t)) v] = [ab_v ad (ab_v r v)]; rw [ab_v_v]
/-- G's rule behind a call that makes nothing -/
theorem ab_run {a : Array Value} {stk : List Value} (X : ab_X xo M d p l R s m args meth c D tc ad A) (hR : ab_R D tc ad A s H locs w) (hL : ab_L ad ls L) (hf : ab_fits is fo wc w) (hn : va_nd is = true) (hl : ∀ w' v, Qc w' v → w'.length = wc.length)
    (hr : va_Run p l e R s m args below meth c H locs cells slots mc ms (F0 m pc ls stk) (st.map (ab_v ad)) (ab_Q D tc (fun t => ad (ab_rho is fo w.length t)) wc H.size Qc a) (va_A (ab_w tc (fun t => ad (ab_rho is fo w.length t)) 100 wc) H.size))
    (hcc : cells + (k + mc) ≤ R.cells) (hss : slots + (n + ms) ≤ R.slots)
    (fin : ∀ (pc' : Nat) (ad' : Nat → Nat) (H' : Heap) (locs' : List Loc) (cells' slots' : Nat) (ls' : Array Slot) (w' : List ab_C) (v : Option Value),
      ab_ret M pc' v → ab_ext w ad w' ad' → ab_R D tc ad' A s H' locs' w' → cells' ≤ cells + (k + mc) → slots' ≤ slots + (n + ms) → Q w' v →
      W p l e R s m args below meth c H' locs' cells' slots' Z (F0 m pc' ls' (v.toList.map (ab_v ad'))))
    (kk : ∀ w' v, Qc w' v → G xo M d k n Q (pc + 3) L ((v.map (ab_v (ab_rho is fo w.length))).toList ++ st) (ab_put w is (w'.map (ab_rc (ab_rho is fo w.length))))) :
    W p l e R s m args below meth c H locs cells slots Z (F0 m pc ls stk) := by
  intro T hT Y
  obtain ⟨v0, st₀, t, T', LL, h0, Y', hLL, e1, e2, ⟨⟨w', adc, v, hv, hq, hx, hP1, hD1⟩, hz, hk⟩, go⟩ := hr T hT Y
  have hv := Outcome.returned.inj hv
  subst hv
  have hx := hx.2.2 (hl w' v hq)
  subst hx
  rw [h0] at hz hk
  have hA := va_free hR.2.1 hR.2.2 X.2.2.2.2.1 is (hf.ws tc ad)
  have hS : va_S A s.heap T'.heap (locs ++ LL) := ⟨Nat.le_trans hR.2.2.1 (by rw [e1]; exact hz), fun q h1 h2 => by rw [e1, hk q (Nat.lt_of_lt_of_le h1 hR.2.2.1) (fun z => h2 (hA q z))]; exact hR.2.2.2.1 q h1 h2, fun q hq => by
    rcases List.mem_append.mp hq with h | h
    · exact hR.2.2.2.2 q h
    · exact hA _ (hLL q h)⟩
  have hR1 := hR.back hf hn (hl w' v hq) hS (fun q h1 h2 => by rw [e1]; exact hk q h1 h2) (by rw [e1]; exact hP1)
  have g := kk w' v hq p l e R s m args below meth c Z D tc ad A T'.heap (locs ++ LL) (cells + mc) (slots + ms) ls X hR1 hL (by omega) (by omega)
    (fun pc' ad' H' locs' cells' slots' ls' w2 v2 a1 a2 a4 a5 a6 a7 => fin pc' ad' H' locs' cells' slots' ls' w2 v2 a1 (by simp only [ab_ext, ab_put_len] at a2 ⊢; exact a2) a4 (by omega) (by omega) a7)
  obtain ⟨t2, a1, b1⟩ := g T' rfl Y'
  refine ⟨t2, go t2 ?_, b1⟩
  rw [List.map_append, ← ab_vl] at a1
  exact a1
end ABC
