/-! Rules of G: fields, arrays, statics, what is made. -/
/-- a class of the worlds, by its place in vwCl -/
def ab_kc (ci : Nat) (C : String) (T : u_T) (N : Nat) (ty : Nat → FieldType) : Prop := vwCl[ci]? = some (C, T, N) ∧ (∀ w ∈ u_ws C T N, w ∈ ab_U) ∧ (∀ k, k < N → parseFieldDescriptor (T k).2.2.1 = some (ty k)) ∧ (∀ a, a < N → ∀ b, b < N → a ≠ b → (T a).2.1 ≠ (T b).2.1)
theorem ab_nar {ad : Nat → Nat} {ty : FieldType} {v : Value} (h : narrow ty v = v) : narrow ty (ab_v ad v) = ab_v ad v := by
  cases v with
  | ref k => cases ty <;> rfl
  | _ => exact h
theorem ab_fit {ad : Nat → Nat} {ty : FieldType} {v : Value} (h : fits ty v = true) : fits ty (ab_v ad v) = true := by
  cases v with
  | ref k => cases ty <;> first | rfl | exact h
  | _ => exact h
/-- tokens in scope -/
def ab_sc (N : Nat) (v : Value) : Prop := match v with
  | .ref t => t < N
  | _ => True
def ab_scC (N : Nat) (c : ab_C) : Prop := match c with
  | .inl (_, _, .inr (.inr (.inr (.inr f)))) => ∀ j t, f j = some t → t < N
  | .inl _ => True
  | .inr (_, fs) => ∀ v ∈ fs, ab_sc N v
def ab_scS (N : Nat) (L : List (Option Value)) (st : List Value) (w : List ab_C) : Prop := (∀ v, some v ∈ L → ab_sc N v) ∧ (∀ v ∈ st, ab_sc N v) ∧ ∀ c ∈ w, ab_scC N c
theorem ab_v_re {ad ad' : Nat → Nat} {N : Nat} (h : ∀ t, t < N → ad' t = ad t) {v : Value} (hv : ab_sc N v) : ab_v ad' v = ab_v ad v := by
  cases v with
  | ref k => show Value.ref (ad' k) = Value.ref (ad k); rw [h k hv]
  | _ => rfl
theorem ab_st_re {ad ad' : Nat → Nat} {N : Nat} (h : ∀ t, t < N → ad' t = ad t) {st : List Value} (hv : ∀ v ∈ st, ab_sc N v) : st.map (ab_v ad') = st.map (ab_v ad) := List.map_congr_left fun v hm => ab_v_re h (hv v hm)
theorem ab_e_re {tc : Nat → ClassId} {ad ad' : Nat → Nat} {N : Nat} (h : ∀ t, t < N → ad' t = ad t) {c : ab_C} (hv : ab_scC N c) : ab_e tc ad' c = ab_e tc ad c := by
  match c, hv with
  | .inl (t, n, .inl f), _ => rfl
  | .inl (t, n, .inr (.inl f)), _ => rfl
  | .inl (t, n, .inr (.inr (.inl f))), _ => rfl
  | .inl (t, n, .inr (.inr (.inr (.inl f)))), _ => rfl
  | .inl (t, n, .inr (.inr (.inr (.inr f)))), hv =>
    have e : (fun j => (f j).map ad') = (fun j => (f j).map ad) := by
      funext j
      cases hf : f j with
      | none => rfl
      | some q => show some (ad' q) = some (ad q); rw [h q (hv j q hf)]
    show (Sum.inl (tc t, n, .inr (.inr (.inr (.inr (fun j => (f j).map ad'))))) : va_E) = _
    rw [e]
    rfl
  | .inr (ci, fs), hv =>
    show (Sum.inr (ci, fs.map (ab_v ad')) : va_E) = .inr (ci, fs.map (ab_v ad))
    rw [ab_st_re h hv]
theorem ab_w_re {tc : Nat → ClassId} {ad ad' : Nat → Nat} {w : List ab_C} (h : ∀ t, t < w.length + 100 → ad' t = ad t) (hv : ∀ c ∈ w, ab_scC (w.length + 100) c) : ab_w tc ad' 100 w = ab_w tc ad 100 w := by
  apply List.ext_getElem?
  intro k
  rw [ab_w_at, ab_w_at]
  cases hk : w[k]? with
  | none => rfl
  | some c =>
    show some (ad' (k + 100), ab_e tc ad' c) = some (ad (k + 100), ab_e tc ad c)
    rw [h _ (by have := (List.getElem?_eq_some_iff.mp hk).1; omega), ab_e_re h (hv c (List.mem_of_getElem? hk))]
theorem ab_L.re {ad ad' : Nat → Nat} {N : Nat} {ls : Array Slot} {L : List (Option Value)} (hL : ab_L ad ls L) (h : ∀ t, t < N → ad' t = ad t) (hv : ∀ v, some v ∈ L → ab_sc N v) : ab_L ad' ls L :=
  ⟨hL.1, hL.2.1, fun i v hi => by rw [ab_v_re h (hv v (List.mem_of_getElem? hi))]; exact hL.2.2 i v hi⟩
theorem ab_X.re {xo : ab_XO} {M : ab_M} {d : Nat} {p : Program} {l : Launch} {R : Room} {s : State} {m : MethodId} {args : Array Value} {meth : Method} {c : Code} {D : va_G} {tc : Nat → ClassId} {ad ad' : Nat → Nat} {A : Nat → Prop} (X : ab_X xo M d p l R s m args meth c D tc ad A) (h : ∀ t, t < 100 → ad' t = ad t) : ab_X xo M d p l R s m args meth c D tc ad' A :=
  ⟨X.1, X.2.1, X.2.2.1, X.2.2.2.1, X.2.2.2.2.1, X.2.2.2.2.2.1, X.2.2.2.2.2.2.re h⟩
section AB
variable {xo : ab_XO} {M : ab_M} {d k n : Nat} {Q : List ab_C → Option Value → Prop} {pc : Nat} {L : List (Option Value)} {st : List Value} {w w' : List ab_C}
theorem G_get {idx ci j f N : Nat} {C : String} {T : u_T} {ty : Nat → FieldType} {fs : List Value} {v : Value} (hc : ab_kc ci C T N ty) (hd : decode M.2.2.1 pc = .ok (.getfield idx, 3)) (hl : Cond.fieldLink M.1 idx (T f).1 (T f).2.1 (T f).2.2.1 ∈ ab_U) (hf : f < N) (hw : w[j]? = some (.inr (ci, fs))) (hv : fs[f]? = some v) (kk : G xo M d k n Q (pc + 3) L (v :: st) w) : G xo M d k n Q pc L (.ref (j + 100) :: st) w := by
  intro p l e R s m args below meth c Z D tc ad A H locs cells slots ls X hR hL hcc hss fin
  exact va_get X.1.1 X.1.2.1 X.2.2.1 hc.2.1 X.1.2.2.2 X.2.2.2.1 hR.1 j (fs := fs.map (ab_v ad)) (by rw [ab_w_at, hw]; rfl) hc.1 f hf (X.2.2.1 _ hl) (fun _ h => h) (by rw [List.getElem?_map, hv]; rfl) hd (kk p l e R s m args below meth c Z D tc ad A H locs cells slots ls X hR hL hcc hss fin)
/-- how the world goes on behind a write -/
theorem ab_R.put {D : va_G} {tc : Nat → ClassId} {ad : Nat → Nat} {A : Nat → Prop} {s : State} {H : Heap} {locs : List Loc} {w : List ab_C} {j : Nat} {c : ab_C} (h1 : va_P D vwCl ((ab_w tc ad 100 w).set j (ad (j + 100), ab_e tc ad c)) H) (h2 : va_D A ((ab_w tc ad 100 w).set j (ad (j + 100), ab_e tc ad c))) (h3 : va_S A s.heap H locs) : ab_R D tc ad A s H locs (w.set j c) := by
  rw [← ab_w_set] at h1 h2
  exact ⟨h1, h2, h3⟩
theorem G_put {idx ci j f N : Nat} {C : String} {T : u_T} {ty : Nat → FieldType} {fs : List Value} {v : Value} (hc : ab_kc ci C T N ty) (hd : decode M.2.2.1 pc = .ok (.putfield idx, 3)) (hl : Cond.fieldLink M.1 idx (T f).1 (T f).2.1 (T f).2.2.1 ∈ ab_U) (hf : f < N) (hfin : (T f).2.2.2 = false) (hn : narrow (ty f) v = v) (hfit : fits (ty f) v = true) (hw : w[j]? = some (.inr (ci, fs))) (hlen : f < fs.length) (hw' : w.set j (.inr (ci, fs.set f v)) = w') (kk : G xo M d k n Q (pc + 3) L st w') : G xo M d k n Q pc L (v :: .ref (j + 100) :: st) w := by
  intro p l e R s m args below meth c Z D tc ad A H locs cells slots ls X hR hL hcc hss fin
  subst hw'
  refine va_put X.1.1 X.1.2.1 X.2.2.1 hc.2.1 ty hc.2.2.1 hc.2.2.2 X.1.2.2.2 X.2.2.2.1 hR.1 hR.2.1 hR.2.2 j (fs := fs.map (ab_v ad)) (by rw [ab_w_at, hw]; rfl) hc.1 f hf (X.2.2.1 _ hl) (fun _ h => h) hfin (hc.2.2.1 f hf) (ab_nar hn) (ab_fit hfit) (by rw [List.length_map]; exact hlen) hd (fun H1 locs1 h1 h2 h3 => ?_)
  rw [← List.map_set] at h1 h2
  exact kk p l e R s m args below meth c Z D tc ad A H1 locs1 cells slots ls X (ab_R.put (c := .inr (ci, fs.set f v)) h1 h2 h3) hL hcc hss (by simp only [ab_ext, List.length_set] at fin ⊢; exact fin)
theorem G_putF {idx ci j f N : Nat} {C : String} {T : u_T} {ty : Nat → FieldType} {fs : List Value} {v : Value} (hc : ab_kc ci C T N ty) (hd : decode M.2.2.1 pc = .ok (.putfield idx, 3)) (hl : Cond.fieldLink M.1 idx (T f).1 (T f).2.1 (T f).2.2.1 ∈ ab_U) (hf : f < N) (hfin : (T f).2.2.2 = true) (hin : M.2.1.name = "<init>") (hown : (T f).1 = M.1) (hn : narrow (ty f) v = v) (hfit : fits (ty f) v = true) (hw : w[j]? = some (.inr (ci, fs))) (hlen : f < fs.length) (hw' : w.set j (.inr (ci, fs.set f v)) = w') (kk : G xo M d k n Q (pc + 3) L st w') : G xo M d k n Q pc L (v :: .ref (j + 100) :: st) w := by
  intro p l e R s m args below meth c Z D tc ad A H locs cells slots ls X hR hL hcc hss fin
  subst hw'
  refine va_putF X.1.1 X.1.2.1 X.2.2.1 hc.2.1 ty hc.2.2.1 hc.2.2.2 X.1.2.2.2 X.2.2.2.1 hR.1 hR.2.1 hR.2.2 j (fs := fs.map (ab_v ad)) (by rw [ab_w_at, hw]; rfl) hc.1 f hf (X.2.2.1 _ hl) (fun _ h => h) hfin (X.2.1.2.2.trans hin) hown (hc.2.2.1 f hf) (ab_nar hn) (ab_fit hfit) (by rw [List.length_map]; exact hlen) hd (fun H1 locs1 h1 h2 h3 => ?_)
  rw [← List.map_set] at h1 h2
  exact kk p l e R s m args below meth c Z D tc ad A H1 locs1 cells slots ls X (ab_R.put (c := .inr (ci, fs.set f v)) h1 h2 h3) hL hcc hss (by simp only [ab_ext, List.length_set] at fin ⊢; exact fin)
theorem G_iald {j N : Nat} {f : Nat → Int32} {i : Int32} (hd : decode M.2.2.1 pc = .ok (.iaload, 1)) (hw : w[j]? = some (.inl (0, N, .inl f))) (hin : vp_in i N) (kk : G xo M d k n Q (pc + 1) L (.int (f i.toNatClampNeg) :: st) w) : G xo M d k n Q pc L (.int i :: .ref (j + 100) :: st) w := by
  intro p l e R s m args below meth c Z D tc ad A H locs cells slots ls X hR hL hcc hss fin
  exact va_iald X.1.1 X.1.2.1 X.2.2.2.1 hR.1 j 0 (cA := tc 0) (f := f) (by rw [ab_w_at, hw]; rfl) rfl hin hd (kk p l e R s m args below meth c Z D tc ad A H locs cells slots ls X hR hL hcc hss fin)
theorem G_lald {j N : Nat} {f : Nat → Int64} {i : Int32} (hd : decode M.2.2.1 pc = .ok (.laload, 1)) (hw : w[j]? = some (.inl (1, N, .inr (.inl f)))) (hin : vp_in i N) (kk : G xo M d k n Q (pc + 1) L (.long (f i.toNatClampNeg) :: st) w) : G xo M d k n Q pc L (.int i :: .ref (j + 100) :: st) w := by
  intro p l e R s m args below meth c Z D tc ad A H locs cells slots ls X hR hL hcc hss fin
  exact va_lald X.1.1 X.1.2.1 X.2.2.2.1 hR.1 j 1 (cA := tc 1) (f := f) (by rw [ab_w_at, hw]; rfl) rfl hin hd (kk p l e R s m args below meth c Z D tc ad A H locs cells slots ls X hR hL hcc hss fin)
theorem G_bald {j N : Nat} {f : Nat → Int32} {i : Int32} (hd : decode M.2.2.1 pc = .ok (.baload, 1)) (hw : w[j]? = some (.inl (2, N, .inl f))) (hin : vp_in i N) (kk : G xo M d k n Q (pc + 1) L (.int (f i.toNatClampNeg) :: st) w) : G xo M d k n Q pc L (.int i :: .ref (j + 100) :: st) w := by
  intro p l e R s m args below meth c Z D tc ad A H locs cells slots ls X hR hL hcc hss fin
  exact va_bald X.1.1 X.1.2.1 X.2.2.2.1 hR.1 j 2 (cA := tc 2) (f := f) (by rw [ab_w_at, hw]; rfl) rfl hin hd (kk p l e R s m args below meth c Z D tc ad A H locs cells slots ls X hR hL hcc hss fin)
theorem G_zald {j N : Nat} {f : Nat → Int32} {i : Int32} (hd : decode M.2.2.1 pc = .ok (.baload, 1)) (hw : w[j]? = some (.inl (3, N, .inl f))) (hin : vp_in i N) (kk : G xo M d k n Q (pc + 1) L (.int (f i.toNatClampNeg) :: st) w) : G xo M d k n Q pc L (.int i :: .ref (j + 100) :: st) w := by
  intro p l e R s m args below meth c Z D tc ad A H locs cells slots ls X hR hL hcc hss fin
  exact va_zald X.1.1 X.1.2.1 X.2.2.2.1 hR.1 j 3 (cA := tc 3) (f := f) (by rw [ab_w_at, hw]; rfl) rfl hin hd (kk p l e R s m args below meth c Z D tc ad A H locs cells slots ls X hR hL hcc hss fin)
theorem G_iast {j N : Nat} {f : Nat → Int32} {i : Int32} {x : Int32} (hd : decode M.2.2.1 pc = .ok (.iastore, 1)) (hw : w[j]? = some (.inl (0, N, .inl f))) (hin : vp_in i N) (hw' : w.set j (.inl (0, N, .inl (upd f i.toNatClampNeg x))) = w') (kk : G xo M d k n Q (pc + 1) L st w') : G xo M d k n Q pc L (.int x :: .int i :: .ref (j + 100) :: st) w := by
  intro p l e R s m args below meth c Z D tc ad A H locs cells slots ls X hR hL hcc hss fin
  subst hw'
  refine va_iast X.1.1 X.1.2.1 X.2.2.2.1 hR.1 hR.2.1 hR.2.2 j 0 (cA := tc 0) (f := f) (by rw [ab_w_at, hw]; rfl) rfl hin hd (fun H1 locs1 h1 h2 h3 => ?_)
  exact kk p l e R s m args below meth c Z D tc ad A H1 locs1 cells slots ls X (ab_R.put (c := .inl (0, N, .inl (upd f i.toNatClampNeg x))) h1 h2 h3) hL hcc hss (by simp only [ab_ext, List.length_set] at fin ⊢; exact fin)
theorem G_last {j N : Nat} {f : Nat → Int64} {i : Int32} {x : Int64} (hd : decode M.2.2.1 pc = .ok (.lastore, 1)) (hw : w[j]? = some (.inl (1, N, .inr (.inl f)))) (hin : vp_in i N) (hw' : w.set j (.inl (1, N, .inr (.inl (vp_updL f i.toNatClampNeg x)))) = w') (kk : G xo M d k n Q (pc + 1) L st w') : G xo M d k n Q pc L (.long x :: .int i :: .ref (j + 100) :: st) w := by
  intro p l e R s m args below meth c Z D tc ad A H locs cells slots ls X hR hL hcc hss fin
  subst hw'
  refine va_last X.1.1 X.1.2.1 X.2.2.2.1 hR.1 hR.2.1 hR.2.2 j 1 (cA := tc 1) (f := f) (by rw [ab_w_at, hw]; rfl) rfl hin hd (fun H1 locs1 h1 h2 h3 => ?_)
  exact kk p l e R s m args below meth c Z D tc ad A H1 locs1 cells slots ls X (ab_R.put (c := .inl (1, N, .inr (.inl (vp_updL f i.toNatClampNeg x)))) h1 h2 h3) hL hcc hss (by simp only [ab_ext, List.length_set] at fin ⊢; exact fin)
theorem G_bast {j N : Nat} {f : Nat → Int32} {i : Int32} {x : Int32} (hd : decode M.2.2.1 pc = .ok (.bastore, 1)) (hw : w[j]? = some (.inl (2, N, .inl f))) (hin : vp_in i N) (hw' : w.set j (.inl (2, N, .inl (upd f i.toNatClampNeg (vp_nar .byte x)))) = w') (kk : G xo M d k n Q (pc + 1) L st w') : G xo M d k n Q pc L (.int x :: .int i :: .ref (j + 100) :: st) w := by
  intro p l e R s m args below meth c Z D tc ad A H locs cells slots ls X hR hL hcc hss fin
  subst hw'
  refine va_bast X.1.1 X.1.2.1 X.2.2.2.1 hR.1 hR.2.1 hR.2.2 j 2 (cA := tc 2) (f := f) (by rw [ab_w_at, hw]; rfl) rfl hin hd (fun H1 locs1 h1 h2 h3 => ?_)
  exact kk p l e R s m args below meth c Z D tc ad A H1 locs1 cells slots ls X (ab_R.put (c := .inl (2, N, .inl (upd f i.toNatClampNeg (vp_nar .byte x)))) h1 h2 h3) hL hcc hss (by simp only [ab_ext, List.length_set] at fin ⊢; exact fin)
theorem G_zast {j N : Nat} {f : Nat → Int32} {i : Int32} {x : Int32} (hd : decode M.2.2.1 pc = .ok (.bastore, 1)) (hw : w[j]? = some (.inl (3, N, .inl f))) (hin : vp_in i N) (hw' : w.set j (.inl (3, N, .inl (upd f i.toNatClampNeg (vp_nar .boolean x)))) = w') (kk : G xo M d k n Q (pc + 1) L st w') : G xo M d k n Q pc L (.int x :: .int i :: .ref (j + 100) :: st) w := by
  intro p l e R s m args below meth c Z D tc ad A H locs cells slots ls X hR hL hcc hss fin
  subst hw'
  refine va_zast X.1.1 X.1.2.1 X.2.2.2.1 hR.1 hR.2.1 hR.2.2 j 3 (cA := tc 3) (f := f) (by rw [ab_w_at, hw]; rfl) rfl hin hd (fun H1 locs1 h1 h2 h3 => ?_)
  exact kk p l e R s m args below meth c Z D tc ad A H1 locs1 cells slots ls X (ab_R.put (c := .inl (3, N, .inl (upd f i.toNatClampNeg (vp_nar .boolean x)))) h1 h2 h3) hL hcc hss (by simp only [ab_ext, List.length_set] at fin ⊢; exact fin)
/-- an element of an array outside the world -/
theorem G_xald {j N : Nat} {f : Nat → Int32} {i : Int32} (hd : decode M.2.2.1 pc = .ok (.iaload, 1)) (hx : xo[j]? = some (N, f)) (hin : vp_in i N) (kk : G xo M d k n Q (pc + 1) L (.int (f i.toNatClampNeg) :: st) w) : G xo M d k n Q pc L (.int i :: .ref j :: st) w := by
  intro p l e R s m args below meth c Z D tc ad A H locs cells slots ls X hR hL hcc hss fin
  exact va_ti X.1.1 X.1.2.1 (X.2.2.2.2.2.2.1 j _ hx) hR.2.2 hin rfl hd (kk p l e R s m args below meth c Z D tc ad A H locs cells slots ls X hR hL hcc hss fin)
theorem G_xlen {j N : Nat} {f : Nat → Int32} (hd : decode M.2.2.1 pc = .ok (.arraylength, 1)) (hx : xo[j]? = some (N, f)) (kk : G xo M d k n Q (pc + 1) L (.int (Int32.ofNat N) :: st) w) : G xo M d k n Q pc L (.ref j :: st) w := by
  intro p l e R s m args below meth c Z D tc ad A H locs cells slots ls X hR hL hcc hss fin
  exact va_tlen X.1.1 X.1.2.1 (X.2.2.2.2.2.2.1 j _ hx) hR.2.2 rfl hd (kk p l e R s m args below meth c Z D tc ad A H locs cells slots ls X hR hL hcc hss fin)
theorem G_gets {j idx : Nat} {C f : String} (hd : decode M.2.2.1 pc = .ok (.getstatic idx, 3)) (hx : ab_sn[j]? = some (C, f)) (hl : Cond.fieldLink M.1 idx C f "[I" ∈ ab_U) (kk : G xo M d k n Q (pc + 3) L (.ref j :: st) w) : G xo M d k n Q pc L st w := by
  intro p l e R s m args below meth c Z D tc ad A H locs cells slots ls X hR hL hcc hss fin
  exact va_gets X.1.1 X.1.2.1 (X.2.2.2.2.2.2.2.1 j _ hx) hR.2.2 X.1.2.2.2 (X.2.2.1 _ hl) (fun _ h => h) hd (kk p l e R s m args below meth c Z D tc ad A H locs cells slots ls X hR hL hcc hss fin)
theorem ab_rf (ad : Nat → Nat) (r : Option Nat) : ab_v ad (va_rf r) = va_rf (r.map ad) := by cases r <;> rfl
theorem G_aald {j N : Nat} {f : Nat → Option Nat} {i : Int32} (hd : decode M.2.2.1 pc = .ok (.aaload, 1)) (hw : w[j]? = some (.inl (4, N, .inr (.inr (.inr (.inr f)))))) (hin : vp_in i N) (kk : G xo M d k n Q (pc + 1) L (va_rf (f i.toNatClampNeg) :: st) w) : G xo M d k n Q pc L (.int i :: .ref (j + 100) :: st) w := by
  intro p l e R s m args below meth c Z D tc ad A H locs cells slots ls X hR hL hcc hss fin
  refine va_aldq X.1.1 X.1.2.1 X.2.2.2.1 hR.1 j 4 (cA := tc 4) (C := RX0) (f := fun q => (f q).map ad) (by rw [ab_w_at, hw]; rfl) rfl hin hd ?_
  have h1 := kk p l e R s m args below meth c Z D tc ad A H locs cells slots ls X hR hL hcc hss fin
  rw [List.map_cons, ab_rf] at h1
  exact h1
theorem G_aast {j q N : Nat} {f : Nat → Option Nat} {i : Int32} {fs : List Value} (hd : decode M.2.2.1 pc = .ok (.aastore, 1)) (hw : w[j]? = some (.inl (4, N, .inr (.inr (.inr (.inr f)))))) (hq : w[q]? = some (.inr (1, fs))) (hin : vp_in i N) (hw' : w.set j (.inl (4, N, .inr (.inr (.inr (.inr (va_up f i.toNatClampNeg (some (q + 100)))))))) = w') (kk : G xo M d k n Q (pc + 1) L st w') : G xo M d k n Q pc L (.ref (q + 100) :: .int i :: .ref (j + 100) :: st) w := by
  intro p l e R s m args below meth c Z D tc ad A H locs cells slots ls X hR hL hcc hss fin
  subst hw'
  refine va_astq X.1.1 X.1.2.1 X.2.2.2.1 hR.1 hR.2.1 hR.2.2 j 4 q 1 (cA := tc 4) (r := (RX0, TX0, 6)) (vs := fs.map (ab_v ad)) (f := fun q => (f q).map ad) (by rw [ab_w_at, hw]; rfl) rfl (by rw [ab_w_at, hq]; rfl) rfl hin hd (fun H1 locs1 h1 h2 h3 => ?_)
  have ee : va_up (fun q => (f q).map ad) i.toNatClampNeg (some (ad (q + 100))) = (fun z => (va_up f i.toNatClampNeg (some (q + 100)) z).map ad) := by
    funext z
    by_cases hz : z = i.toNatClampNeg
    · simp [va_up, hz]
    · simp [va_up, hz]
  rw [ee] at h1 h2
  exact kk p l e R s m args below meth c Z D tc ad A H1 locs1 cells slots ls X (ab_R.put (c := .inl (4, N, .inr (.inr (.inr (.inr (va_up f i.toNatClampNeg (some (q + 100)))))))) h1 h2 h3) hL hcc hss (by simp only [ab_ext, List.length_set] at fin ⊢; exact fin)
/-- the rest of a state behind something made -/
theorem G_made {c0 : ab_C} {q N : Nat} {pc' : Nat} (hsc : ab_scS (w.length + 100) L st w) {p : Program} {l : Launch} {e : Env} {R : Room} {s : State} {m : MethodId} {args : Array Value} {below : List Frame} {meth : Method} {c : Code} {Z : State → Prop} {D : va_G} {tc : Nat → ClassId} {ad : Nat → Nat} {A : Nat → Prop} {H : Heap} {locs : List Loc} {cells slots : Nat} {ls : Array Slot}
    (X : ab_X xo M d p l R s m args meth c D tc ad A) (hL : ab_L ad ls L) (hcc : cells + (k + 1) ≤ R.cells) (hss : slots + (n + N) ≤ R.slots)
    (fin : ∀ (pc' : Nat) (ad' : Nat → Nat) (H' : Heap) (locs' : List Loc) (cells' slots' : Nat) (ls' : Array Slot) (w' : List ab_C) (v : Option Value),
      ab_ret M pc' v → ab_ext w ad w' ad' → ab_R D tc ad' A s H' locs' w' → cells' ≤ cells + (k + 1) → slots' ≤ slots + (n + N) → Q w' v →
      W p l e R s m args below meth c H' locs' cells' slots' Z (F0 m pc' ls' (v.toList.map (ab_v ad'))))
    (hE : ∀ f : Nat → Nat, ab_e tc f c0 = ab_e tc ad c0) (h1 : va_P D vwCl (ab_w tc ad 100 w ++ [(q, ab_e tc ad c0)]) H) (h2 : va_D A (ab_w tc ad 100 w ++ [(q, ab_e tc ad c0)])) (h3 : va_S A s.heap H locs)
    (kk : G xo M d k n Q pc' L (.ref (w.length + 100) :: st) (w ++ [c0])) : W p l e R s m args below meth c H locs (cells + 1) (slots + N) Z (F0 m pc' ls (.ref q :: st.map (ab_v ad))) := by
  have hre : ∀ t, t < w.length + 100 → va_up ad (w.length + 100) q t = ad t := fun t ht => by
    have : ¬ t = w.length + 100 := by omega
    simp [va_up, this]
  have hq : va_up ad (w.length + 100) q (w.length + 100) = q := by simp [va_up]
  have hw : ab_w tc (va_up ad (w.length + 100) q) 100 (w ++ [c0]) = ab_w tc ad 100 w ++ [(q, ab_e tc ad c0)] := by
    rw [ab_w_app, ab_w_re hre hsc.2.2]
    show _ ++ [(va_up ad (w.length + 100) q (w.length + 100), ab_e tc _ c0)] = _
    rw [hq, hE]
  have h := kk p l e R s m args below meth c Z D tc (va_up ad (w.length + 100) q) A H locs (cells + 1) (slots + N) ls (X.re (fun t ht => hre t (by omega))) ⟨by rw [hw]; exact h1, by rw [hw]; exact h2, h3⟩ (hL.re hre hsc.1) (by omega) (by omega)
    (fun pc' ad' H' locs' cells' slots' ls' w' v a1 a2 a4 a5 a6 a7 => fin pc' ad' H' locs' cells' slots' ls' w' v a1 (by
      have a3 := a2.2.1
      rw [List.length_append, List.length_singleton] at a3
      exact ⟨fun t ht => (a2.1 t (by rw [List.length_append]; omega)).trans (hre t ht), by omega, fun h => by omega⟩) a4 (by omega) (by omega) a7)
  rw [List.map_cons, ab_st_re hre hsc.2.1] at h
  have e : ab_v (va_up ad (w.length + 100) q) (.ref (w.length + 100)) = .ref q := by
    show Value.ref (va_up ad (w.length + 100) q (w.length + 100)) = .ref q
    rw [hq]
  rw [e] at h
  exact h
theorem ab_dv (f : Nat → Nat) (ty : FieldType) : ab_v f (defaultValue ty) = defaultValue ty := by cases ty <;> rfl
theorem G_new {idx ci N t : Nat} {C : String} {T : u_T} {ty : Nat → FieldType} {fs : List Value} (hc : ab_kc ci C T N ty) (hd : decode M.2.2.1 pc = .ok (.new idx, 3)) (hl : Cond.classLink M.1 idx C ∈ ab_U) (hi : Cond.instantiable C N ∈ ab_U) (hini : Cond.initialized C ∈ ab_U) (hfs : (List.range N).map (fun j => defaultValue (ty j)) = fs) (hsc : ab_scS (w.length + 100) L st w) (ht : w.length + 100 = t) (hw' : w ++ [.inr (ci, fs)] = w') (kk : G xo M d k n Q (pc + 3) L (.ref t :: st) w') : G xo M d (k + 1) (n + N) Q pc L st w := by
  intro p l e R s m args below meth c Z D tc ad A H locs cells slots ls X hR hL hcc hss fin
  subst hw'
  subst ht
  have hE : ∀ f : Nat → Nat, fs.map (ab_v f) = fs := by
    intro f
    rw [← hfs, List.map_map]
    exact List.map_congr_left fun j _ => ab_dv f _
  refine va_new X.1.1 X.1.2.1 X.2.2.1 hc.2.1 ty hc.2.2.1 X.1.2.2.2 (X.2.2.1 _ hl) (X.2.2.1 _ hi) (X.2.2.1 _ hini) X.2.2.2.1 hR.1 hR.2.1 hR.2.2 X.2.2.2.2.1 hc.1 (fs := fs) (fun j hj => by rw [← hfs]; simp [vp_V, hj]) (by omega) (by omega) hd (fun q H1 h1 h2 h3 => ?_)
  have e : ab_e tc ad (.inr (ci, fs)) = .inr (ci, fs) := by
    show (Sum.inr (ci, fs.map (ab_v ad)) : va_E) = _
    rw [hE]
  rw [← e] at h1 h2
  exact G_made hsc X hL hcc hss fin (fun f => by show (Sum.inr (ci, fs.map (ab_v f)) : va_E) = .inr (ci, fs.map (ab_v ad)); rw [hE, hE]) h1 h2 h3 kk
theorem G_newi {t N : Nat} {x : Int32} (hd : decode M.2.2.1 pc = .ok (.newarray .int, 2)) (hl : Cond.arrayClass .int ∈ ab_U) (hx : ¬ x < 0) (hN : x.toNatClampNeg = N) (hb : N * 8 ≤ 536870912) (hsc : ab_scS (w.length + 100) L st w) (ht : w.length + 100 = t) (hw' : w ++ [.inl (0, N, .inl (fun _ => 0))] = w') (kk : G xo M d k n Q (pc + 2) L (.ref t :: st) w') : G xo M d (k + 1) (n + N) Q pc L (.int x :: st) w := by
  intro p l e R s m args below meth c Z D tc ad A H locs cells slots ls X hR hL hcc hss fin
  subst hw'
  subst ht
  refine va_newa (atype := .int) (ty := .int) X.1.1 X.1.2.1 (X.2.2.1 _ hl) rfl X.2.2.2.1 hR.1 hR.2.1 hR.2.2 X.2.2.2.2.1 (a0 := (N, .inl (fun _ => 0))) (fun _ => rfl) hx hN (show N * 4 ≤ 536870912 by omega) (by omega) (by omega) hd (fun q cA H1 hK1 h1 h2 h3 => ?_)
  have e : cA = tc 0 := Option.some.inj ((va_nm_int (hK1.2 5 _ rfl).2).symm.trans (va_nm_int (hK1.2 0 _ rfl).2))
  subst e
  exact G_made (c0 := .inl (0, N, .inl (fun _ => 0))) hsc X hL hcc hss fin (fun _ => rfl) h1 h2 h3 kk
theorem G_newl {t N : Nat} {x : Int32} (hd : decode M.2.2.1 pc = .ok (.newarray .long, 2)) (hl : Cond.arrayClass .long ∈ ab_U) (hx : ¬ x < 0) (hN : x.toNatClampNeg = N) (hb : N * 8 ≤ 536870912) (hsc : ab_scS (w.length + 100) L st w) (ht : w.length + 100 = t) (hw' : w ++ [.inl (1, N, .inr (.inl (fun _ => 0)))] = w') (kk : G xo M d k n Q (pc + 2) L (.ref t :: st) w') : G xo M d (k + 1) (n + N) Q pc L (.int x :: st) w := by
  intro p l e R s m args below meth c Z D tc ad A H locs cells slots ls X hR hL hcc hss fin
  subst hw'
  subst ht
  refine va_newa (atype := .long) (ty := .long) X.1.1 X.1.2.1 (X.2.2.1 _ hl) rfl X.2.2.2.1 hR.1 hR.2.1 hR.2.2 X.2.2.2.2.1 (a0 := (N, .inr (.inl (fun _ => 0)))) (fun _ => rfl) hx hN (show N * 8 ≤ 536870912 by omega) (by omega) (by omega) hd (fun q cA H1 hK1 h1 h2 h3 => ?_)
  have e : cA = tc 1 := Option.some.inj ((va_nm_long (hK1.2 5 _ rfl).2).symm.trans (va_nm_long (hK1.2 1 _ rfl).2))
  subst e
  exact G_made (c0 := .inl (1, N, .inr (.inl (fun _ => 0)))) hsc X hL hcc hss fin (fun _ => rfl) h1 h2 h3 kk
theorem G_newb {t N : Nat} {x : Int32} (hd : decode M.2.2.1 pc = .ok (.newarray .byte, 2)) (hl : Cond.arrayClass .byte ∈ ab_U) (hx : ¬ x < 0) (hN : x.toNatClampNeg = N) (hb : N * 8 ≤ 536870912) (hsc : ab_scS (w.length + 100) L st w) (ht : w.length + 100 = t) (hw' : w ++ [.inl (2, N, .inl (fun _ => 0))] = w') (kk : G xo M d k n Q (pc + 2) L (.ref t :: st) w') : G xo M d (k + 1) (n + N) Q pc L (.int x :: st) w := by
  intro p l e R s m args below meth c Z D tc ad A H locs cells slots ls X hR hL hcc hss fin
  subst hw'
  subst ht
  refine va_newa (atype := .byte) (ty := .byte) X.1.1 X.1.2.1 (X.2.2.1 _ hl) rfl X.2.2.2.1 hR.1 hR.2.1 hR.2.2 X.2.2.2.2.1 (a0 := (N, .inl (fun _ => 0))) (fun _ => rfl) hx hN (show N * 1 ≤ 536870912 by omega) (by omega) (by omega) hd (fun q cA H1 hK1 h1 h2 h3 => ?_)
  have e : cA = tc 2 := Option.some.inj ((va_nm_byte (hK1.2 5 _ rfl).2).symm.trans (va_nm_byte (hK1.2 2 _ rfl).2))
  subst e
  exact G_made (c0 := .inl (2, N, .inl (fun _ => 0))) hsc X hL hcc hss fin (fun _ => rfl) h1 h2 h3 kk
theorem G_newz {t N : Nat} {x : Int32} (hd : decode M.2.2.1 pc = .ok (.newarray .boolean, 2)) (hl : Cond.arrayClass .boolean ∈ ab_U) (hx : ¬ x < 0) (hN : x.toNatClampNeg = N) (hb : N * 8 ≤ 536870912) (hsc : ab_scS (w.length + 100) L st w) (ht : w.length + 100 = t) (hw' : w ++ [.inl (3, N, .inl (fun _ => 0))] = w') (kk : G xo M d k n Q (pc + 2) L (.ref t :: st) w') : G xo M d (k + 1) (n + N) Q pc L (.int x :: st) w := by
  intro p l e R s m args below meth c Z D tc ad A H locs cells slots ls X hR hL hcc hss fin
  subst hw'
  subst ht
  refine va_newa (atype := .boolean) (ty := .boolean) X.1.1 X.1.2.1 (X.2.2.1 _ hl) rfl X.2.2.2.1 hR.1 hR.2.1 hR.2.2 X.2.2.2.2.1 (a0 := (N, .inl (fun _ => 0))) (fun _ => rfl) hx hN (show N * 1 ≤ 536870912 by omega) (by omega) (by omega) hd (fun q cA H1 hK1 h1 h2 h3 => ?_)
  have e : cA = tc 3 := Option.some.inj ((va_nm_boolean (hK1.2 5 _ rfl).2).symm.trans (va_nm_boolean (hK1.2 3 _ rfl).2))
  subst e
  exact G_made (c0 := .inl (3, N, .inl (fun _ => 0))) hsc X hL hcc hss fin (fun _ => rfl) h1 h2 h3 kk
theorem G_newq {idx t N : Nat} {x : Int32} (hd : decode M.2.2.1 pc = .ok (.anewarray idx, 3)) (hl : Cond.classLink M.1 idx RX0 ∈ ab_U) (hx : ¬ x < 0) (hN : x.toNatClampNeg = N) (hb : N * 4 ≤ 536870912) (hsc : ab_scS (w.length + 100) L st w) (ht : w.length + 100 = t) (hw' : w ++ [.inl (4, N, .inr (.inr (.inr (.inr (fun _ => none)))))] = w') (kk : G xo M d k n Q (pc + 3) L (.ref t :: st) w') : G xo M d (k + 1) (n + N) Q pc L (.int x :: st) w := by
  intro p l e R s m args below meth c Z D tc ad A H locs cells slots ls X hR hL hcc hss fin
  subst hw'
  subst ht
  refine va_newq X.1.1 X.1.2.1 X.1.2.2.2 (X.2.2.1 _ hl) X.2.2.2.2.2.2.2.2.2.1 X.2.2.2.1 hR.1 hR.2.1 hR.2.2 X.2.2.2.2.1 hx hN hb (by omega) (by omega) hd (fun q cA H1 hK1 h1 h2 h3 => ?_)
  obtain ⟨-, -, -, -, -, e1⟩ := (hK1.2 5 _ rfl).2
  obtain ⟨-, -, -, -, -, e2⟩ := (hK1.2 4 _ rfl).2
  have e : cA = tc 4 := Option.some.inj (e1.symm.trans e2)
  subst e
  exact G_made (c0 := .inl (4, N, .inr (.inr (.inr (.inr (fun _ => none)))))) hsc X hL hcc hss fin (fun _ => rfl) h1 h2 h3 kk
end AB
