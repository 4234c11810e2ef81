/-! Caught: the law's own octet. -/
section OC
variable {p : Program} {l : Launch} {e : Env} {R : Room} {s : State} {m : MethodId} {args : Array Value} {below : List Frame} {meth : Method} {c : Code} {T : State} {locs : List _root_.Jvm.Loc} {cells slots : Nat}
/-- a table of one entry that covers the place: found, the entry's class noted -/
theorem oc_find {u : State} {f : JFrame} {a : Nat} {cd : Code} {x : ExceptionTableEntry} {cT : ClassId} {cell : Cell} {kT : Class} (hm : u.vm.method? f.method = some meth) (hc : meth.code = some cd) (ht : cd.exceptionTable.toList = [x]) (hlo : x.startPc ≤ f.pc) (hhi : f.pc < x.endPc) (h0 : x.catchType ≠ 0)
    (hl : u.vm.ClassLinks e.platform f.method.cls x.catchType cT) (hcell : u.heap[a]? = some cell) (hvm : cell.vm = .none) (hcls : cell.cls = cT) (hk : u.vm.classes[cT]? = some kT) (hfit : u.vm.assignable cT cT = true) (Q : Handler → Pre) (E : CtlPost) (dd : Bool) (acts : List Action) :
    wp (findHandler f a) Q E e dd acts u ↔ Q (.found x.handlerPc) dd acts (u.setVm (u.vm.noted f.method.cls x.catchType (.cls cT))) := by
  obtain ⟨ha, hb⟩ := (resolveClass_links e.toSetting hl).op (op := VmOp.resolveClass f.method.cls x.catchType) rfl
  have hal : u.vm.Alike (u.vm.noted f.method.cls x.catchType (.cls cT)) := (Vm.Alike.refl u.vm).noted _ _ _
  obtain ⟨k2, hk2, -⟩ := hal.2.2 _ _ hk
  have hfit2 : (u.vm.noted f.method.cls x.catchType (.cls cT)).assignable cT cT = true := by rw [hal.assignable]; exact hfit
  rw [Jvm.W.findHandler_eq hm hc, ht]
  simp [findHandler.go, hlo, hhi, h0, ha, hb, hcell, hvm, hcls, hk2, hfit2, VmOp.dirties, VmOp.acts]
theorem oc_caught (X : Stand p l e R s m args below meth c T locs cells slots) (a : Nat) {g : JFrame} (hg : g.method = m) {own name : String} (hown : s.vm.findClass own = some m.cls) {x : ExceptionTableEntry} (ht : c.exceptionTable.toList = [x]) (hlo : x.startPc ≤ g.pc) (hhi : g.pc < x.endPc) (h0 : x.catchType ≠ 0)
    (hlink : (Cond.classLink own x.catchType name).before args s = true) {cell : Cell} (hcl : s.vm.findClass name = some cell.cls) (hcell : T.heap[a]? = some cell) (hvm : cell.vm = .none) (hfit : s.vm.assignable cell.cls cell.cls = true) :
    ∃ vm', Stand p l e R s m args below meth c (T.setVm vm') locs cells slots ∧ ∀ target, Steps p.tables e below ((T.setVm vm').setTop { g with pc := x.handlerPc, stack := [.ref a] }) target → Steps p.tables e below ((T.setTop g).pushFrame (.throwing a)) target := by
  subst hg
  have hpl : e.platform.magicAccessors = ({} : Platform).magicAccessors := by rw [X.admits.platform]
  obtain ⟨cT, hcT, hlk⟩ := Cond.classLink_spec hown hlink e.platform hpl
  cases hcl.symm.trans hcT
  obtain ⟨dk, _, _, kt, hd, _, _, _, _, hkt, _, hopen⟩ := hlk.here
  have hW2 : s.WarmedH (T.vm.noted g.method.cls x.catchType (.cls cell.cls)) := X.warmed.noted hd hopen (State.rightAt_cls hlk)
  have hal := X.warmed.alike
  obtain ⟨kt2, hkt2, -⟩ := hal.2.2 _ _ hkt
  have hv : ((T.setTop g).pushFrame (.throwing a)).vm = T.vm := Stand.throwing_vm T g a
  have hh : ((T.setTop g).pushFrame (.throwing a)).heap = T.heap := Stand.throwing_heap T g a
  refine ⟨_, X.noted hW2, fun target hrest => ?_⟩
  have find := fun (Q : Handler → Pre) (E : CtlPost) (dd : Bool) (acts : List Action) => oc_find (e := e) (u := (T.setTop g).pushFrame (.throwing a)) (f := g) (a := a) (cT := cell.cls) (cell := cell) (kT := kt2) (by rw [hv]; exact X.method') X.code ht hlo hhi h0 (by rw [hv]; exact X.warmed.classLinks hlk) (by rw [hh]; exact hcell) hvm rfl (by rw [hv]; exact hkt2) (by rw [hv, hal.assignable]; exact hfit) Q E dd acts
  rw [hv] at find
  have h := X.here
  obtain ⟨hgo, hw⟩ := h.throwing (g := g) a
  refine Steps.head hgo hw ?_
  have key : (stepThrowing e ((T.setTop g).pushFrame (.throwing a)) a (.java g :: T.frames.tail)).1 = (((T.setTop g).pushFrame (.throwing a)).setVm (T.vm.noted g.method.cls x.catchType (.cls cell.cls))).setFrames (.java { g with pc := x.handlerPc, stack := [.ref a] } :: T.frames.tail) := by
    simp only [stepThrowing, searchFrame, vmDo]
    generalize hr : Sem.go _ e false [] ((T.setTop g).pushFrame (.throwing a)) = res
    obtain ⟨as, rfl, has⟩ := Sem.eq_ok_of hr (a := Handler.found x.handlerPc) (s' := ((T.setTop g).pushFrame (.throwing a)).setVm (T.vm.noted g.method.cls x.catchType (.cls cell.cls))) (acts' := []) (by simp [find _ _ _ _])
    rfl
  rw [stepThread_throwing (frames_entered h.top _), key]
  obtain ⟨g₀, hg0⟩ := Option.isSome_iff_exists.mp h.top
  obtain ⟨r, hr⟩ := State.topJava?_eq_some.mp hg0
  rw [State.setTop_of_frames _ (show (T.setVm (T.vm.noted g.method.cls x.catchType (.cls cell.cls))).frames = .java g₀ :: r from hr)] at hrest
  rw [hr, List.tail_cons, State.pushFrame, State.setTop_of_frames _ hr]
  have e9 : ∀ (u : State) (v : Vm) (F F2 F3 : List Frame), (((u.setFrames F).setFrames F2).setVm v).setFrames F3 = (u.setVm v).setFrames F3 := by
    intro u v F F2 F3
    rw [State.setFrames_setFrames]
    show ((u.setVm v).setFrames F2).setFrames F3 = _
    rw [State.setFrames_setFrames]
  rw [e9]
  exact hrest
end OC
theorem ab_R.more {D : va_G} {tc : Nat → ClassId} {ad : Nat → Nat} {A : Nat → Prop} {s : State} {H H1 : Heap} {locs : List _root_.Jvm.Loc} {w : List ab_C} (hR : ab_R D tc ad A s H locs w) (hz : H.size ≤ H1.size) (hk : ∀ q : Nat, q < H.size → H1[q]? = H[q]?) : ab_R D tc ad A s H1 locs w :=
  ⟨fun x q hx => (hR.1 x q hx).kept (hk _ (hR.1 x q hx).lt), hR.2.1, Nat.le_trans hR.2.2.1 hz, fun q h1 h2 => (hk q (Nat.lt_of_lt_of_le h1 hR.2.2.1)).trans (hR.2.2.2.1 q h1 h2), hR.2.2.2.2⟩
abbrev oc_M : ab_M := (RL, yL_octet, cL_octet, 4, some .int)
abbrev oc_h : List (Nat × Nat × Nat × Nat) := [(0, 9, 12, 13)]
theorem oc_site : ab_V oc_M mX7_octet 7 1 := ⟨zX7_octet, ⟨ab_t3 (i := 4) (by decide +kernel) (by decide +kernel), ab_t3 (i := 5) (by decide +kernel) (by decide +kernel), ab_t3 (i := 6) (by decide +kernel) (by decide +kernel)⟩, by decide⟩
theorem oc_link : Cond.classLink RL 13 oX ∈ ab_U := ab_t3 (i := 3) (by decide +kernel) (by decide +kernel)
theorem oc_code : Cond.codeWith yL_octet cL_octet 4 (some .int) oc_h ∈ ab_U := ab_t3 (i := 2) (by decide +kernel) (by decide +kernel)
theorem oc_static : Cond.static yL_octet ∈ ab_U := ab_t3 (i := 1) (by decide +kernel) (by decide +kernel)
theorem oc_law : Cond.methodLink RL 50 yL_octet ∈ ab_U := ab_t3 (i := 0) (by decide +kernel) (by decide +kernel)
theorem oc_init : Cond.initialized RL ∈ ab_U := ab_t1 (i := 0) (by decide +kernel) (by decide +kernel)
abbrev oc_tab (c : Code) : Prop := c.exceptionTable.toList.map (fun h => (h.startPc, h.endPc, h.handlerPc, h.catchType)) = oc_h
theorem oc_one {c : Code} (h : oc_tab c) : ∃ x : ExceptionTableEntry, c.exceptionTable.toList = [x] ∧ x.startPc = 0 ∧ x.endPc = 9 ∧ x.handlerPc = 12 ∧ x.catchType = 13 := by
  unfold oc_tab at h
  match hl : c.exceptionTable.toList with
  | [] => rw [hl] at h; cases h
  | [x] =>
    rw [hl] at h
    simp only [List.map_cons, List.map_nil, List.cons.injEq, Prod.mk.injEq, and_true] at h
    exact ⟨x, rfl, h⟩
  | x :: y :: r => rw [hl] at h; simp at h
section OCW
variable {xo : ab_XO} {d : Nat} {w : List ab_C} {p : Program} {l : Launch} {e : Env} {R : Room} {s : State} {m : MethodId} {args : Array Value} {below : List Frame} {meth : Method} {c : Code} {Z : State → Prop} {D : va_G} {tc : Nat → ClassId} {ad : Nat → Nat} {A : Nat → Prop} {H : Heap} {locs : List _root_.Jvm.Loc} {cells slots : Nat} {ls : Array Slot}
set_option maxHeartbeats 2000000 in
theorem oc_throws {fs : List Value} {i : Int32} {o : Nat} (hi : ¬ (0 ≤ i.toInt ∧ i.toInt < 32)) (X : ab_X xo oc_M (d + 8) p l R s m args meth c D tc ad A) (hR : ab_R D tc ad A s H locs w) (hw : w[0]? = some (.inr (8, fs))) (hls : ls.size = 4) (htab : oc_tab c) (hcc : cells + 1 ≤ R.cells) (hss : slots + 6 ≤ R.slots)
    (kk : ∀ (H1 : Heap) (x : Nat), ab_R D tc ad A s H1 locs w → W p l e R s m args below meth c H1 locs (cells + 1) (slots + 6) Z (F0 m 12 ls [.ref x])) :
    W p l e R s m args below meth c H locs cells slots Z (F0 m 4 ls [.int i, .ref (ad 100), .int 0, .ref o]) := by
  intro T hT Y
  have hml := X.1.2.2.1
  have hl := oc_site
  obtain ⟨cellB, hcB, hoB, hclB⟩ := va_recv X.2.2.2.1 hR.1 (ci := 8) (q0 := 0) (q := (RX7, TX7, 7)) (a := ad 100) (fs := fs.map (ab_v ad)) rfl (by rw [ab_w_at, hw]; rfl)
  have hy : yX7_octet.cls ≠ "java/lang/invoke/MethodHandle" ∧ yX7_octet.cls ≠ "java/lang/invoke/VarHandle" := ⟨hl.1.2.2.2.1, hl.1.2.2.2.2⟩
  obtain ⟨mk, methM, hnamed, hmethM, hstM, habM⟩ := Cond.instanceMethod_spec (X.2.2.1 _ hl.2.1.2.1)
  obtain ⟨methM', cM, hmethM', hcM, -, hlM, -, -, -, hsigM⟩ := Cond.code_spec hnamed (X.2.2.1 _ hl.1.1)
  cases hmethM.symm.trans hmethM'
  obtain ⟨c2, r2, m2, q1, q2, q3, q4, kP, hkP, hkPi⟩ := Cond.selects_spec (X.2.2.1 _ hl.2.1.2.2)
  cases hclB.symm.trans q1
  cases (State.methodFound?_of_named hnamed hy).symm.trans q2
  cases hnamed.symm.trans q3
  have hselP : selectMethod e.platform s.vm cellB.cls mk = .method mk := by rw [Launch.admits_selectMethod Y.admits]; exact q4
  have hdg : decode c.code 4 = .ok (.invokevirtual 7, 3) := by rw [X.1.2.1]; exact dL_octet_4
  have hlen : ([.int i] : List Value).length = methM.sig.parameters.length := by
    have h1 := hl.2.2
    rw [hsigM] at h1
    exact (Option.some.inj h1).symm
  obtain ⟨vm₁, X₁, hstep₁⟩ := Y.invokevirtual X.1.1 X.1.2.2.2 (X.2.2.1 _ hl.2.1.1) hnamed hmethM hstM hkP hkPi hy (a := ad 100) (cell := cellB) (by rw [hT]; exact hcB) (fun z h => by rw [h] at hoB; cases hoB) hselP hmethM habM hkP hkPi (g := F0 m 4 ls [.int i, .ref (ad 100), .int 0, .ref o]) rfl (argsL := [.int i]) (rest := [.int 0, .ref o]) hlen rfl hdg
  have hnU : (T.setVm vm₁).methodNamed? yX7_octet = some mk := X₁.named hnamed
  have hU : ∀ q ∈ ab_U, ∀ a' : Array Value, q.before a' (T.setVm vm₁) = true := fun q hq a' => word_at X₁.warmed (ab_goodU q hq).2 (X.2.2.1 q hq)
  obtain ⟨methY, cY, hmY, hcY, -, hlY, -, -, -, -⟩ := Cond.code_spec hnU (hU _ hl.1.1 #[])
  obtain ⟨kY, hkY, -⟩ := className_of_methodNamed hnU
  have hinitY : kY.init = .initialized := Cond.initialized_spec (findClass_of_methodNamed hnU) hkY (hU _ hl.1.2.1 #[])
  have hroom := X.2.2.2.2.2.1
  have hg : F0 m 4 ls [.int i, .ref (ad 100), .int 0, .ref o] = F0 m 4 ls [.int i, .ref (ad 100), .int 0, .ref o] := rfl
  have h : At (T.setVm vm₁) (F0 m 4 ls [.int 0, .ref o]).method c below := X₁.here
  have happ : (headSpec (ab_ws mX7_octet) (ab_rm (d + 7) 1 6)).appliesLoose yX7_octet e.platform ((T.setVm vm₁).calling (F0 m 4 ls [.int 0, .ref o]) mk #[.ref (ad 100), .int i]) = true :=
    Spec.appliesLoose_calling (g := F0 m 4 ls [.int 0, .ref o]) h hdg hnU hkY hinitY
      (X₁.room_calling (g := F0 m 4 ls [.int 0, .ref o]) (R' := ab_rm (d + 7) 1 6) (by show ls.size = _; rw [hls, hml]) hmY hcY hroom.1 (by rw [hlY]; show 2 * 0 + 2 + (2 + 11) + 64 * (d + 7) ≤ R.locals; omega) hcc hss)
      (atoms_intro fun q hq => by
        rcases List.mem_cons.mp hq with h1 | h1
        · rw [h1]; exact hU _ hl.1.1 _
        · exact hU _ h1 _)
  obtain ⟨mid, hmid⟩ := h.above
  have hfr : ((T.setVm vm₁).setTop (F0 m 4 ls [.int 0, .ref o])).frames = (.java (F0 m 4 ls [.int 0, .ref o]) :: mid) ++ below := by rw [State.frames_setTop' _ h.top, hmid]; rfl
  have hTT : ab_T A ((T.setVm vm₁).calling (F0 m 4 ls [.int 0, .ref o]) mk #[.ref (ad 100), .int i]) T.heap := by
    have h1 := (ab_O.calls (F0 m 4 ls [.int 0, .ref o]) mk #[.ref (ad 100), .int i] (ab_O.moved (U := T.setVm vm₁) X₁.warmed (ab_O.kept X.2.2.2.2.2.2 hR.2.2.2.1))).2.2.2.2.2
    rw [hT]
    exact h1
  obtain ⟨oo, s₂, hsteps, -, hend, hq⟩ := Steps.callFree (oT_met l hroom.2.2 d (ad 100) i hi) p X₁.admits X₁.cas X₁.clock (acts := []) hfr happ ⟨rfl, A, hTT⟩ trivial
  rw [State.frames_setTop' _ h.top, show (T.setVm vm₁).frames.tail = below from X₁.tail] at hend
  obtain ⟨x, ce, rfl, hWq, hsame, hce, hvm, hcls⟩ := hq
  obtain ⟨T', X', hWT, hsameT, ht⟩ := X₁.outOfThrown (g := F0 m 4 ls [.int 0, .ref o]) rfl hend hWq hsame
  have hheap : s₂.heap = T'.heap := by rw [ht]; exact Stand.throwing_heap _ _ _
  rw [List.append_nil] at X'
  obtain ⟨x0, hx0, e1, e2, e3, e4⟩ := oc_one htab
  have hcls2 : s.vm.findClass oX = some ce.cls := by
    have h1 : ((T.setVm vm₁).calling (F0 m 4 ls [.int 0, .ref o]) mk #[.ref (ad 100), .int i]).vm.findClass oX = s.vm.findClass oX := X₁.warmed.alike.findClass _ _
    exact h1.symm.trans hcls
  obtain ⟨vm2, X2, st2⟩ := oc_caught X' x (g := F0 m 4 ls [.int 0, .ref o]) rfl (own := RL) (name := oX) X.1.2.2.2 hx0 (by rw [e1]; exact Nat.zero_le _) (by rw [e2]; show 4 < 9; decide) (by rw [e4]; decide) (by rw [e4]; exact X.2.2.1 _ oc_link) hcls2 (by rw [← hheap]; exact hce) hvm (oT_self _ _)
  have hold : ∀ q : Nat, q < H.size → T'.heap[q]? = H[q]? := fun q hq => by
    obtain ⟨cq, h1⟩ : ∃ cq, H[q]? = some cq := ⟨_, Array.getElem?_eq_getElem hq⟩
    have h2 : T'.heap[q]? = some cq := State.sameButNew.old_cell hsameT (a := q) (by show T.heap[q]? = _; rw [hT]; exact h1)
    rw [h2, h1]
  have hz : H.size ≤ T'.heap.size := by
    have := hsameT.2.1
    rw [← hT]
    exact this
  obtain ⟨t, a1, b1⟩ := kk T'.heap x (hR.more hz hold) (T'.setVm vm2) rfl X2
  rw [e3] at st2
  refine ⟨t, hstep₁ _ (fun acts => ?_), b1⟩
  rw [doInvoke_state]
  refine hsteps.trans ?_
  rw [ht]
  exact st2 t a1
end OCW
