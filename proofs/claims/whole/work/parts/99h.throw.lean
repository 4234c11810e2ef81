/-! CanonNames.octet's throw, and the law's own octet, which catches it. -/
abbrev oX : String := "java/lang/ArrayIndexOutOfBoundsException"
abbrev oUp : List String := ["java/lang/IndexOutOfBoundsException", "java/lang/RuntimeException", "java/lang/Exception"]
theorem oT_link : Cond.classLink RX7 128 oX ∈ ab_U := ab_t3 (i := 8) (by decide +kernel) (by decide +kernel)
theorem oT_inst : Cond.instantiable oX 6 ∈ ab_U := ab_t3 (i := 9) (by decide +kernel) (by decide +kernel)
theorem oT_init : Cond.initialized oX ∈ ab_U := ab_t1 (i := 16) (by decide +kernel) (by decide +kernel)
abbrev oT_x : List Cond := [.laysStatic "java/lang/Throwable" "UNASSIGNED_STACK" "[Ljava/lang/StackTraceElement;", .laysStatic "java/lang/Throwable" "SUPPRESSED_SENTINEL" "Ljava/util/List;", .isRef (.static "java/lang/Throwable" "UNASSIGNED_STACK" "[Ljava/lang/StackTraceElement;"), .isRef (.static "java/lang/Throwable" "SUPPRESSED_SENTINEL" "Ljava/util/List;"), .castable oX oX, .declares (Bundle.initS "java/lang/IndexOutOfBoundsException"), .declares (Bundle.initS "java/lang/RuntimeException"), .declares (Bundle.initS "java/lang/Exception"), .declares (Bundle.initS "java/lang/Throwable")]
theorem oT_words : ∀ a ∈ Bundle.ownAtoms RX7 132 oX oUp, a ∈ ab_U ∨ a ∈ oT_x := by decide +kernel
theorem oT_ups : (Cond.instanceMethod (Bundle.initS "java/lang/IndexOutOfBoundsException") ∈ ab_U ∧ Cond.code (Bundle.initS "java/lang/IndexOutOfBoundsException") Bundle.six 2 none ∈ ab_U) ∧ (Cond.instanceMethod (Bundle.initS "java/lang/RuntimeException") ∈ ab_U ∧ Cond.code (Bundle.initS "java/lang/RuntimeException") Bundle.six 2 none ∈ ab_U) ∧ (Cond.instanceMethod (Bundle.initS "java/lang/Exception") ∈ ab_U ∧ Cond.code (Bundle.initS "java/lang/Exception") Bundle.six 2 none ∈ ab_U) ∧ (Cond.instanceMethod (Bundle.initS "java/lang/Throwable") ∈ ab_U ∧ Cond.code (Bundle.initS "java/lang/Throwable") Jvm.LibCode.Throwable.InitS.code 2 none ∈ ab_U) := by decide +kernel
theorem oT_lays {args : Array Value} {s : State} {C n d : String} {A : Nat → Prop} (h : ab_Ls C n d A s s.heap) : (Cond.laysStatic C n d).before args s = true ∧ (Cond.isRef (.static C n d)).before args s = true := by
  obtain ⟨cf, kf, fi, f, a, cell, v, h0, h1, h2, h3, h4, h5, h6, h7, h8, h9, h10⟩ := h
  have hlt : f.slot < cell.slots.size := (Array.getElem?_eq_some_iff.mp h7).1
  have ev : (Term.static C n d).eval args s none [] s = some v := by simp [Term.eval, State.fieldNamed?, h1, h2, h3, h4, h5, h7]
  refine ⟨?_, ?_⟩
  · simp [Cond.before, Cond.holds, Cond.value, h0, h1, h2, h3, h4, h5, h6, hlt, h9]
  · rcases h8 with rfl | ⟨t, rfl⟩ <;> simp [Cond.before, Cond.holds, Cond.value, ev]
theorem oT_decl {args : Array Value} {s : State} {y : MethodName} {bytes : ByteArray} {n : Nat} (h1 : (Cond.instanceMethod y).before args s = true) (h2 : (Cond.code y bytes n none).before args s = true) : (Cond.declares y).before args s = true := by
  obtain ⟨m, meth, hn, hm, hst, -⟩ := Cond.instanceMethod_spec h1
  obtain ⟨meth', c, hm', -, -, -, -, -, -, hsig⟩ := Cond.code_spec hn h2
  cases hm.symm.trans hm'
  simp [Cond.before, Cond.holds, Cond.value, hn, hm, hst, hsig]
theorem oT_self (vm : Vm) (c : ClassId) : vm.assignable c c = true := by
  unfold Vm.assignable
  rw [Vm.assignableAux]
  simp
theorem oT_cast {args : Array Value} {s : State} (h : (Cond.instantiable oX 6).before args s = true) : (Cond.castable oX oX).before args s = true := by
  obtain ⟨c, k, hc, -⟩ := Cond.instantiable_spec h
  simp [Cond.before, Cond.holds, Cond.value, hc, oT_self]
theorem oT_all {args : Array Value} {s : State} {A : Nat → Prop} (hU : ∀ w ∈ ab_U, w.before args s = true) (hT : ab_T A s s.heap) : ∀ a ∈ Bundle.ownAtoms RX7 132 oX oUp, a.before args s = true := by
  intro a ha
  obtain ⟨⟨a1, a2⟩, ⟨b1, b2⟩, ⟨c1, c2⟩, d1, d2⟩ := oT_ups
  rcases oT_words a ha with h | h
  · exact hU a h
  · simp only [List.mem_cons, List.not_mem_nil, or_false] at h
    rcases h with rfl | rfl | rfl | rfl | rfl | rfl | rfl | rfl | rfl
    · exact (oT_lays hT.1).1
    · exact (oT_lays hT.2.1).1
    · exact (oT_lays hT.1).2
    · exact (oT_lays hT.2.1).2
    · exact oT_cast (hU _ oT_inst)
    · exact oT_decl (hU _ a1) (hU _ a2)
    · exact oT_decl (hU _ b1) (hU _ b2)
    · exact oT_decl (hU _ c1) (hU _ c2)
    · exact oT_decl (hU _ d1) (hU _ d2)
/-- octet is called with so little -/
def oT_P (b : Nat) (i : Int32) : Array Value → State → Prop := fun a s => a = #[.ref b, .int i] ∧ ∃ A : Nat → Prop, ab_T A s s.heap
/-- how its throw ends: one new cell, nothing else -/
def oT_Q : Array Value → State → Outcome → State → Prop := fun _ st o t => ∃ (x : Nat) (ce : Cell), o = .threw x ∧ st.WarmedH t.vm ∧ st.sameButNew ({ t with vm := st.vm } : State) [] 1 6 ∧ t.heap[x]? = some ce ∧ ce.vm = .none ∧ st.vm.findClass oX = some ce.cls
set_option maxRecDepth 20000 in
theorem oT_met (l : Launch) (hT : l.stackTraces = false) (d b : Nat) (i : Int32) (hi : ¬ (0 ≤ i.toInt ∧ i.toInt < 32)) : MetFree l yX7_octet (headSpec (ab_ws mX7_octet) (ab_rm (d + 7) 1 6)) (oT_P b i) (fun _ _ _ _ _ => True) oT_Q := by
  refine MetFree.of_bodyS (code := cX7_octet) (maxLocals := 2) (ret := some .byte) (by decide) ?_ ?_
  · intro args s m h hn
    obtain ⟨meth, c, h1, h2, h3, h4, h5, h6, -, -⟩ := Cond.code_spec hn (atoms_spec (ws := ab_ws mX7_octet) h _ List.mem_cons_self)
    exact ⟨meth, c, h1, h2, h3, h4, h5, h6⟩
  · intro p e s m args below meth c s₁ B hml hP _
    obtain ⟨rfl, A, hTT⟩ := hP
    obtain ⟨sa, hk⟩ := hTT.2.2
    have hts := atoms_spec (ws := ab_ws mX7_octet) B.pre
    have hU : ∀ w ∈ ab_U, w.before #[.ref b, .int i] s = true := fun w hw => hts w (List.mem_cons_of_mem _ hw)
    have hcodeV := hts _ List.mem_cons_self
    have hown : s.vm.findClass RX7 = some m.cls := findClass_of_methodNamed B.named
    have hW9 := oT_all hU hTT
    have X₀ := Stand.of_body B
    have htr : e.platform.stackTraces = false := by rw [X₀.admits.platform]; exact hT
    have hheap : s₁.heap = s.heap := by rw [B.state]; rfl
    obtain ⟨vm₁, cX, kX, hfX, hkX, -, -, X₁, st1⟩ := X₀.newCold B.exec (own := RX7) (C := oX) (index := 128) (n := 6) hown (hU _ oT_link) (hU _ oT_inst) (hU _ oT_init)
      (g := { method := m, pc := 10, locals := #[.val (.ref b), .val (.int i)], stack := [], locked := none }) rfl (by rw [B.bytes]; exact dX7_octet_10) (by show 0 + 1 ≤ 1; omega) (by show 0 + 6 ≤ 6; omega)
    generalize hT9 : (s₁.setVm vm₁).pushCell { cls := cX, slots := kX.instanceTypes.map defaultValue, vm := .none } = T at X₁ st1
    have hcellA : T.heap[s₁.heap.size]? = some (freshCell cX kX) := by rw [← hT9]; exact State.heap_pushCell_size _ _
    obtain ⟨U, hsteps, hrun, hend, hWU, hsame, ce, hce, KO⟩ := X₁.ctorThrowS B.exec htr (own := RX7) (cls := oX) (names := oUp) (ic := 132) hown (by decide +kernel) (by decide +kernel)
      hW9 (fun y hy => by cases hy) hfX hkX hcellA (by rw [hheap]; exact Nat.le_refl _) (msg := .ref sa) rfl
      (g := { method := m, pc := 16, locals := #[.val (.ref b), .val (.int i)], stack := [.ref sa, .ref s₁.heap.size, .ref s₁.heap.size], locked := none }) rfl (by rw [hml]; rfl) rfl rfl (rest := []) rfl
      (by rw [B.bytes]; exact dX7_octet_16) (by rw [B.bytes]; exact dX7_octet_19) (covers_of_empty (B.noHandlers hcodeV) _) (by show 3 + 3 < d + 7; omega) (by show 2 * 0 + 1 + (13 * (3 + 1) + 42) ≤ 64 * (d + 7); omega)
    have fin : Steps p.tables e below (s₁.setTop { method := m, pc := 10, locals := #[.val (.ref b), .val (.int i)], stack := [], locked := none }) U := by
      refine st1 _ ?_
      show Steps p.tables e below (T.setTop { method := m, pc := 13, locals := #[.val (.ref b), .val (.int i)], stack := [.ref s₁.heap.size], locked := none }) _
      jvm_step X₁.here [X₁.here.top, B.exec, B.bytes, dX7_octet_13, Value.category]
      exact X₁.ldcString B.exec (own := RX7) (text := "there are octets 0 .. 31 only") (index := 130) (a := sa) hown hk.1 hk.2 (g := { method := m, pc := 14, locals := #[.val (.ref b), .val (.int i)], stack := [.ref s₁.heap.size, .ref s₁.heap.size], locked := none }) rfl (by rw [B.bytes]; exact dX7_octet_14) _ hsteps
    refine ⟨U, .threw s₁.heap.size, ?_, hrun, hend, s₁.heap.size, ce, rfl, hWU, hsame, hce, KO.vm, KO.cls⟩
    show Steps p.tables e below (s₁.setTop { method := m, pc := 0, locals := #[.val (.ref b), .val (.int i)], stack := [], locked := none }) _
    jvm_step B.here [B.exec, B.bytes, dX7_octet_0]
    by_cases h0 : i < 0
    · jvm_step B.here [B.exec, B.bytes, dX7_octet_1, ifCond.wp_sem, ifCond.holds, h0]
      exact fin
    · have h32 : ¬ i < 32 := fun h => hi ⟨by rw [Int32.lt_iff_toInt_lt] at h0; exact Int.not_lt.mp h0, by rw [Int32.lt_iff_toInt_lt] at h; exact h⟩
      jvm_step B.here [B.exec, B.bytes, dX7_octet_1, ifCond.wp_sem, ifCond.holds, h0]
      jvm_step B.here [B.exec, B.bytes, dX7_octet_4]
      jvm_step B.here [B.exec, B.bytes, dX7_octet_5]
      jvm_step B.here [B.exec, B.bytes, dX7_octet_7, if_icmp.wp_sem, if_icmp.holds, h32]
      exact fin
