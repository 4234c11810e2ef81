/-! The law's own octet: its contract, its call. -/
abbrev oc_ws : List Cond := Cond.codeWith yL_octet cL_octet 4 (some .int) oc_h :: ab_U
def ConW (d mc ms : Nat) (w : List ab_C) (as : List Value) (Q : List ab_C → Option Value → Prop) : Prop :=
  ∀ l : Launch, l.stackTraces = false → ∀ (D : va_G) (tc : Nat → ClassId) (ad : Nat → Nat) (sz : Nat),
    Met l yL_octet oc_ws (ab_rm d mc ms) (va_Pc (as.map (ab_v ad)) (ab_pre D tc ad w sz)) (ab_Q D tc ad w sz Q) mc ms (va_A (ab_w tc ad 100 w) sz)
/-- G at the method's entry, the exception table known -/
def GW (d k n : Nat) (Q : List ab_C → Option Value → Prop) (L : List (Option Value)) (w : List ab_C) : Prop :=
  ∀ (p : Program) (l : Launch) (e : Env) (R : Room) (s : State) (m : MethodId) (args : Array Value) (below : List Frame) (meth : Method) (c : Code) (Z : State → Prop) (D : va_G) (tc : Nat → ClassId) (ad : Nat → Nat) (A : Nat → Prop) (H : Heap) (locs : List _root_.Jvm.Loc) (cells slots : Nat) (ls : Array Slot),
    ab_X ab_x0 oc_M d p l R s m args meth c D tc ad A → ab_R D tc ad A s H locs w → ab_L ad ls L → cells + k ≤ R.cells → slots + n ≤ R.slots → oc_tab c →
    (∀ (pc' : Nat) (ad' : Nat → Nat) (H' : Heap) (locs' : List _root_.Jvm.Loc) (cells' slots' : Nat) (ls' : Array Slot) (w' : List ab_C) (v : Option Value),
      ab_ret oc_M pc' v → ab_ext w ad w' ad' → ab_R D tc ad' A s H' locs' w' → cells' ≤ cells + k → slots' ≤ slots + n → Q w' v →
      W p l e R s m args below meth c H' locs' cells' slots' Z (F0 m pc' ls' (v.toList.map (ab_v ad')))) →
    W p l e R s m args below meth c H locs cells slots Z (F0 m 0 ls [])
theorem GW.of {d k n : Nat} {Q : List ab_C → Option Value → Prop} {L : List (Option Value)} {w : List ab_C} (h : G ab_x0 oc_M d k n Q 0 L [] w) : GW d k n Q L w :=
  fun p l e R s m args below meth c Z D tc ad A H locs cells slots ls X hR hL hc hs _ fin => h p l e R s m args below meth c Z D tc ad A H locs cells slots ls X hR hL hc hs fin
set_option maxHeartbeats 4000000 in
theorem ConW.of {d mc ms : Nat} {w : List ab_C} {as : List Value} {Q : List ab_C → Option Value → Prop} (hlen : (ab_en as).length ≤ 4) (h : GW d mc ms Q (ab_ent as 4) w) : ConW d mc ms w as Q := by
  intro l hT D tc ad sz
  refine MetFree.of_bodyS (code := cL_octet) (maxLocals := 4) (ret := some .int) (by decide) ?_ ?_
  · intro args s m hh hn
    obtain ⟨m', meth, c, h0, h1, h2, h3, h4, -, h5, h6, -⟩ := Cond.codeWith_spec (atoms_spec (ws := oc_ws) hh _ List.mem_cons_self)
    cases hn.symm.trans h0
    exact ⟨meth, c, h1, h2, h3, h4, h5, h6⟩
  intro p e s m args below meth c s₁ B hml hv _
  have hh0 : s₁.heap = s.heap := by rw [B.state]; rfl
  have X0 := Stand.of_body B
  have htab : oc_tab c := by
    obtain ⟨m', meth', c', n0, n1, n2, -, -, n3, -⟩ := Cond.codeWith_spec (atoms_spec (ws := oc_ws) B.pre _ List.mem_cons_self)
    cases n0.symm.trans B.named
    cases n1.symm.trans B.method
    cases n2.symm.trans X0.code
    exact n3
  obtain ⟨rfl, rfl, hP, hK, hD0, hO⟩ := hv
  have hts := atoms_spec (ws := oc_ws) B.pre
  have hown : s.vm.findClass RL = some m.cls := findClass_of_methodNamed B.named
  have hD := hD0.self (sz := s.heap.size)
  have hl := lv_entry (as.map (ab_v ad)) (n := 4) (by rw [ab_en_len]; exact hlen)
  have key0 : W p l e (ab_rm d mc ms) s m (as.map (ab_v ad)).toArray below meth c s.heap [] 0 0 (MQ below (ab_Q D tc ad w s.heap.size Q) (as.map (ab_v ad)).toArray s mc ms (va_A (ab_w tc ad 100 w) s.heap.size)) (entryFrame m (as.map (ab_v ad)).toArray 4) := by
    rw [lg_entry_eq]
    generalize (lg_sl (as.map (ab_v ad)) ++ List.replicate (4 - (lg_sl (as.map (ab_v ad))).length) Slot.unset).toArray = ls at hl ⊢
    have hL : ab_L ad ls (ab_ent as 4) := by
      refine ⟨hl.1.trans ?_, hl.2.1, fun i v hi => ?_⟩
      · rw [ab_ent, List.length_append, List.length_replicate]
        omega
      · by_cases hi2 : i < (ab_en as).length
        · rw [ab_ent, List.getElem?_append_left hi2] at hi
          have := ab_en_at ad as 0 i v hi
          rw [Nat.zero_add] at this
          exact hl.2.2 _ this
        · rw [ab_ent, List.getElem?_append_right (by omega), List.getElem?_replicate] at hi
          split at hi <;> simp at hi
    have hA : ∀ q : Nat, s.heap.size ≤ q → va_A (ab_w tc ad 100 w) s.heap.size q := fun q h => Or.inr h
    refine h p l e (ab_rm d mc ms) s m (as.map (ab_v ad)).toArray below meth c (MQ below (ab_Q D tc ad w s.heap.size Q) (as.map (ab_v ad)).toArray s mc ms (va_A (ab_w tc ad 100 w) s.heap.size)) D tc ad (va_A (ab_w tc ad 100 w) s.heap.size) s.heap [] 0 0 ls
      ⟨⟨B.exec, B.bytes, hml, hown⟩, ⟨B.returns, B.notSynchronized, (name_of_methodNamed B.named B.method).1⟩, fun w hw => hts w (List.mem_cons_of_mem _ hw), hK, hA, ⟨Nat.le_refl _, Nat.le_refl _, hT⟩, hO⟩ ⟨hP, hD, va_S.rf⟩ hL (by show 0 + mc ≤ mc; omega) (by show 0 + ms ≤ ms; omega) htab ?_
    intro pc' ad' H' locs' cells' slots' ls' w' v hr hx hR hc hs hq
    refine W.widen (k := mc) (n := ms) (by omega) (by omega) ?_
    have hlocks := B.notSynchronized
    have key : ∀ (t : State), t.heap = H' → ab_Q D tc ad w s.heap.size Q (as.map (ab_v ad)).toArray s (.returned (v.map (ab_v ad'))) t := fun t ht =>
      ⟨⟨w', ad', v, rfl, hq, hx, by rw [ht]; exact hR.1, hR.2.1⟩, hR.2.2.F ht⟩
    match v, hr, key with
    | some (.int x), hr, key =>
      obtain ⟨hr, ty, h1, h2⟩ := hr
      exact W.zret B.exec B.bytes (B.returns.trans h1) h2 (fun t ht _ => key t ht) hR.2.2.2.2 hr
    | none, hr, key => exact absurd hr.2 (by decide)
    | some (.long x), hr, key => exact absurd hr.2 (by decide)
    | some (.ref x), hr, key => exact absurd hr.2 (fun ⟨n, h⟩ => by cases h)
    | some .null, hr, key => exact absurd hr.2 (fun ⟨n, h⟩ => by cases h)
    | some (.float x), hr, key => exact hr.elim
    | some (.double x), hr, key => exact hr.elim
    | some (.retAddr x), hr, key => exact hr.elim
  obtain ⟨t, a1, o, b1, b2, b3⟩ := key0 s₁ hh0 X0
  exact ⟨t, o, a1, b1, b2, ⟨b3.1, b3.2⟩⟩
section OCC
variable {xo : ab_XO} {M : ab_M} {d k n mc ms : Nat} {Q Qc : List ab_C → Option Value → Prop} {pc : Nat} {L : List (Option Value)} {st stk : List Value} {w wc : List ab_C} {idx : Nat} {is fo : List Nat} {as as' : List Value}
variable {p : Program} {l : Launch} {e : Env} {R : Room} {s : State} {m : MethodId} {args : Array Value} {below : List Frame} {meth : Method} {c : Code} {Z : State → Prop} {D : va_G} {tc : Nat → ClassId} {ad : Nat → Nat} {A : Nat → Prop} {H : Heap} {locs : List _root_.Jvm.Loc} {cells slots : Nat} {ls : Array Slot}
theorem oc_run (hlk : Cond.methodLink M.1 idx yL_octet ∈ ab_U) (hC : ConW d mc ms wc as Qc) (hx : ∀ (i : Nat) (q : Nat × (Nat → Int32)), ab_x0[i]? = some q → xo[i]? = some q) (hf : ab_fits is fo wc w) (hn : va_nd is = true) (has : as.map (ab_v (ab_rho is fo w.length)) = as') (hstk : as'.reverse ++ st = stk) (hna : as.length = 3) (hLl : L.length = M.2.2.2.1) (hsum : (st.map fun v => v.category).sum ≤ 8) (hd : decode M.2.2.1 pc = .ok (.invokestatic idx, 3))
    (X : ab_X xo M (d + 1) p l R s m args meth c D tc ad A) (hR : ab_R D tc ad A s H locs w) (hL : ab_L ad ls L) (hcc : cells + mc ≤ R.cells) (hss : slots + ms ≤ R.slots) :
    va_Run p l e R s m args below meth c H locs cells slots mc ms (F0 m pc ls (stk.map (ab_v ad))) (st.map (ab_v ad)) (ab_Q D tc (fun t => ad (ab_rho is fo w.length t)) wc H.size Qc (as'.map (ab_v ad)).toArray) (va_A (ab_w tc (fun t => ad (ab_rho is fo w.length t)) 100 wc) H.size) := by
  have has' : as'.map (ab_v ad) = as.map (ab_v (fun t => ad (ab_rho is fo w.length t))) := by rw [← has, ab_vv]
  have hM := hC l X.2.2.2.2.2.1.2.2 D tc (fun t => ad (ab_rho is fo w.length t)) H.size
  have hws : ∀ q ∈ oc_ws, ∀ (a' : Array Value) (U : State), s.WarmedH U.vm → q.before a' U = true := fun q hq a' U hW => by
    rcases List.mem_cons.mp hq with h | h
    · rw [h]; exact word_at hW (ab_goodU _ oc_code).2 (X.2.2.1 _ oc_code)
    · exact word_at hW (ab_goodU q h).2 (X.2.2.1 q h)
  have hroom := X.2.2.2.2.2.1
  have hK : Back l R p e below s args yL_octet 3 8 (PreOf R mc ms (va_Pc (as.map (ab_v (fun t => ad (ab_rho is fo w.length t)))) (ab_pre D tc (fun t => ad (ab_rho is fo w.length t)) wc H.size))) (PostOf (ab_Q D tc (fun t => ad (ab_rho is fo w.length t)) wc H.size Qc) mc ms (va_A (ab_w tc (fun t => ad (ab_rho is fo w.length t)) 100 wc) H.size)) := by
    refine Back.of_freeWith (handlers := oc_h) (S := headSpec oc_ws (ab_rm d mc ms)) (K := fun _ _ _ _ _ => True) (bytes := cL_octet) (maxL := 4) (ret := some .int)
      (E := fun a st o t L k n => k = mc ∧ n = ms ∧ ∀ q ∈ L, va_A (ab_w tc (fun t => ad (ab_rho is fo w.length t)) 100 wc) H.size q.base) hM hroom.1 (by show 8 + (4 + 11) + 64 * d ≤ R.locals; omega) ?_ ?_ (fun _ _ _ _ _ _ _ _ _ => trivial) ?_ ?_
    · intro m meth c A a X hp
      exact ⟨atoms_intro fun w hw => hws w hw _ _ X.warmed, hws _ List.mem_cons_self _ _ X.warmed, hws _ (List.mem_cons_of_mem _ oc_init) _ _ X.warmed, hp.1, hp.2.1⟩
    · intro m meth c A a g mk X hp
      exact ab_blind _ _ _ _ hp.2.2
    · intro a st o t ⟨hq, L, hF, hL⟩
      exact ⟨L, mc, ms, hF, rfl, rfl, hL⟩
    · intro m meth c A a g mk v t L k n X hp hq hF ⟨e1, e2, hL⟩
      subst e1; subst e2
      exact ⟨g, mk, t, L, rfl, rfl, hq.1, rfl, hL, rfl, rfl⟩
  intro T hT Y
  obtain ⟨mk, methM, cM, hnamed, hmethM, -, -, -, -, -, -, hsigM⟩ := Cond.codeWith_spec (X.2.2.1 _ oc_code)
  have hstatic : methM.isStatic = true := Cond.static_spec hnamed hmethM (X.2.2.1 _ oc_static)
  obtain ⟨kP, hkP, -⟩ := className_of_methodNamed hnamed
  have hinitP : kP.init = .initialized := Cond.initialized_spec (findClass_of_methodNamed hnamed) hkP (X.2.2.1 _ oc_init)
  have hdg : decode c.code pc = .ok (.invokestatic idx, 3) := by rw [X.1.2.1]; exact hd
  have hln : (as'.map (ab_v ad)).length = methM.sig.parameters.length := by
    have h1 : (parseMethodDescriptor yL_octet.desc).map (fun d => d.parameters.length) = some 3 := by decide
    rw [hsigM] at h1
    rw [has', List.length_map, hna]
    exact (Option.some.inj h1).symm
  obtain ⟨vm₁, X₁, hstep₁⟩ := Y.invokestatic X.1.1 X.1.2.2.2 (X.2.2.1 _ hlk) hnamed hmethM hstatic hkP hinitP ⟨by decide, by decide⟩ (g := F0 m pc ls (stk.map (ab_v ad))) rfl (argsL := as'.map (ab_v ad)) (rest := st.map (ab_v ad)) hln (by show stk.map (ab_v ad) = _; rw [← hstk, List.map_append, List.map_reverse]) hdg
  obtain ⟨v, ⟨U', l2, c2, s2⟩, X', ⟨g', mk', t, LL, e1, e2, hq, h1, hLL, h2, h3⟩, hsteps⟩ := hK m meth c ⟨T.setVm vm₁, locs, cells, slots⟩ (F0 m pc ls (st.map (ab_v ad))) (.invokestatic idx) mk (as'.map (ab_v ad)).toArray X₁ rfl (by show ls.size = _; rw [hL.1, hLl]; exact X.1.2.2.1.symm) hdg (by show 2 * 0 + ((st.map (ab_v ad)).map fun v => v.category).sum ≤ 8; rw [ab_sum]; omega) (X₁.named hnamed) ⟨hcc, hss, by rw [has'], ab_pre.of X hR hx hf hn (T.setVm vm₁) hT X₁.warmed⟩
  dsimp only [Pt.U, Pt.locs, Pt.cells, Pt.slots] at X' e1 e2 h1 h2 h3 hsteps
  subst h1; subst h2; subst h3
  exact ⟨v, (T.setVm vm₁).calling g' mk' (as'.map (ab_v ad)).toArray, t, U', LL, hT, X', hLL, e1, e2, hq, fun target h => hstep₁ _ fun acts => by rw [doInvoke_state]; exact hsteps.trans h⟩
theorem G_oc (hlk : Cond.methodLink M.1 idx yL_octet ∈ ab_U) (hC : ConW d mc ms wc as Qc) (hx : ∀ (i : Nat) (q : Nat × (Nat → Int32)), ab_x0[i]? = some q → xo[i]? = some q) (hf : ab_fits is fo wc w) (hn : va_nd is = true) (has : as.map (ab_v (ab_rho is fo w.length)) = as') (hstk : as'.reverse ++ st = stk) (hna : as.length = 3) (hLl : L.length = M.2.2.2.1) (hsum : (st.map fun v => v.category).sum ≤ 8) (hd : decode M.2.2.1 pc = .ok (.invokestatic idx, 3)) (hlen : ∀ w' v, Qc w' v → w'.length = wc.length)
    (kk : ∀ w' v, Qc w' v → G xo M (d + 1) k n Q (pc + 3) L ((v.map (ab_v (ab_rho is fo w.length))).toList ++ st) (ab_put w is (w'.map (ab_rc (ab_rho is fo w.length))))) : G xo M (d + 1) (k + mc) (n + ms) Q pc L stk w := by
  intro p l e R s m args below meth c Z D tc ad A H locs cells slots ls X hR hL hcc hss fin
  exact ab_run X hR hL hf hn hlen (oc_run hlk hC hx hf hn has hstk hna hLl hsum hd X hR hL (by omega) (by omega)) hcc hss fin kk
end OCC
abbrev oW (dg kc bv hs ro len : Int32) (nt : Nat) (K D : Nat → Int32) (s : SS) (a2 a3 a5 ag t1 t2 t3 t4 : Nat) (f : Nat → Int64) : List ab_C := [c7 0 109 a2 a3 101 a5 kc ag, .inr (6, [.ref 102, .ref t1, .ref 104, .int dg]), .inr (1, [.ref 103, .int bv, .int (nI nt), .int hs, .int ro, .ref t2]), cI 40 K, cI 8 D, .inr (7, [.ref 106, .ref 107, .int (nI s.2.2), .int len]), cI 8 s.1, cI 64 s.2.1, cL 1 f, .inr (3, [.ref 105, .ref t3, .ref t4])]
set_option maxRecDepth 20000 in
set_option maxHeartbeats 2000000 in
theorem con_Loctet (d nt : Nat) (hn : nt ≤ 40) (K D : Nat → Int32) (k : Nat → Nat) (hK : ∀ i, i < nt → K i = nI (k i) ∧ k i < 2 ^ 30) (s : SS) (len bv hs ro dg kc : Int32) (hdg : dg = 0 ∨ (dg = 1 ∧ ∀ j, j < 8 → D j = dig (fmB k nt) j)) (a2 a3 a5 ag t1 t2 t3 t4 : Nat) (f : Nat → Int64) (i : Int32) : ConW (d + 14) 1 6 (oW dg kc bv hs ro len nt K D s a2 a3 a5 ag t1 t2 t3 t4 f) [.ref 100, .int i, .ref 108] (fun w' v => (¬ (0 ≤ i.toInt ∧ i.toInt < 32) ∧ w' = oW dg kc bv hs ro len nt K D s a2 a3 a5 ag t1 t2 t3 t4 f ∧ v = some (.int 1)) ∨ ((0 ≤ i.toInt ∧ i.toInt < 32) ∧ ∃ (D2 : Nat → Int32) (s2 : SS) (l2 : Int32), w' = oW 1 kc bv hs ro l2 nt K D2 s2 a2 a3 a5 ag t1 t2 t3 t4 (vp_updL f 0 (obv (dig (fmB k nt) (i.toInt.toNat / 4)) i.toInt.toNat).toInt64) ∧ (∀ j, j < 8 → D2 j = dig (fmB k nt) j) ∧ v = some (.int 0))) := by
  by_cases hi : 0 ≤ i.toInt ∧ i.toInt < 32
  · refine ConW.of (Nat.le_of_ble_eq_true rfl) (GW.of ?_)
    obtain ⟨q, rfl, hq⟩ : ∃ q : Nat, nI q = i ∧ q < 32 := ⟨i.toInt.toNat, nI_toNat hi.1, by omega⟩
    have hqi : (nI q).toInt.toNat = q := by rw [nI_toInt (by omega)]; omega
    show G ab_x0 oc_M (d + 13 + 1) 1 6 _ 0 [some (.ref 100), some (.int (nI q)), some (.ref 108), none] [] _
    refine G_aload_n dL_octet_0 rfl ?_
    refine G_iconst (v := 0) dL_octet_1 (by decide) ?_
    refine G_aload_n dL_octet_2 rfl ?_
    refine G_iload_n dL_octet_3 rfl ?_
    refine G_V (is := [0, 1, 2, 3, 4, 5, 6, 7, 9]) (fo := [a2, a3, a5, ag, t1, t2, t3, t4]) (as := [.ref 100, .int (nI q)]) (as' := [.int (nI q)]) (st := [.int 0, .ref 108]) (k := 1) (n := 6) oc_site (con_octet (d + 9) nt hn K D k hK s len bv hs ro dg kc hdg 4 5 6 7 8 9 10 11 q hq) ab_pfx rfl (by decide) rfl rfl rfl rfl rfl rfl (Nat.le_of_ble_eq_true rfl) dL_octet_4 (fun w' v h => by obtain ⟨_, _, _, h, _⟩ := h; rw [h]; exact (rfl : (9 : Nat) = 9)) (fun w2 v2 h2 => ?_)
    obtain ⟨D2, s2, l2, rfl, hD, rfl⟩ := h2
    refine G_w (st' := [.int (obv (dig (fmB k nt) (q / 4)) q), .int 0, .ref 108]) (w' := oW 1 kc bv hs ro l2 nt K D2 s2 a2 a3 a5 ag t1 t2 t3 t4 f) rfl rfl ?_
    refine G_i2l dL_octet_7 ?_
    refine G_lastN (w' := oW 1 kc bv hs ro l2 nt K D2 s2 a2 a3 a5 ag t1 t2 t3 t4 (vp_updL f 0 (obv (dig (fmB k nt) (q / 4)) q).toInt64)) 0 dL_octet_8 rfl rfl (by decide) (by decide) rfl ?_
    refine G_goto (tgt := 15) dL_octet_9 (by decide) ?_
    refine G_iconst (v := 0) dL_octet_15 (by decide) ?_
    refine G_ret (v := some (.int 0)) ⟨dL_octet_16, .int, rfl, rfl⟩ (Or.inr ⟨hi, D2, s2, l2, ?_, hD, rfl⟩)
    rw [hqi]
  · refine ConW.of (Nat.le_of_ble_eq_true rfl) (fun p l e R st m args below meth c Z DD tc ad A H locs cells slots ls X hR hL hcc hss htab fin => ?_)
    have hL : ab_L ad ls [some (.ref 100), some (.int i), some (.ref 108), none] := hL
    refine lv_aload_n X.1.1 X.1.2.1 dL_octet_0 rfl (hL.2.2 2 _ rfl) ?_
    refine lv_iconst (v := 0) X.1.1 X.1.2.1 dL_octet_1 (by decide) ?_
    refine lv_aload_n X.1.1 X.1.2.1 dL_octet_2 rfl (hL.2.2 0 _ rfl) ?_
    refine lv_iload_n X.1.1 X.1.2.1 dL_octet_3 rfl (hL.2.2 1 _ rfl) ?_
    refine oc_throws (d := d + 6) hi X hR rfl hL.1 htab hcc hss (fun H1 x hR1 => ?_)
    refine lv_astore_n X.1.1 X.1.2.1 dL_octet_12 rfl hL.has (Nat.le_of_ble_eq_true rfl) rfl (fun ls' hl => ?_)
    refine lv_iconst (v := 1) X.1.1 X.1.2.1 dL_octet_13 (by decide) ?_
    exact fin 14 ad H1 locs (cells + 1) (slots + 6) ls' _ (some (.int 1)) ⟨dL_octet_14, .int, rfl, rfl⟩ ⟨fun t _ => rfl, Nat.le_refl _, fun _ => rfl⟩ hR1 (Nat.le_refl _) (Nat.le_refl _) (Or.inl ⟨hi, rfl, rfl⟩)
