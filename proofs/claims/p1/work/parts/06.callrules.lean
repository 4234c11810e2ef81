/-! The rules of G for the kinds of calls. -/
/-- what every call needs of its callee -/
def ab_cl0 (N : ab_M) : Prop := Cond.code N.2.1 N.2.2.1 N.2.2.2.1 N.2.2.2.2 ∈ ab_U ∧ Cond.initialized N.2.1.cls ∈ ab_U ∧ N.2.2.2.1 ≤ 45 ∧ N.2.1.cls ≠ "java/lang/invoke/MethodHandle" ∧ N.2.1.cls ≠ "java/lang/invoke/VarHandle"
theorem ab_good {l : List Cond} (h : ∀ w ∈ l, w ∈ ab_U) : GoodIn ab_U l := fun w hw => ab_goodU w (h w hw)
theorem ab_wsU {N : ab_M} (h : ab_cl0 N) : ∀ w ∈ ab_ws N, w ∈ ab_U := fun w hw => by
  rcases List.mem_cons.mp hw with h1 | h1
  · rw [h1]; exact h.1
  · exact h1
theorem ab_sum (ad : Nat → Nat) (st : List Value) : ((st.map (ab_v ad)).map fun v => v.category).sum = (st.map fun v => v.category).sum := by
  rw [List.map_map]
  congr 1
  exact List.map_congr_left fun v _ => ab_cat ad v
section ABR
variable {xo : ab_XO} {M N : ab_M} {d k n mc ms : Nat} {Q Qc : List ab_C → Option Value → Prop} {pc : Nat} {L : List (Option Value)} {st stk : List Value} {w wc : List ab_C} {idx : Nat}
/-- a static method, ours or a nest mate's -/
def ab_S (M N : ab_M) (idx na : Nat) : Prop := ab_cl0 N ∧ Cond.methodLink M.1 idx N.2.1 ∈ ab_U ∧ Cond.static N.2.1 ∈ ab_U ∧ (parseMethodDescriptor N.2.1.desc).map (fun d => d.parameters.length) = some na
def ab_SN (M N : ab_M) (idx na : Nat) : Prop := ab_cl0 N ∧ Cond.methodLinkNest M.1 idx N.2.1 RX7 ∈ ab_N ∧ Cond.static N.2.1 ∈ ab_U ∧ (parseMethodDescriptor N.2.1.desc).map (fun d => d.parameters.length) = some na
def ab_V (M N : ab_M) (idx na : Nat) : Prop := ab_cl0 N ∧ (Cond.methodLink M.1 idx N.2.1 ∈ ab_U ∧ Cond.instanceMethod N.2.1 ∈ ab_U ∧ Cond.selects N.2.1.cls N.2.1 N.2.1 ∈ ab_U) ∧ (parseMethodDescriptor N.2.1.desc).map (fun d => d.parameters.length) = some na
def ab_I (M N : ab_M) (idx na : Nat) : Prop := ab_cl0 N ∧ (Cond.methodLink M.1 idx N.2.1 ∈ ab_U ∧ Cond.instanceMethod N.2.1 ∈ ab_U ∧ N.2.1.name = "<init>" ∧ N.2.2.2.2 = none) ∧ (parseMethodDescriptor N.2.1.desc).map (fun d => d.parameters.length) = some na
def ab_IN (M N : ab_M) (idx na : Nat) : Prop := ab_cl0 N ∧ (Cond.methodLinkNest M.1 idx N.2.1 RX7 ∈ ab_N ∧ Cond.instanceMethod N.2.1 ∈ ab_U ∧ N.2.1.name = "<init>" ∧ N.2.2.2.2 = none) ∧ (parseMethodDescriptor N.2.1.desc).map (fun d => d.parameters.length) = some na
variable {p : Program} {l : Launch} {e : Env} {R : Room} {s : State} {m : MethodId} {args : Array Value} {below : List Frame} {meth : Method} {c : Code} {Z : State → Prop} {D : va_G} {tc : Nat → ClassId} {ad : Nat → Nat} {A : Nat → Prop} {H : Heap} {locs : List Loc} {cells slots : Nat} {ls : Array Slot} {na : Nat}
theorem ab_vv (is fo : List Nat) (q : Nat) (as : List Value) : as.map (ab_v (fun t => ad (ab_rho is fo q t))) = (as.map (ab_v (ab_rho is fo q))).map (ab_v ad) := by
  rw [List.map_map]
  exact List.map_congr_left fun v _ => (ab_v_v ad _ v).symm
theorem ab_runS {is fo : List Nat} {as as' : List Value} (hl : ab_S M N idx na) (hC : Con N d mc ms wc as Qc) (hx : ∀ (i : Nat) (q : Nat × (Nat → Int32)), ab_x0[i]? = some q → xo[i]? = some q) (hf : ab_fits is fo wc w) (hn : va_nd is = true) (has : as.map (ab_v (ab_rho is fo w.length)) = as') (hstk : as'.reverse ++ st = stk) (hna : as.length = na) (hLl : L.length = M.2.2.2.1) (hsum : (st.map fun v => v.category).sum ≤ 8) (hd : decode M.2.2.1 pc = .ok (.invokestatic idx, 3))
    (X : ab_X xo M (d + 1) p l R s m args meth c D tc ad A) (hR : ab_R D tc ad A s H locs w) (hL : ab_L ad ls L) (hcc : cells + mc ≤ R.cells) (hss : slots + ms ≤ R.slots) :
    va_Run p l e R s m args below meth c H locs cells slots mc ms (F0 m pc ls (stk.map (ab_v ad))) (st.map (ab_v ad)) (ab_Q D tc (fun t => ad (ab_rho is fo w.length t)) wc H.size Qc (as'.map (ab_v ad)).toArray) (va_A (ab_w tc (fun t => ad (ab_rho is fo w.length t)) 100 wc) H.size) := by
  have hroom : (ab_rm d mc ms).frames + 1 ≤ R.frames ∧ 8 + (N.2.2.2.1 + 11) + (ab_rm d mc ms).locals ≤ R.locals := by
    have h1 := X.2.2.2.2.2.1
    have h2 := hl.1.2.2.1
    exact ⟨h1.1, by show 8 + (N.2.2.2.1 + 11) + 64 * d ≤ R.locals; omega⟩
  have hG : GoodIn ab_U (va_wsS M.1 idx N.2.1 (ab_ws N)) := ab_good fun w hw => by
    rcases List.mem_append.mp hw with h | h
    · simp only [List.mem_cons, List.not_mem_nil, or_false] at h
      rcases h with h | h | h <;> rw [h]
      · exact hl.2.1
      · exact hl.2.2.1
      · exact hl.1.2.1
    · exact ab_wsU hl.1 w h
  have has' : as'.map (ab_v ad) = as.map (ab_v (fun t => ad (ab_rho is fo w.length t))) := by rw [← has, ab_vv]
  exact va_runS (As := as'.map (ab_v ad)) ⟨X.1.1, X.1.2.1, X.1.2.2.1, X.1.2.2.2, X.2.2.1⟩ (hC l X.2.2.2.2.2.1.2.2 D tc (fun t => ad (ab_rho is fo w.length t)) H.size) (va_cwS na X.2.2.1 hG rfl rfl rfl ⟨hl.1.2.2.2.1, hl.1.2.2.2.2, hl.2.2.2⟩ hroom)
    ⟨ab_blind, fun U hU hW => ⟨by rw [has'], ab_pre.of X hR hx hf hn U hU hW⟩⟩ rfl (by rw [List.length_map, ← has, List.length_map]; exact hna) (by show ls.size = _; rw [hL.1, hLl]) (by show stk.map (ab_v ad) = _; rw [← hstk, List.map_append, List.map_reverse]) (lv_room (by rw [ab_sum]; exact hsum)) hd ⟨hcc, hss⟩
theorem ab_runSN {is fo : List Nat} {as as' : List Value} (hl : ab_SN M N idx na) (hC : Con N d mc ms wc as Qc) (hx : ∀ (i : Nat) (q : Nat × (Nat → Int32)), ab_x0[i]? = some q → xo[i]? = some q) (hf : ab_fits is fo wc w) (hn : va_nd is = true) (has : as.map (ab_v (ab_rho is fo w.length)) = as') (hstk : as'.reverse ++ st = stk) (hna : as.length = na) (hLl : L.length = M.2.2.2.1) (hsum : (st.map fun v => v.category).sum ≤ 8) (hd : decode M.2.2.1 pc = .ok (.invokestatic idx, 3))
    (X : ab_X xo M (d + 1) p l R s m args meth c D tc ad A) (hR : ab_R D tc ad A s H locs w) (hL : ab_L ad ls L) (hcc : cells + mc ≤ R.cells) (hss : slots + ms ≤ R.slots) :
    va_Run p l e R s m args below meth c H locs cells slots mc ms (F0 m pc ls (stk.map (ab_v ad))) (st.map (ab_v ad)) (ab_Q D tc (fun t => ad (ab_rho is fo w.length t)) wc H.size Qc (as'.map (ab_v ad)).toArray) (va_A (ab_w tc (fun t => ad (ab_rho is fo w.length t)) 100 wc) H.size) := by
  have hroom : (ab_rm d mc ms).frames + 1 ≤ R.frames ∧ 8 + (N.2.2.2.1 + 11) + (ab_rm d mc ms).locals ≤ R.locals := by
    have h1 := X.2.2.2.2.2.1
    have h2 := hl.1.2.2.1
    exact ⟨h1.1, by show 8 + (N.2.2.2.1 + 11) + 64 * d ≤ R.locals; omega⟩
  have has' : as'.map (ab_v ad) = as.map (ab_v (fun t => ad (ab_rho is fo w.length t))) := by rw [← has, ab_vv]
  exact va_runSN (As := as'.map (ab_v ad)) ⟨X.1.1, X.1.2.1, X.1.2.2.1, X.1.2.2.2, X.2.2.1⟩ (hC l X.2.2.2.2.2.1.2.2 D tc (fun t => ad (ab_rho is fo w.length t)) H.size) ⟨va_cnB na X.2.2.1 (ab_good (ab_wsU hl.1)) rfl rfl rfl (X.2.2.2.2.2.2.2.2.1 _ hl.2.1) (X.2.2.1 _ hl.1.2.1) ⟨hl.1.2.2.2.1, hl.1.2.2.2.2, hl.2.2.2⟩ hroom, X.2.2.1 _ hl.2.2.1, trivial⟩
    ⟨ab_blind, fun U hU hW => ⟨by rw [has'], ab_pre.of X hR hx hf hn U hU hW⟩⟩ rfl (by rw [List.length_map, ← has, List.length_map]; exact hna) (by show ls.size = _; rw [hL.1, hLl]) (by show stk.map (ab_v ad) = _; rw [← hstk, List.map_append, List.map_reverse]) (lv_room (by rw [ab_sum]; exact hsum)) hd ⟨hcc, hss⟩
theorem ab_runV {is fo : List Nat} {as as' : List Value} {j ci : Nat} {fs : List Value} {T : u_T} {nf : Nat} (hl : ab_V M N idx na) (hC : Con N d mc ms wc as Qc) (hx : ∀ (i : Nat) (q : Nat × (Nat → Int32)), ab_x0[i]? = some q → xo[i]? = some q) (hf : ab_fits is fo wc w) (hn : va_nd is = true) (has : as.map (ab_v (ab_rho is fo w.length)) = .ref (j + 100) :: as') (hrc : w[j]? = some (.inr (ci, fs))) (hcl : vwCl[ci]? = some (N.2.1.cls, T, nf)) (hstk : as'.reverse ++ .ref (j + 100) :: st = stk) (hna : as.length = na + 1) (hLl : L.length = M.2.2.2.1) (hsum : (st.map fun v => v.category).sum ≤ 8) (hd : decode M.2.2.1 pc = .ok (.invokevirtual idx, 3))
    (X : ab_X xo M (d + 1) p l R s m args meth c D tc ad A) (hR : ab_R D tc ad A s H locs w) (hL : ab_L ad ls L) (hcc : cells + mc ≤ R.cells) (hss : slots + ms ≤ R.slots) :
    va_Run p l e R s m args below meth c H locs cells slots mc ms (F0 m pc ls (stk.map (ab_v ad))) (st.map (ab_v ad)) (ab_Q D tc (fun t => ad (ab_rho is fo w.length t)) wc H.size Qc (.ref (ad (j + 100)) :: as'.map (ab_v ad)).toArray) (va_A (ab_w tc (fun t => ad (ab_rho is fo w.length t)) 100 wc) H.size) := by
  have hroom : (ab_rm d mc ms).frames + 1 ≤ R.frames ∧ 8 + (N.2.2.2.1 + 11) + (ab_rm d mc ms).locals ≤ R.locals := by
    have h1 := X.2.2.2.2.2.1
    have h2 := hl.1.2.2.1
    exact ⟨h1.1, by show 8 + (N.2.2.2.1 + 11) + 64 * d ≤ R.locals; omega⟩
  have hG : GoodIn ab_U (wsV M.1 idx N.2.1.cls N.2.1 (ab_ws N)) := ab_good fun w hw => by
    rcases List.mem_append.mp hw with h | h
    · simp only [List.mem_cons, List.not_mem_nil, or_false] at h
      rcases h with h | h | h | h <;> rw [h]
      · exact hl.2.1.1
      · exact hl.2.1.2.1
      · exact hl.2.1.2.2
      · exact hl.1.2.1
    · exact ab_wsU hl.1 w h
  have has' : as.map (ab_v (fun t => ad (ab_rho is fo w.length t))) = .ref (ad (j + 100)) :: as'.map (ab_v ad) := by rw [ab_vv, has]; rfl
  have hlen : as'.length = na := by
    have := congrArg List.length has
    rw [List.length_map, List.length_cons] at this
    omega
  exact va_runV (As := as'.map (ab_v ad)) (b := ad (j + 100)) ⟨X.1.1, X.1.2.1, X.1.2.2.1, X.1.2.2.2, X.2.2.1⟩ (hC l X.2.2.2.2.2.1.2.2 D tc (fun t => ad (ab_rho is fo w.length t)) H.size) (cwV na X.2.2.1 hG rfl rfl rfl ⟨rfl, hl.1.2.2.2.1, hl.1.2.2.2.2, hl.2.2⟩ hroom)
    ⟨ab_blind, va_recv X.2.2.2.1 hR.1 (ci := ci) (q0 := j) (fs := fs.map (ab_v ad)) hcl (by rw [ab_w_at, hrc]; rfl), fun U hU hW => ⟨by rw [has'], ab_pre.of X hR hx hf hn U hU hW⟩⟩ rfl (by rw [List.length_map]; exact hlen) (by show ls.size = _; rw [hL.1, hLl]) (by show stk.map (ab_v ad) = _; rw [← hstk, List.map_append, List.map_reverse]; rfl) (lv_room (by rw [ab_sum]; exact hsum)) hd ⟨hcc, hss⟩
theorem ab_runI {is fo : List Nat} {as as' : List Value} {j : Nat} (hl : ab_I M N idx na) (hC : Con N d mc ms wc as Qc) (hx : ∀ (i : Nat) (q : Nat × (Nat → Int32)), ab_x0[i]? = some q → xo[i]? = some q) (hf : ab_fits is fo wc w) (hn : va_nd is = true) (has : as.map (ab_v (ab_rho is fo w.length)) = .ref (j + 100) :: as') (hstk : as'.reverse ++ .ref (j + 100) :: st = stk) (hna : as.length = na + 1) (hLl : L.length = M.2.2.2.1) (hsum : (st.map fun v => v.category).sum ≤ 8) (hd : decode M.2.2.1 pc = .ok (.invokespecial idx, 3))
    (X : ab_X xo M (d + 1) p l R s m args meth c D tc ad A) (hR : ab_R D tc ad A s H locs w) (hL : ab_L ad ls L) (hcc : cells + mc ≤ R.cells) (hss : slots + ms ≤ R.slots) :
    va_Run p l e R s m args below meth c H locs cells slots mc ms (F0 m pc ls (stk.map (ab_v ad))) (st.map (ab_v ad)) (ab_Q D tc (fun t => ad (ab_rho is fo w.length t)) wc H.size Qc (.ref (ad (j + 100)) :: as'.map (ab_v ad)).toArray) (va_A (ab_w tc (fun t => ad (ab_rho is fo w.length t)) 100 wc) H.size) := by
  have hroom : (ab_rm d mc ms).frames + 1 ≤ R.frames ∧ 8 + (N.2.2.2.1 + 11) + (ab_rm d mc ms).locals ≤ R.locals := by
    have h1 := X.2.2.2.2.2.1
    have h2 := hl.1.2.2.1
    exact ⟨h1.1, by show 8 + (N.2.2.2.1 + 11) + 64 * d ≤ R.locals; omega⟩
  have has' : as.map (ab_v (fun t => ad (ab_rho is fo w.length t))) = .ref (ad (j + 100)) :: as'.map (ab_v ad) := by rw [ab_vv, has]; rfl
  have hlen : as'.length = na := by
    have := congrArg List.length has
    rw [List.length_map, List.length_cons] at this
    omega
  have hCl := hC l X.2.2.2.2.2.1.2.2 D tc (fun t => ad (ab_rho is fo w.length t)) H.size
  have hG := ab_good (ab_wsU hl.1)
  unfold ab_ws at hCl hG
  rw [hl.2.1.2.2.2] at hCl hG
  exact va_runI (As := as'.map (ab_v ad)) (b := ad (j + 100)) ⟨X.1.1, X.1.2.1, X.1.2.2.1, X.1.2.2.2, X.2.2.1⟩ hCl (cwI na X.2.2.1 hG rfl rfl rfl (X.2.2.1 _ hl.1.2.1) (X.2.2.1 _ hl.2.1.1) (X.2.2.1 _ hl.2.1.2.1) hl.2.1.2.2.1 ⟨hl.1.2.2.2.1, hl.1.2.2.2.2, hl.2.2⟩ hroom)
    ⟨ab_blind, fun U hU hW => ⟨by rw [has'], ab_pre.of X hR hx hf hn U hU hW⟩⟩ rfl (by rw [List.length_map]; exact hlen) (by show ls.size = _; rw [hL.1, hLl]) (by show stk.map (ab_v ad) = _; rw [← hstk, List.map_append, List.map_reverse]; rfl) (lv_room (by rw [ab_sum]; exact hsum)) hd ⟨hcc, hss⟩
theorem ab_runIN {is fo : List Nat} {as as' : List Value} {j : Nat} (hl : ab_IN M N idx na) (hC : Con N d mc ms wc as Qc) (hx : ∀ (i : Nat) (q : Nat × (Nat → Int32)), ab_x0[i]? = some q → xo[i]? = some q) (hf : ab_fits is fo wc w) (hn : va_nd is = true) (has : as.map (ab_v (ab_rho is fo w.length)) = .ref (j + 100) :: as') (hstk : as'.reverse ++ .ref (j + 100) :: st = stk) (hna : as.length = na + 1) (hLl : L.length = M.2.2.2.1) (hsum : (st.map fun v => v.category).sum ≤ 8) (hd : decode M.2.2.1 pc = .ok (.invokespecial idx, 3))
    (X : ab_X xo M (d + 1) p l R s m args meth c D tc ad A) (hR : ab_R D tc ad A s H locs w) (hL : ab_L ad ls L) (hcc : cells + mc ≤ R.cells) (hss : slots + ms ≤ R.slots) :
    va_Run p l e R s m args below meth c H locs cells slots mc ms (F0 m pc ls (stk.map (ab_v ad))) (st.map (ab_v ad)) (ab_Q D tc (fun t => ad (ab_rho is fo w.length t)) wc H.size Qc (.ref (ad (j + 100)) :: as'.map (ab_v ad)).toArray) (va_A (ab_w tc (fun t => ad (ab_rho is fo w.length t)) 100 wc) H.size) := by
  have hroom : (ab_rm d mc ms).frames + 1 ≤ R.frames ∧ 8 + (N.2.2.2.1 + 11) + (ab_rm d mc ms).locals ≤ R.locals := by
    have h1 := X.2.2.2.2.2.1
    have h2 := hl.1.2.2.1
    exact ⟨h1.1, by show 8 + (N.2.2.2.1 + 11) + 64 * d ≤ R.locals; omega⟩
  have has' : as.map (ab_v (fun t => ad (ab_rho is fo w.length t))) = .ref (ad (j + 100)) :: as'.map (ab_v ad) := by rw [ab_vv, has]; rfl
  have hlen : as'.length = na := by
    have := congrArg List.length has
    rw [List.length_map, List.length_cons] at this
    omega
  have hCl := hC l X.2.2.2.2.2.1.2.2 D tc (fun t => ad (ab_rho is fo w.length t)) H.size
  have hG := ab_good (ab_wsU hl.1)
  unfold ab_ws at hCl hG
  rw [hl.2.1.2.2.2] at hCl hG
  exact va_runIN (As := as'.map (ab_v ad)) (b := ad (j + 100)) ⟨X.1.1, X.1.2.1, X.1.2.2.1, X.1.2.2.2, X.2.2.1⟩ hCl ⟨va_cnB na X.2.2.1 hG rfl rfl rfl (X.2.2.2.2.2.2.2.2.1 _ hl.2.1.1) (X.2.2.1 _ hl.1.2.1) ⟨hl.1.2.2.2.1, hl.1.2.2.2.2, hl.2.2⟩ hroom, hl.2.1.2.2.1, X.2.2.1 _ hl.2.1.2.1⟩
    ⟨ab_blind, fun U hU hW => ⟨by rw [has'], ab_pre.of X hR hx hf hn U hU hW⟩⟩ rfl (by rw [List.length_map]; exact hlen) (by show ls.size = _; rw [hL.1, hLl]) (by show stk.map (ab_v ad) = _; rw [← hstk, List.map_append, List.map_reverse]; rfl) (lv_room (by rw [ab_sum]; exact hsum)) hd ⟨hcc, hss⟩
theorem ab_pfx : ∀ (i : Nat) (q : Nat × (Nat → Int32)), ab_x0[i]? = some q → ab_x0[i]? = some q := fun _ _ h => h
end ABR
