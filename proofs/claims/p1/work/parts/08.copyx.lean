/-! System.arraycopy out of a static array; tableswitch. -/
section ABX
variable {xo : ab_XO} {M : ab_M} {d k n : Nat} {Q : List ab_C → Option Value → Prop} {pc : Nat} {L : List (Option Value)} {st : List Value} {w w1 : List ab_C} {idx : Nat}
theorem G_copyX {i j1 n0 n1 : Nat} {f g : Nat → Int32} {sp dp z : Int32} (hd : decode M.2.2.1 pc = .ok (.invokestatic idx, 3)) (hl : Cond.methodLink M.1 idx arraycopyName ∈ ab_U ∧ Cond.native arraycopyName ∈ ab_U ∧ Cond.static arraycopyName ∈ ab_U ∧ Cond.initialized "java/lang/System" ∈ ab_U) (hLl : L.length = M.2.2.2.1) (hsum : (st.map fun v => v.category).sum ≤ 8) (h0 : xo[i]? = some (n0, f)) (h1 : w[j1]? = some (.inl (0, n1, .inl g))) (hs : ¬ sp < 0) (hp : ¬ dp < 0) (hz : ¬ z < 0) (hb0 : sp.toNatClampNeg + z.toNatClampNeg ≤ n0) (hb1 : dp.toNatClampNeg + z.toNatClampNeg ≤ n1) (hw1 : w.set j1 (.inl (0, n1, .inl (va_cpy f g sp.toNatClampNeg dp.toNatClampNeg z.toNatClampNeg))) = w1) (kk : G xo M (d + 1) k n Q (pc + 3) L st w1) : G xo M (d + 1) k n Q pc L (.int z :: .int dp :: .ref (j1 + 100) :: .int sp :: .ref i :: st) w := by
  intro p l e R s m args below meth c Z D tc ad A H locs cells slots ls X hR hL hcc hss fin
  subst hw1
  have hr := X.2.2.2.2.2.1
  have nat : ∀ q : Int32, ¬ q < 0 → q.toInt = (q.toNatClampNeg : Int) := fun q hq => by
    have h := Int32.le_iff_toInt_le.mp (Int32.not_lt.mp hq)
    rw [Int32.toInt_zero] at h
    show q.toInt = ((q.toInt.toNat : Nat) : Int)
    omega
  have hlo : ((st.map (ab_v ad)).map fun v => v.category).sum + (nativeFrameWords "java/lang/System" "arraycopy" 5 + 11) ≤ R.locals := by
    have : nativeFrameWords "java/lang/System" "arraycopy" 5 ≤ 40 := by decide +kernel
    rw [ab_sum]
    omega
  obtain ⟨cs, t1, ⟨t2, k0, hk0, cm0, hkk0⟩, t3, t4, -, t6, t7⟩ := X.2.2.2.2.2.2.1 i _ h0
  have hcs : H[ad i]? = some cs := by rw [hR.2.2.2.1 _ (Array.getElem?_eq_some_iff.mp t1).1 t7]; exact t1
  have ha1 : (ab_w tc ad 100 w)[j1]? = some (ad (j1 + 100), .inl (tc 0, n1, .inl g)) := by rw [ab_w_at, h1]; rfl
  have hcd : H[ad (j1 + 100)]? = some (vp_cell (tc 0) (n1, .inl g)) := hR.1 j1 _ ha1
  have hKi : ArrOfT s (tc 0) .int := (X.2.2.2.1.2 0 _ rfl).1
  obtain ⟨-, k1, hk1, cm1, hkk1⟩ := hKi n1 (fun j => .int (g j))
  have hel : ∀ q, q < z.toNatClampNeg → cs.slots.getD (sp.toNatClampNeg + q) .null = .int (f (sp.toNatClampNeg + q)) := fun q hq => by
    rw [Array.getD_eq_getD_getElem?, t6 _ (by omega)]
    rfl
  have hcop : copied cs (vp_cell (tc 0) (n1, .inl g)) sp dp z = vp_cell (tc 0) (n1, .inl (va_cpy f g sp.toNatClampNeg dp.toNatClampNeg z.toNatClampNeg)) := va_copiedX (fun q => .int q) cs (tc 0) f g t6 hb0
  have hlt : ad (j1 + 100) < H.size := (Array.getElem?_eq_some_iff.mp hcd).1
  intro T hT Y
  obtain ⟨vm', Y', go⟩ := Y.arraycopy X.1.1 X.1.2.2.2 (X.2.2.1 _ hl.1) (X.2.2.1 _ hl.2.1) (X.2.2.1 _ hl.2.2.1) (X.2.2.1 _ hl.2.2.2) (src := ad i) (dst := ad (j1 + 100)) (cs := cs) (cd := vp_cell (tc 0) (n1, .inl g)) (srcPos := sp) (destPos := dp) (n := z) (by rw [hT]; exact hcs) (by rw [hT]; exact hcd)
    t2 (fun _ h => by cases h) t3 (fun h => by cases h) hk0 hk1 hkk0 hkk1 (by simp [refKind]) hs hp hz
    (by rw [nat sp hs, nat z hz]; omega)
    (by rw [nat dp hp, nat z hz]; show ¬ _ > ((arrV (tc 0) n1 (fun j => .int (g j))).slots.size : Int); rw [arrV_size]; omega)
    (fun vm₁ _ q hq => by
      rw [hel q hq]
      exact ⟨rfl, trivial⟩)
    (g := F0 m pc ls (.int z :: .int dp :: .ref (ad (j1 + 100)) :: .int sp :: .ref (ad i) :: st.map (ab_v ad))) rfl (by show ls.size = _; rw [hL.1, hLl, X.1.2.2.1]) (rest := st.map (ab_v ad)) rfl (by rw [X.1.2.1]; exact hd) (by omega) (by show 2 * 0 + _ + _ ≤ _; omega)
  rw [hcop] at Y' go
  have hheap : ((T.setVm vm').setCell (ad (j1 + 100)) (vp_cell (tc 0) (n1, .inl (va_cpy f g sp.toNatClampNeg dp.toNatClampNeg z.toNatClampNeg)))).heap = H.setIfInBounds (ad (j1 + 100)) (vp_cell (tc 0) (n1, .inl (va_cpy f g sp.toNatClampNeg dp.toNatClampNeg z.toNatClampNeg))) := by rw [← hT]; rfl
  have off : ∀ q : Nat, q ≠ ad (j1 + 100) → (H.setIfInBounds (ad (j1 + 100)) (vp_cell (tc 0) (n1, .inl (va_cpy f g sp.toNatClampNeg dp.toNatClampNeg z.toNatClampNeg))))[q]? = H[q]? := fun q hq => by simp [Array.getElem?_setIfInBounds, Ne.symm hq]
  have hin := hR.2.1.2 j1 _ ha1
  obtain ⟨t, a1, b1⟩ := kk p l e R s m args below meth c Z D tc ad A _ _ cells slots ls X (ab_R.put (c := .inl (0, n1, .inl (va_cpy f g sp.toNatClampNeg dp.toNatClampNeg z.toNatClampNeg))) (hR.1.set hR.2.1 ha1 (show (H.setIfInBounds (ad (j1 + 100)) (vp_cell (tc 0) (n1, .inl (va_cpy f g sp.toNatClampNeg dp.toNatClampNeg z.toNatClampNeg))))[ad (j1 + 100)]? = some (vp_cell (tc 0) (n1, .inl (va_cpy f g sp.toNatClampNeg dp.toNatClampNeg z.toNatClampNeg))) by simp [Array.getElem?_setIfInBounds, hlt]) off) (hR.2.1.set ha1) ⟨by simp; exact hR.2.2.1, fun q g1 g2 => by
      rw [off q (fun e => g2 (by rw [e]; exact hin))]
      exact hR.2.2.2.1 q g1 g2, fun q hq => by
      rcases List.mem_append.mp hq with h | h
      · exact hR.2.2.2.2 q h
      · obtain ⟨y, -, hy⟩ := List.mem_map.mp h
        rw [← hy]
        exact hin⟩) hL hcc hss (by simp only [ab_ext, List.length_set] at fin ⊢; exact fin) _ hheap Y'
  exact ⟨t, go t a1, b1⟩
theorem G_table {dflt lo hi : Int} {offs : Array Int} {len : Nat} {x : Int32} {off : Int} {tgt : Nat} (hd : decode M.2.2.1 pc = .ok (.tableswitch dflt lo hi offs, len)) (h1 : ¬ x.toInt < lo) (h2 : ¬ hi < x.toInt) (ho : offs[(x.toInt - lo).toNat]? = some off) (ht : (pc : Int) + off = (tgt : Int)) (kk : G xo M d k n Q tgt L st w) : G xo M d k n Q pc L (.int x :: st) w := by
  intro p l e R s m args below meth c Z D tc ad A H locs cells slots ls X hR hL hcc hss fin
  exact lv_tableIn X.1.1 X.1.2.1 hd h1 h2 ho ht (kk p l e R s m args below meth c Z D tc ad A H locs cells slots ls X hR hL hcc hss fin)
end ABX
