/-! From the claim's start to the law's walk. -/
theorem ws_ty {args : Array Value} {s : State} {ty : FieldType} (h : (Cond.arrayClass ty).before args s = true) : ∃ cA : ClassId, ArrOfT s cA ty ∧ s.vm.findClass ("[" ++ ty.toString) = some cA := by
  obtain ⟨cA, kA, comp, h1, h2, h3⟩ := Cond.arrayClass_spec h
  exact ⟨cA, fun n z => ⟨(fun k h => by cases h), kA, h2, comp, h3⟩, h1⟩
theorem ws_tq {args : Array Value} {s : State} {C : String} (h : (Cond.arrayOver (.object C)).before args s = true) : ∃ cA : ClassId, ArrOfT s cA (.object C) ∧ va_RA s cA (.object C) := by
  obtain ⟨comp, cA, kA, f4, -, f2, f3, f1⟩ := Cond.arrayOver_spec h
  exact ⟨cA, fun n z => ⟨(fun k h => by cases h), kA, f2, comp, f3⟩, kA, comp, f2, f3, f4, f1⟩
theorem ws_ls {args : Array Value} {s : State} {C n d : String} {A : Nat → Prop} (hl : (Cond.laysStatic C n d).before args s = true) (h : (Cond.isRef (.static C n d)).before args s = true) (hA : ∀ a : Nat, a < s.heap.size → ¬ A a) : ab_Ls C n d A s s.heap := by
  obtain ⟨c, k, i, f, a, cell, hc, hi, hst, ha, hcell, hs, hcls, hlt, hty⟩ := Cond.laysStatic_spec hl
  have hna := hA a (Array.getElem?_eq_some_iff.mp hcell).1
  cases hv : (Term.static C n d).eval args s none [] s with
  | none => simp [Cond.before, Cond.holds, Cond.value, hv] at h
  | some w =>
    obtain ⟨hst', a', cell', ha', hcell', -, hslot⟩ := Term.static_spec hi hv
    cases ha.symm.trans ha'
    cases hcell.symm.trans hcell'
    simp only [Cond.before, Cond.holds, Cond.value, hv] at h
    cases w with
    | null => exact ⟨c, k, i, f, a, cell, .null, hc, hi, hst, ha, hcell, hs, hcls, hslot, Or.inl rfl, hty, hna⟩
    | ref t => exact ⟨c, k, i, f, a, cell, .ref t, hc, hi, hst, ha, hcell, hs, hcls, hslot, Or.inr ⟨t, rfl⟩, hty, hna⟩
    | _ => simp at h
/-- a static array of ints -/
theorem ws_st {args : Array Value} {s : State} {C n : String} {N : Nat} {f : Nat → Int32} (hN : N < 2 ^ 31) (hl : (Cond.laysStatic C n "[I").before args s = true) (hini : (Cond.initialized C).before args s = true) (harr : (Cond.arrayOf (.static C n "[I") .int).before args s = true) (hlen : (Cond.eq (.length (.static C n "[I")) (.int (Int32.ofNat N))).before args s = true) (hel : ∀ j : Nat, j < N → (Cond.eq (.elem (.static C n "[I") (.int (Int32.ofNat j))) (.int (f j))).before args s = true) : ∃ t : Nat, va_T .int t N (fun j => .int (f j)) (fun q : Nat => s.heap.size ≤ q) s s.heap ∧ va_Z C n "[I" (.ref t) (fun q : Nat => s.heap.size ≤ q) s s.heap := by
  have hA : ∀ a : Nat, a < s.heap.size → ¬ (fun q : Nat => s.heap.size ≤ q) a := fun a h => Nat.not_le.mpr h
  obtain ⟨t, h1, h2⟩ := va_Tof (f := fun j => .int (f j)) hN harr (va_eqt hlen) (fun j hj => va_eqt (hel j hj)) hA
  exact ⟨t, h2, va_Zref hl hini h1 hA⟩
abbrev ws_given : Cond := Jvm.Cond.and given_1 narrow_1
theorem ws_e0 : ∀ j, j < 8 → Cond.eq (.elem (.static RX2 "NO_BYTES" "[I") (.int (Int32.ofNat j))) (.int (ab_l ab_noBytes j)) ∈ flatC ws_given := by decide +kernel
theorem ws_e1 : ∀ j, j < 8 → Cond.eq (.elem (.static RX6 "START" "[I") (.int (Int32.ofNat j))) (.int (ab_l ab_start j)) ∈ flatC ws_given := by decide +kernel
theorem ws_e2 : ∀ j, j < 64 → Cond.eq (.elem (.static RX6 "STEPS" "[I") (.int (Int32.ofNat j))) (.int (ab_l ab_steps j)) ∈ flatC ws_given := by decide +kernel
theorem ws_a0 : Cond.arrayOf (.static RX2 "NO_BYTES" "[I") .int ∈ flatC ws_given ∧ Cond.eq (.length (.static RX2 "NO_BYTES" "[I")) (.int (Int32.ofNat 8)) ∈ flatC ws_given := by decide +kernel
theorem ws_a1 : Cond.arrayOf (.static RX6 "START" "[I") .int ∈ flatC ws_given ∧ Cond.eq (.length (.static RX6 "START" "[I")) (.int (Int32.ofNat 8)) ∈ flatC ws_given := by decide +kernel
theorem ws_a2 : Cond.arrayOf (.static RX6 "STEPS" "[I") .int ∈ flatC ws_given ∧ Cond.eq (.length (.static RX6 "STEPS" "[I")) (.int (Int32.ofNat 64)) ∈ flatC ws_given := by decide +kernel
theorem ws_t : Cond.isRef (.static "java/lang/Throwable" "UNASSIGNED_STACK" "[Ljava/lang/StackTraceElement;") ∈ flatC ws_given ∧ Cond.isRef (.static "java/lang/Throwable" "SUPPRESSED_SENTINEL" "Ljava/util/List;") ∈ flatC ws_given := by decide +kernel
theorem ws_w : Cond.laysStatic RX2 "NO_BYTES" "[I" ∈ tables_1 ∧ Cond.laysStatic RX6 "START" "[I" ∈ tables_1 ∧ Cond.laysStatic RX6 "STEPS" "[I" ∈ tables_1 ∧ Cond.initialized RX2 ∈ tables_1 ∧ Cond.initialized RX6 ∈ tables_1 ∧ Cond.laysStatic "java/lang/Throwable" "UNASSIGNED_STACK" "[Ljava/lang/StackTraceElement;" ∈ tables_1 ∧ Cond.laysStatic "java/lang/Throwable" "SUPPRESSED_SENTINEL" "Ljava/util/List;" ∈ tables_1 ∧ Cond.initialized "java/lang/Throwable" ∈ tables_1 ∧ Cond.stringRef RX7 130 "there are octets 0 .. 31 only" ∈ tables_1 ∧ Cond.arrayOver (.object RX0) ∈ tables_1 ∧ Cond.arrayClass .int ∈ tables_1 ∧ Cond.arrayClass .long ∈ tables_1 ∧ Cond.arrayClass .byte ∈ tables_1 ∧ Cond.arrayClass .boolean ∈ tables_1 := by decide +kernel
def ws_ad (t0 t1 t2 b : Nat) (t : Nat) : Nat := if t = 0 then t0 else if t = 1 then t1 else if t = 2 then t2 else if t = 3 then b else 0
set_option maxHeartbeats 4000000 in
theorem ws_O {s : State} {b L : Nat} {xs : Nat → Int32} (hts : ∀ w ∈ lw_tbl, w.before #[Value.ref b] s = true) (hX : va_X b L xs s s.heap) (hbl : b < s.heap.size) (hL : L ≤ 2048) (hgv : (Jvm.Cond.and given_1 narrow_1).before #[Value.ref b] s = true) : ∃ ad : Nat → Nat, ad 3 = b ∧ ab_O (lw_xo L xs) ad (fun q : Nat => s.heap.size ≤ q) s s.heap := by
  have hs := flat_of_before _ hgv
  have ht1 : ∀ w ∈ tables_1, w.before #[Value.ref b] s = true := fun w hw => hts w (List.mem_append_right _ hw)
  obtain ⟨w0, w1, w2, i2, i6, z1, z2, iT, wS, wQ, -⟩ := ws_w
  obtain ⟨t0, T0, Z0⟩ := ws_st (f := ab_l ab_noBytes) (by decide) (ht1 _ w0) (ht1 _ i2) (hs _ ws_a0.1) (hs _ ws_a0.2) (fun j hj => hs _ (ws_e0 j hj))
  obtain ⟨t1, T1, Z1⟩ := ws_st (f := ab_l ab_start) (by decide) (ht1 _ w1) (ht1 _ i6) (hs _ ws_a1.1) (hs _ ws_a1.2) (fun j hj => hs _ (ws_e1 j hj))
  obtain ⟨t2, T2, Z2⟩ := ws_st (f := ab_l ab_steps) (by decide) (ht1 _ w2) (ht1 _ i6) (hs _ ws_a2.1) (hs _ ws_a2.2) (fun j hj => hs _ (ws_e2 j hj))
  have hA : ∀ a : Nat, a < s.heap.size → ¬ (fun q : Nat => s.heap.size ≤ q) a := fun a h => Nat.not_le.mpr h
  have T3 : va_T .int b L (fun j => .int (xs j)) (fun q : Nat => s.heap.size ≤ q) s s.heap := by
    obtain ⟨scr, h1, h2, h3, h4, h5⟩ := hX
    exact ⟨scr, h1, h2, h3, Nat.le_of_eq h4.symm, congrArg Nat.toInt32 h4, h5, Nat.not_le.mpr hbl⟩
  have hcls : ∃ cur, s.vm.findClass RX7 = some cur := by
    have h1 := ht1 _ wS
    simp only [Cond.before, Cond.holds, Cond.value] at h1
    cases hc : s.vm.findClass RX7 with
    | none => simp [hc] at h1
    | some cur => exact ⟨cur, rfl⟩
  obtain ⟨cur, hcur⟩ := hcls
  refine ⟨ws_ad t0 t1 t2 b, rfl, fun i q hi => ?_, fun i q hi => ?_, fun w hw => ?_, va_AO.of (ht1 _ wQ), by show 4 ≤ 100; omega, ws_ls (ht1 _ z1) (hs _ ws_t.1) hA, ws_ls (ht1 _ z2) (hs _ ws_t.2) hA, ?_⟩
  · match i, hi with
    | 0, hi => cases hi; exact T0
    | 1, hi => cases hi; exact T1
    | 2, hi => cases hi; exact T2
    | 3, hi => cases hi; exact T3
    | i + 4, hi => cases hi
  · match i, hi with
    | 0, hi => cases hi; exact Z0
    | 1, hi => cases hi; exact Z1
    | 2, hi => cases hi; exact Z2
    | i + 3, hi => cases hi
  · obtain ⟨h1, h2⟩ := List.mem_filter.mp hw
    refine va_Nw.of ?_ (hts w h1)
    cases w <;> first | rfl | (simp [ab_isN] at h2)
  · obtain ⟨-, -, -, sa, -, -, -, -, -, hev⟩ := Cond.stringRef_spec hcur (ht1 _ wS)
    exact ⟨sa, vk_R.of (ht1 _ wS) hev⟩
theorem ws_k0 : ∀ w ∈ u_ws RJx00060 TJx00060 6, w ∈ tables_1 := by decide +kernel
theorem ws_K {s : State} {b : Nat} (hts : ∀ w ∈ lw_tbl, w.before #[Value.ref b] s = true) : ∃ (D : va_G) (tc : Nat → ClassId), va_K D vwCl (ab_tys tc) s := by
  have hU : ∀ w ∈ ab_U, w.before #[Value.ref b] s = true := fun w hw => hts w (List.mem_filter.mp hw).1
  have ht1 : ∀ w ∈ tables_1, w.before #[Value.ref b] s = true := fun w hw => hts w (List.mem_append_right _ hw)
  obtain ⟨-, -, -, -, -, -, -, -, -, wQ, wI, wL, wB, wZ⟩ := ws_w
  obtain ⟨c0, K0, N0⟩ := ws_ty (ht1 _ wI)
  obtain ⟨c1, K1, N1⟩ := ws_ty (ht1 _ wL)
  obtain ⟨c2, K2, N2⟩ := ws_ty (ht1 _ wB)
  obtain ⟨c3, K3, N3⟩ := ws_ty (ht1 _ wZ)
  obtain ⟨c4, K4, N4⟩ := ws_tq (ht1 _ wQ)
  obtain ⟨d0, g0, H0⟩ := u_known (C := RJx00060) (T := TJx00060) (N := 6) (n := 6) ht1 ws_k0 (hU _ oT_inst)
  obtain ⟨d1, g1, H1⟩ := u_known (C := RX0) (T := TX0) (N := 6) (n := 6) hU kc1.2.1 (hU _ iC1)
  obtain ⟨d2, g2, H2⟩ := u_known (C := RX1) (T := TX1) (N := 5) (n := 5) hU kc2.2.1 (hU _ iC2)
  obtain ⟨d3, g3, H3⟩ := u_known (C := RX2) (T := TX2) (N := 3) (n := 3) hU kc3.2.1 (hU _ iC3)
  obtain ⟨d4, g4, H4⟩ := u_known (C := RX3) (T := TX3) (N := 4) (n := 4) hU kc4.2.1 (hU _ iC4)
  obtain ⟨d5, g5, H5⟩ := u_known (C := RX4) (T := TX4) (N := 2) (n := 2) hU kc5.2.1 (hU _ iC5)
  obtain ⟨d6, g6, H6⟩ := u_known (C := RX5) (T := TX5) (N := 4) (n := 4) hU kc6.2.1 (hU _ iC6)
  obtain ⟨d7, g7, H7⟩ := u_known (C := RX6) (T := TX6) (N := 4) (n := 4) hU kc7.2.1 (hU _ iC7)
  obtain ⟨d8, g8, H8⟩ := u_known (C := RX7) (T := TX7) (N := 7) (n := 7) hU kc8.2.1 (hU _ iC8)
  obtain ⟨d9, g9, H9⟩ := u_known (C := RX8) (T := TX8) (N := 27) (n := 27) hU kc9.2.1 (hU _ iC9)
  refine ⟨(fun k => [d0, d1, d2, d3, d4, d5, d6, d7, d8, d9].getD k 0, fun k => [g0, g1, g2, g3, g4, g5, g6, g7, g8, g9].getD k (fun _ => 0)), fun k => [c0, c1, c2, c3, c4].getD k 0, fun k q hq => ?_, fun k q hq => ?_⟩
  · match k, hq with
    | 0, hq => cases hq; exact H0
    | 1, hq => cases hq; exact H1
    | 2, hq => cases hq; exact H2
    | 3, hq => cases hq; exact H3
    | 4, hq => cases hq; exact H4
    | 5, hq => cases hq; exact H5
    | 6, hq => cases hq; exact H6
    | 7, hq => cases hq; exact H7
    | 8, hq => cases hq; exact H8
    | 9, hq => cases hq; exact H9
    | k + 10, hq => cases hq
  · match k, hq with
    | 0, hq => cases hq; exact ⟨K0, N0⟩
    | 1, hq => cases hq; exact ⟨K1, N1⟩
    | 2, hq => cases hq; exact ⟨K2, N2⟩
    | 3, hq => cases hq; exact ⟨K3, N3⟩
    | 4, hq => cases hq; exact ⟨K4, N4⟩
    | k + 5, hq => cases hq
