/-! CanonNames.keep, keptAt -/
set_option maxRecDepth 20000 in
set_option maxHeartbeats 4000000 in
theorem con_keep (d kc : Nat) (hkc : kc ≤ 8) (a0 a1 a2 a3 a4 : Nat) (f : Nat → Option Nat) (bv tv hs ro : Int32) (t1 t2 : Nat) (ht1 : t1 < 100) (ht2 : t2 < 100) (h0 : a0 < 100) (h1 : a1 < 100) (h2 : a2 < 100) (h3 : a3 < 100) (h4 : a4 < 100) (hf : ∀ j t, f j = some t → t < 100) : Con mX7_keep (d + 3) 7 140 [c7 a0 a1 a2 a3 a4 101 (nI kc) 102, .inl (4, 8, .inr (.inr (.inr (.inr f)))), .inr (1, [.ref t1, .int bv, .int tv, .int hs, .int ro, .ref t2])] [.ref 100] (fun w' v => (8 ≤ kc ∧ w' = [c7 a0 a1 a2 a3 a4 101 (nI kc) 102, .inl (4, 8, .inr (.inr (.inr (.inr f)))), .inr (1, [.ref t1, .int bv, .int tv, .int hs, .int ro, .ref t2])] ∧ v = some (.int (-2))) ∨ (kc < 8 ∧ w' = [c7 a0 a1 a2 a3 a4 101 (nI (kc + 1)) 103, .inl (4, 8, .inr (.inr (.inr (.inr (va_up f kc (some 102)))))), .inr (1, [.ref t1, .int bv, .int tv, .int hs, .int ro, .ref t2]), .inr (1, [.ref 104, .int 0, .int 0, .int 0, .int 0, .ref 105]), cI 40 (fun _ => 0), .inr (2, [.ref 106, .ref 107, .ref 108, .ref 109, .int 0]), cI 64 (fun _ => 0), cI 8 (fun _ => 0), cI 8 (fun _ => 0), cI 9 (fun _ => 0)] ∧ v = some (.int (nI kc)))) := by
  refine Con.of (ab_okc rfl (by decide)) (Nat.le_of_ble_eq_true rfl) ?_
  show G ab_x0 mX7_keep (d + 2 + 1) 7 140 _ 0 [some (.ref 100)] [] _
  refine G_aload_n dX7_keep_0 rfl ?_
  refine G_get (f := 5) kc8 dX7_keep_1 fX7_43 (by decide) rfl rfl ?_
  refine G_bipush (v := 8) dX7_keep_4 (by decide) ?_
  refine G_icmp_ltN (tgt := 12) kc 8 dX7_keep_6 (by decide) rfl rfl (by omega) (by omega) (fun h => ?_) (fun h => ?_)
  rotate_left
  · refine G_bipush (v := -2) dX7_keep_9 (by decide) ?_
    exact G_ret (v := some (.int _)) ⟨dX7_keep_11, _, rfl, rfl⟩ (Or.inl ⟨by omega, rfl, rfl⟩)
  refine G_aload_n dX7_keep_12 rfl ?_
  refine G_get (f := 4) kc8 dX7_keep_13 fX7_39 (by decide) rfl rfl ?_
  refine G_aload_n dX7_keep_16 rfl ?_
  refine G_get (f := 5) kc8 dX7_keep_17 fX7_43 (by decide) rfl rfl ?_
  refine G_aload_n dX7_keep_20 rfl ?_
  refine G_get (f := 6) kc8 dX7_keep_21 fX7_48 (by decide) rfl rfl ?_
  refine G_aast (w' := [c7 a0 a1 a2 a3 a4 101 (nI kc) 102, .inl (4, 8, .inr (.inr (.inr (.inr (va_up f kc (some 102)))))), .inr (1, [.ref t1, .int bv, .int tv, .int hs, .int ro, .ref t2])]) (q := 2) dX7_keep_24 rfl rfl (vp_in_nI h (by omega)) (by rw [nI_clamp (by omega)]; rfl) ?_
  have hup : ∀ j t, va_up f kc (some 102) j = some t → t < 103 := by
    intro j t e
    unfold va_up at e
    split at e
    · injection e with e; omega
    · have := hf j t e; omega
  have hsc : ∀ M, 103 ≤ M → ∀ c ∈ [c7 a0 a1 a2 a3 a4 101 (nI kc) 102, .inl (4, 8, .inr (.inr (.inr (.inr (va_up f kc (some 102)))))), .inr (1, [.ref t1, .int bv, .int tv, .int hs, .int ro, .ref t2]), .inr (1, [.null, .int 0, .int 0, .int 0, .int 0, .null])], ab_scC M c := by
    intro M hM c hc
    rcases List.mem_cons.mp hc with rfl | hc
    · intro v hv
      simp only [List.mem_cons, List.not_mem_nil, or_false] at hv
      rcases hv with rfl | rfl | rfl | rfl | rfl | rfl | rfl | rfl <;> first | exact True.intro | (show (_ : Nat) < _; omega)
    rcases List.mem_cons.mp hc with rfl | hc
    · intro j t e
      have := hup j t e
      omega
    rcases List.mem_cons.mp hc with rfl | hc
    · intro v hv
      simp only [List.mem_cons, List.not_mem_nil, or_false] at hv
      rcases hv with rfl | rfl | rfl | rfl | rfl | rfl <;> first | exact True.intro | (show (_ : Nat) < _; omega)
    rcases List.mem_cons.mp hc with rfl | hc
    · intro v hv
      simp only [List.mem_cons, List.not_mem_nil, or_false] at hv
      rcases hv with rfl | rfl | rfl | rfl | rfl | rfl <;> exact True.intro
    exact absurd hc (List.not_mem_nil)
  refine G_aload_n dX7_keep_25 rfl ?_
  refine G_new (w' := [c7 a0 a1 a2 a3 a4 101 (nI kc) 102, .inl (4, 8, .inr (.inr (.inr (.inr (va_up f kc (some 102)))))), .inr (1, [.ref t1, .int bv, .int tv, .int hs, .int ro, .ref t2]), .inr (1, [.null, .int 0, .int 0, .int 0, .int 0, .null])]) (t := 103) (k := 6) (n := 134) kc1 dX7_keep_26 nX7_37 iC1 jC1 rfl ⟨by simp [ab_sc], by simp [ab_sc], fun c hc => hsc 103 (by decide) c (List.mem_append_left [_] hc)⟩ rfl rfl ?_
  refine G_dup dX7_keep_29 rfl ?_
  refine G_IN (j := 3) (is := [3]) (fo := []) (as := [.ref 100]) (as' := []) (st := [.ref 103, .ref 100]) (k := 0) (n := 0) cX7_keep_30 (con_X0_init d) ab_pfx rfl (by decide) rfl rfl rfl rfl (Nat.le_of_ble_eq_true rfl) dX7_keep_30 (fun t ht => absurd ht List.not_mem_nil) ⟨by simp [ab_sc], by simp [ab_sc], hsc 104 (by decide)⟩ (fun w' v h => by rw [h.1]; exact Nat.le_of_ble_eq_true rfl) (fun w2 v2 hq => ?_)
  obtain ⟨rfl, rfl⟩ := hq
  refine G_w (st' := [.ref 103, .ref 100]) (w' := [c7 a0 a1 a2 a3 a4 101 (nI kc) 102, .inl (4, 8, .inr (.inr (.inr (.inr (va_up f kc (some 102)))))), .inr (1, [.ref t1, .int bv, .int tv, .int hs, .int ro, .ref t2]), .inr (1, [.ref 104, .int 0, .int 0, .int 0, .int 0, .ref 105]), cI 40 (fun _ => 0), .inr (2, [.ref 106, .ref 107, .ref 108, .ref 109, .int 0]), cI 64 (fun _ => 0), cI 8 (fun _ => 0), cI 8 (fun _ => 0), cI 9 (fun _ => 0)]) rfl rfl ?_
  refine G_put (w' := [c7 a0 a1 a2 a3 a4 101 (nI kc) 103, .inl (4, 8, .inr (.inr (.inr (.inr (va_up f kc (some 102)))))), .inr (1, [.ref t1, .int bv, .int tv, .int hs, .int ro, .ref t2]), .inr (1, [.ref 104, .int 0, .int 0, .int 0, .int 0, .ref 105]), cI 40 (fun _ => 0), .inr (2, [.ref 106, .ref 107, .ref 108, .ref 109, .int 0]), cI 64 (fun _ => 0), cI 8 (fun _ => 0), cI 8 (fun _ => 0), cI 9 (fun _ => 0)]) (f := 6) kc8 dX7_keep_33 fX7_48 (by decide) rfl rfl rfl rfl (Nat.le_of_ble_eq_true rfl) rfl ?_
  refine G_aload_n dX7_keep_36 rfl ?_
  refine G_dup dX7_keep_37 rfl ?_
  refine G_get (f := 5) kc8 dX7_keep_38 fX7_43 (by decide) rfl rfl ?_
  refine G_iconst (v := 1) dX7_keep_41 (by decide) ?_
  refine G_iadd dX7_keep_42 ?_
  refine G_topi (nI_1 kc) ?_
  refine G_put (w' := [c7 a0 a1 a2 a3 a4 101 (nI (kc + 1)) 103, .inl (4, 8, .inr (.inr (.inr (.inr (va_up f kc (some 102)))))), .inr (1, [.ref t1, .int bv, .int tv, .int hs, .int ro, .ref t2]), .inr (1, [.ref 104, .int 0, .int 0, .int 0, .int 0, .ref 105]), cI 40 (fun _ => 0), .inr (2, [.ref 106, .ref 107, .ref 108, .ref 109, .int 0]), cI 64 (fun _ => 0), cI 8 (fun _ => 0), cI 8 (fun _ => 0), cI 9 (fun _ => 0)]) (f := 5) kc8 dX7_keep_43 fX7_43 (by decide) rfl rfl rfl rfl (Nat.le_of_ble_eq_true rfl) rfl ?_
  refine G_aload_n dX7_keep_46 rfl ?_
  refine G_get (f := 5) kc8 dX7_keep_47 fX7_43 (by decide) rfl rfl ?_
  refine G_iconst (v := 1) dX7_keep_50 (by decide) ?_
  refine G_isub dX7_keep_51 ?_
  refine G_topi (nI_pred kc) ?_
  exact G_ret (v := some (.int _)) ⟨dX7_keep_52, _, rfl, rfl⟩ (Or.inr ⟨h, rfl, rfl⟩)
set_option maxRecDepth 20000 in
theorem con_keptAt (d kc : Nat) (hkc : kc ≤ 8) (a0 a1 a2 a3 a4 ag : Nat) (f : Nat → Option Nat) (x : Int32) : Con mX7_keptAt d 0 0 [c7 a0 a1 a2 a3 a4 101 (nI kc) ag, .inl (4, 8, .inr (.inr (.inr (.inr f))))] [.ref 100, .int x] (fun w' v => w' = [c7 a0 a1 a2 a3 a4 101 (nI kc) ag, .inl (4, 8, .inr (.inr (.inr (.inr f))))] ∧ (((¬ (0 ≤ x.toInt ∧ x.toInt < kc)) ∧ v = some .null) ∨ (0 ≤ x.toInt ∧ x.toInt < kc ∧ v = some (va_rf (f x.toInt.toNat))))) := by
  refine Con.of (ab_okc rfl (by decide)) (Nat.le_of_ble_eq_true rfl) ?_
  show G ab_x0 mX7_keptAt d 0 0 _ 0 [some (.ref 100), some (.int x)] [] _
  have h0 : (0 : Int32).toInt = 0 := rfl
  have h2 : (nI kc).toInt = kc := nI_toInt (by omega)
  have bad : ¬ (0 ≤ x.toInt ∧ x.toInt < kc) → G ab_x0 mX7_keptAt d 0 0 (fun w' v => w' = [c7 a0 a1 a2 a3 a4 101 (nI kc) ag, .inl (4, 8, .inr (.inr (.inr (.inr f))))] ∧ (((¬ (0 ≤ x.toInt ∧ x.toInt < kc)) ∧ v = some .null) ∨ (0 ≤ x.toInt ∧ x.toInt < kc ∧ v = some (va_rf (f x.toInt.toNat))))) 12 [some (.ref 100), some (.int x)] [] [c7 a0 a1 a2 a3 a4 101 (nI kc) ag, .inl (4, 8, .inr (.inr (.inr (.inr f))))] := by
    intro h
    refine G_null dX7_keptAt_12 ?_
    exact G_ret (v := some .null) ⟨dX7_keptAt_13, _, rfl⟩ ⟨rfl, Or.inl ⟨h, rfl⟩⟩
  refine G_iload_n dX7_keptAt_0 rfl ?_
  refine G_if_lt (tgt := 12) dX7_keptAt_1 (by decide) (fun h => bad (by rw [lt_toI, h0] at h; omega)) (fun h3 => ?_)
  rw [lt_toI, h0] at h3
  refine G_iload_n dX7_keptAt_4 rfl ?_
  refine G_aload_n dX7_keptAt_5 rfl ?_
  refine G_get (f := 5) kc8 dX7_keptAt_6 fX7_43 (by decide) rfl rfl ?_
  refine G_icmp_lt (tgt := 14) dX7_keptAt_9 (by decide) (fun h4 => ?_) (fun h => bad (by rw [lt_toI, h2] at h; omega))
  rw [lt_toI, h2] at h4
  refine G_aload_n dX7_keptAt_14 rfl ?_
  refine G_get (f := 4) kc8 dX7_keptAt_15 fX7_39 (by decide) rfl rfl ?_
  refine G_iload_n dX7_keptAt_18 rfl ?_
  have ex : x = nI x.toInt.toNat := nI_rng (by omega)
  have ec : x.toNatClampNeg = x.toInt.toNat := rfl
  refine G_aald dX7_keptAt_19 rfl (by rw [ex]; exact vp_in_nI (by omega) (by omega)) ?_
  rw [ec]
  cases hfx : f x.toInt.toNat with
  | none => exact G_ret (v := some .null) ⟨dX7_keptAt_20, _, rfl⟩ ⟨rfl, Or.inr ⟨by omega, h4, rfl⟩⟩
  | some t => exact G_ret (v := some (.ref t)) ⟨dX7_keptAt_20, _, rfl⟩ ⟨rfl, Or.inr ⟨by omega, h4, rfl⟩⟩
