/-! The reference's constructor. -/
def kOk (f : Nat → Int64) (i : Nat) : Prop := (∀ j, j < i → f j = kC j) ∧ ∀ j, i ≤ j → f j = 0
theorem kC_tab : ∀ i, i < 64 → ([1116352408, 1899447441, 3049323471, 3921009573, 961987163, 1508970993, 2453635748, 2870763221, 3624381080, 310598401, 607225278, 1426881987, 1925078388, 2162078206, 2614888103, 3248222580, 3835390401, 4022224774, 264347078, 604807628, 770255983, 1249150122, 1555081692, 1996064986, 2554220882, 2821834349, 2952996808, 3210313671, 3336571891, 3584528711, 113926993, 338241895, 666307205, 773529912, 1294757372, 1396182291, 1695183700, 1986661051, 2177026350, 2456956037, 2730485921, 2820302411, 3259730800, 3345764771, 3516065817, 3600352804, 4094571909, 275423344, 430227734, 506948616, 659060556, 883997877, 958139571, 1322822218, 1537002063, 1747873779, 1955562222, 2024104815, 2227730452, 2361852424, 2428436474, 2756734187, 3204031479, 3329325298] : List Int64).getD i 0 = kC i := by decide +kernel
theorem kst {f : Nat → Int64} {i : Nat} {c : Int64} (h : kOk f i) (hc : c = kC i) : kOk (vp_updL f i c) (i + 1) := by
  refine ⟨fun j hj => ?_, fun j hj => ?_⟩
  · by_cases e : j = i
    · rw [e, pk_uLs, hc]
    · rw [pk_uLn e]; exact h.1 j (by omega)
  · rw [pk_uLn (by omega)]; exact h.2 j (by omega)
theorem kOk_end {f : Nat → Int64} (h : kOk f 64) : f = kC := by
  funext j
  rcases Nat.lt_or_ge j 64 with q | q
  · exact h.1 j q
  · rw [h.2 j q]
    unfold kC ab_l
    rw [List.getD_eq_getElem?_getD, List.getElem?_eq_none (show ab_steps.length ≤ j from q)]
    rfl
def r80 : R8 := (((((((fun _ => 0), (fun _ => 0)), ((fun _ => 0), (fun _ => 0))), (((fun _ => 0), (fun _ => 0)), (fun _ => 0))), ((((fun _ => 0), (fun _ => 0)), (fun _ => 0)), (((fun _ => 0), (fun _ => 0)), (fun _ => 0)))), (((((fun _ => 0), (fun _ => 0)), ((fun _ => 0), (fun _ => 0))), ((0, 0), 0)), (((0, 0), 0), ((0, 0), 0)))) : R8)
set_option maxRecDepth 20000 in
set_option maxHeartbeats 8000000 in
theorem con8_init (d : Nat) : Con mX8_init (d + 3) 18 11247 [.inr (9, [.null, .null, .null, .null, .int 0, .null, .null, .int 0, .int 0, .null, .null, .int 0, .null, .null, .null, .int 0, .null, .int 0, .null, .null, .int 0, .null, .int 0, .null, .null, .int 0, .null])] [.ref 100] (fun w' v => v = none ∧ ∃ wd sc ms oc, w' = w8 ((((((r80.bl, r80.co), (r80.po, r80.ha)), ((r80.nw, r80.gr), r80.go)), (((r80.tr, r80.rw), r80.nm), ((r80.fm, oc), r80.ds))), ((((ms, wd), (sc, r80.sd)), ((r80.ke, r80.ro), r80.hs)), (((r80.gc, r80.nb), r80.fc), ((r80.de, r80.si), r80.th)))) : R8) ∧ ∀ j, j < 32 → oc j = ocB (ab_l ab_noBytes) j) := by
  refine Con.of (ab_okc rfl (by decide)) (Nat.le_of_ble_eq_true rfl) ?_
  show G ab_x0 mX8_init (d + 3) 18 11247 _ 0 [some (.ref 100)] [] _
  refine G_aload_n dX8_init_0 rfl ?_
  refine G_obj dX8_init_1 oX8_7 rfl (Nat.le_of_ble_eq_true rfl) ?_
  refine G_aload_n dX8_init_4 rfl ?_
  refine G_bipush (v := 64) dX8_init_5 (by decide) ?_
  refine G_newl (w' := [.inr (9, [.null, .null, .null, .null, .int 0, .null, .null, .int 0, .int 0, .null, .null, .int 0, .null, .null, .null, .int 0, .null, .int 0, .null, .null, .int 0, .null, .int 0, .null, .null, .int 0, .null]), cL 64 (fun _ => 0)]) (t := 101) (N := 64) (k := 17) (n := 11183) dX8_init_7 aC_long (by decide) (by decide) (by decide) (by simp [ab_scS, ab_sc, ab_scC]) rfl rfl ?_
  obtain ⟨f0, hf0⟩ : ∃ z : Nat → Int64, z = fun _ => 0 := ⟨_, rfl⟩
  refine G_w (st' := [.ref 101, .ref 100]) (w' := [.inr (9, [.null, .null, .null, .null, .int 0, .null, .null, .int 0, .int 0, .null, .null, .int 0, .null, .null, .null, .int 0, .null, .int 0, .null, .null, .int 0, .null, .int 0, .null, .null, .int 0, .null]), cL 64 f0]) rfl (by rw [hf0]) ?_
  have k0 : kOk f0 0 := ⟨fun j hj => by omega, fun j _ => by rw [hf0]⟩
  refine G_dup dX8_init_9 rfl ?_
  refine G_iconst (v := 0) dX8_init_10 (by decide) ?_
  refine G_ldc2 dX8_init_11 kX8_13 ?_
  refine G_lastN (w' := [.inr (9, [.null, .null, .null, .null, .int 0, .null, .null, .int 0, .int 0, .null, .null, .int 0, .null, .null, .null, .int 0, .null, .int 0, .null, .null, .int 0, .null, .int 0, .null, .null, .int 0, .null]), cL 64 (vp_updL f0 0 1116352408)]) (0) dX8_init_14 rfl rfl (by decide) (by decide) rfl ?_
  have k1 := kst k0 (kC_tab 0 (by decide))
  replace k1 : kOk (vp_updL f0 0 1116352408) 1 := k1
  generalize vp_updL f0 0 1116352408 = f1 at k1 ⊢
  clear k0 hf0
  refine G_w (st' := [.ref 101, .ref 100]) (w' := [.inr (9, [.null, .null, .null, .null, .int 0, .null, .null, .int 0, .int 0, .null, .null, .int 0, .null, .null, .null, .int 0, .null, .int 0, .null, .null, .int 0, .null, .int 0, .null, .null, .int 0, .null]), cL 64 f1]) rfl rfl ?_
  refine G_dup dX8_init_15 rfl ?_
  refine G_iconst (v := 1) dX8_init_16 (by decide) ?_
  refine G_ldc2 dX8_init_17 kX8_15 ?_
  refine G_lastN (w' := [.inr (9, [.null, .null, .null, .null, .int 0, .null, .null, .int 0, .int 0, .null, .null, .int 0, .null, .null, .null, .int 0, .null, .int 0, .null, .null, .int 0, .null, .int 0, .null, .null, .int 0, .null]), cL 64 (vp_updL f1 1 1899447441)]) (1) dX8_init_20 rfl rfl (by decide) (by decide) rfl ?_
  have k2 := kst k1 (kC_tab 1 (by decide))
  replace k2 : kOk (vp_updL f1 1 1899447441) 2 := k2
  generalize vp_updL f1 1 1899447441 = f2 at k2 ⊢
  clear k1
  refine G_w (st' := [.ref 101, .ref 100]) (w' := [.inr (9, [.null, .null, .null, .null, .int 0, .null, .null, .int 0, .int 0, .null, .null, .int 0, .null, .null, .null, .int 0, .null, .int 0, .null, .null, .int 0, .null, .int 0, .null, .null, .int 0, .null]), cL 64 f2]) rfl rfl ?_
  refine G_dup dX8_init_21 rfl ?_
  refine G_iconst (v := 2) dX8_init_22 (by decide) ?_
  refine G_ldc2 dX8_init_23 kX8_17 ?_
  refine G_lastN (w' := [.inr (9, [.null, .null, .null, .null, .int 0, .null, .null, .int 0, .int 0, .null, .null, .int 0, .null, .null, .null, .int 0, .null, .int 0, .null, .null, .int 0, .null, .int 0, .null, .null, .int 0, .null]), cL 64 (vp_updL f2 2 3049323471)]) (2) dX8_init_26 rfl rfl (by decide) (by decide) rfl ?_
  have k3 := kst k2 (kC_tab 2 (by decide))
  replace k3 : kOk (vp_updL f2 2 3049323471) 3 := k3
  generalize vp_updL f2 2 3049323471 = f3 at k3 ⊢
  clear k2
  refine G_w (st' := [.ref 101, .ref 100]) (w' := [.inr (9, [.null, .null, .null, .null, .int 0, .null, .null, .int 0, .int 0, .null, .null, .int 0, .null, .null, .null, .int 0, .null, .int 0, .null, .null, .int 0, .null, .int 0, .null, .null, .int 0, .null]), cL 64 f3]) rfl rfl ?_
  refine G_dup dX8_init_27 rfl ?_
  refine G_iconst (v := 3) dX8_init_28 (by decide) ?_
  refine G_ldc2 dX8_init_29 kX8_19 ?_
  refine G_lastN (w' := [.inr (9, [.null, .null, .null, .null, .int 0, .null, .null, .int 0, .int 0, .null, .null, .int 0, .null, .null, .null, .int 0, .null, .int 0, .null, .null, .int 0, .null, .int 0, .null, .null, .int 0, .null]), cL 64 (vp_updL f3 3 3921009573)]) (3) dX8_init_32 rfl rfl (by decide) (by decide) rfl ?_
  have k4 := kst k3 (kC_tab 3 (by decide))
  replace k4 : kOk (vp_updL f3 3 3921009573) 4 := k4
  generalize vp_updL f3 3 3921009573 = f4 at k4 ⊢
  clear k3
  refine G_w (st' := [.ref 101, .ref 100]) (w' := [.inr (9, [.null, .null, .null, .null, .int 0, .null, .null, .int 0, .int 0, .null, .null, .int 0, .null, .null, .null, .int 0, .null, .int 0, .null, .null, .int 0, .null, .int 0, .null, .null, .int 0, .null]), cL 64 f4]) rfl rfl ?_
  refine G_dup dX8_init_33 rfl ?_
  refine G_iconst (v := 4) dX8_init_34 (by decide) ?_
  refine G_ldc2 dX8_init_35 kX8_21 ?_
  refine G_lastN (w' := [.inr (9, [.null, .null, .null, .null, .int 0, .null, .null, .int 0, .int 0, .null, .null, .int 0, .null, .null, .null, .int 0, .null, .int 0, .null, .null, .int 0, .null, .int 0, .null, .null, .int 0, .null]), cL 64 (vp_updL f4 4 961987163)]) (4) dX8_init_38 rfl rfl (by decide) (by decide) rfl ?_
  have k5 := kst k4 (kC_tab 4 (by decide))
  replace k5 : kOk (vp_updL f4 4 961987163) 5 := k5
  generalize vp_updL f4 4 961987163 = f5 at k5 ⊢
  clear k4
  refine G_w (st' := [.ref 101, .ref 100]) (w' := [.inr (9, [.null, .null, .null, .null, .int 0, .null, .null, .int 0, .int 0, .null, .null, .int 0, .null, .null, .null, .int 0, .null, .int 0, .null, .null, .int 0, .null, .int 0, .null, .null, .int 0, .null]), cL 64 f5]) rfl rfl ?_
  refine G_dup dX8_init_39 rfl ?_
  refine G_iconst (v := 5) dX8_init_40 (by decide) ?_
  refine G_ldc2 dX8_init_41 kX8_23 ?_
  refine G_lastN (w' := [.inr (9, [.null, .null, .null, .null, .int 0, .null, .null, .int 0, .int 0, .null, .null, .int 0, .null, .null, .null, .int 0, .null, .int 0, .null, .null, .int 0, .null, .int 0, .null, .null, .int 0, .null]), cL 64 (vp_updL f5 5 1508970993)]) (5) dX8_init_44 rfl rfl (by decide) (by decide) rfl ?_
  have k6 := kst k5 (kC_tab 5 (by decide))
  replace k6 : kOk (vp_updL f5 5 1508970993) 6 := k6
  generalize vp_updL f5 5 1508970993 = f6 at k6 ⊢
  clear k5
  refine G_w (st' := [.ref 101, .ref 100]) (w' := [.inr (9, [.null, .null, .null, .null, .int 0, .null, .null, .int 0, .int 0, .null, .null, .int 0, .null, .null, .null, .int 0, .null, .int 0, .null, .null, .int 0, .null, .int 0, .null, .null, .int 0, .null]), cL 64 f6]) rfl rfl ?_
  refine G_dup dX8_init_45 rfl ?_
  refine G_bipush (v := 6) dX8_init_46 (by decide) ?_
  refine G_ldc2 dX8_init_48 kX8_25 ?_
  refine G_lastN (w' := [.inr (9, [.null, .null, .null, .null, .int 0, .null, .null, .int 0, .int 0, .null, .null, .int 0, .null, .null, .null, .int 0, .null, .int 0, .null, .null, .int 0, .null, .int 0, .null, .null, .int 0, .null]), cL 64 (vp_updL f6 6 2453635748)]) (6) dX8_init_51 rfl rfl (by decide) (by decide) rfl ?_
  have k7 := kst k6 (kC_tab 6 (by decide))
  replace k7 : kOk (vp_updL f6 6 2453635748) 7 := k7
  generalize vp_updL f6 6 2453635748 = f7 at k7 ⊢
  clear k6
  refine G_w (st' := [.ref 101, .ref 100]) (w' := [.inr (9, [.null, .null, .null, .null, .int 0, .null, .null, .int 0, .int 0, .null, .null, .int 0, .null, .null, .null, .int 0, .null, .int 0, .null, .null, .int 0, .null, .int 0, .null, .null, .int 0, .null]), cL 64 f7]) rfl rfl ?_
  refine G_dup dX8_init_52 rfl ?_
  refine G_bipush (v := 7) dX8_init_53 (by decide) ?_
  refine G_ldc2 dX8_init_55 kX8_27 ?_
  refine G_lastN (w' := [.inr (9, [.null, .null, .null, .null, .int 0, .null, .null, .int 0, .int 0, .null, .null, .int 0, .null, .null, .null, .int 0, .null, .int 0, .null, .null, .int 0, .null, .int 0, .null, .null, .int 0, .null]), cL 64 (vp_updL f7 7 2870763221)]) (7) dX8_init_58 rfl rfl (by decide) (by decide) rfl ?_
  have k8 := kst k7 (kC_tab 7 (by decide))
  replace k8 : kOk (vp_updL f7 7 2870763221) 8 := k8
  generalize vp_updL f7 7 2870763221 = f8 at k8 ⊢
  clear k7
  refine G_w (st' := [.ref 101, .ref 100]) (w' := [.inr (9, [.null, .null, .null, .null, .int 0, .null, .null, .int 0, .int 0, .null, .null, .int 0, .null, .null, .null, .int 0, .null, .int 0, .null, .null, .int 0, .null, .int 0, .null, .null, .int 0, .null]), cL 64 f8]) rfl rfl ?_
  refine G_dup dX8_init_59 rfl ?_
  refine G_bipush (v := 8) dX8_init_60 (by decide) ?_
  refine G_ldc2 dX8_init_62 kX8_29 ?_
  refine G_lastN (w' := [.inr (9, [.null, .null, .null, .null, .int 0, .null, .null, .int 0, .int 0, .null, .null, .int 0, .null, .null, .null, .int 0, .null, .int 0, .null, .null, .int 0, .null, .int 0, .null, .null, .int 0, .null]), cL 64 (vp_updL f8 8 3624381080)]) (8) dX8_init_65 rfl rfl (by decide) (by decide) rfl ?_
  have k9 := kst k8 (kC_tab 8 (by decide))
  replace k9 : kOk (vp_updL f8 8 3624381080) 9 := k9
  generalize vp_updL f8 8 3624381080 = f9 at k9 ⊢
  clear k8
  refine G_w (st' := [.ref 101, .ref 100]) (w' := [.inr (9, [.null, .null, .null, .null, .int 0, .null, .null, .int 0, .int 0, .null, .null, .int 0, .null, .null, .null, .int 0, .null, .int 0, .null, .null, .int 0, .null, .int 0, .null, .null, .int 0, .null]), cL 64 f9]) rfl rfl ?_
  refine G_dup dX8_init_66 rfl ?_
  refine G_bipush (v := 9) dX8_init_67 (by decide) ?_
  refine G_ldc2 dX8_init_69 kX8_31 ?_
  refine G_lastN (w' := [.inr (9, [.null, .null, .null, .null, .int 0, .null, .null, .int 0, .int 0, .null, .null, .int 0, .null, .null, .null, .int 0, .null, .int 0, .null, .null, .int 0, .null, .int 0, .null, .null, .int 0, .null]), cL 64 (vp_updL f9 9 310598401)]) (9) dX8_init_72 rfl rfl (by decide) (by decide) rfl ?_
  have k10 := kst k9 (kC_tab 9 (by decide))
  replace k10 : kOk (vp_updL f9 9 310598401) 10 := k10
  generalize vp_updL f9 9 310598401 = f10 at k10 ⊢
  clear k9
  refine G_w (st' := [.ref 101, .ref 100]) (w' := [.inr (9, [.null, .null, .null, .null, .int 0, .null, .null, .int 0, .int 0, .null, .null, .int 0, .null, .null, .null, .int 0, .null, .int 0, .null, .null, .int 0, .null, .int 0, .null, .null, .int 0, .null]), cL 64 f10]) rfl rfl ?_
  refine G_dup dX8_init_73 rfl ?_
  refine G_bipush (v := 10) dX8_init_74 (by decide) ?_
  refine G_ldc2 dX8_init_76 kX8_33 ?_
  refine G_lastN (w' := [.inr (9, [.null, .null, .null, .null, .int 0, .null, .null, .int 0, .int 0, .null, .null, .int 0, .null, .null, .null, .int 0, .null, .int 0, .null, .null, .int 0, .null, .int 0, .null, .null, .int 0, .null]), cL 64 (vp_updL f10 10 607225278)]) (10) dX8_init_79 rfl rfl (by decide) (by decide) rfl ?_
  have k11 := kst k10 (kC_tab 10 (by decide))
  replace k11 : kOk (vp_updL f10 10 607225278) 11 := k11
  generalize vp_updL f10 10 607225278 = f11 at k11 ⊢
  clear k10
  refine G_w (st' := [.ref 101, .ref 100]) (w' := [.inr (9, [.null, .null, .null, .null, .int 0, .null, .null, .int 0, .int 0, .null, .null, .int 0, .null, .null, .null, .int 0, .null, .int 0, .null, .null, .int 0, .null, .int 0, .null, .null, .int 0, .null]), cL 64 f11]) rfl rfl ?_
  refine G_dup dX8_init_80 rfl ?_
  refine G_bipush (v := 11) dX8_init_81 (by decide) ?_
  refine G_ldc2 dX8_init_83 kX8_35 ?_
  refine G_lastN (w' := [.inr (9, [.null, .null, .null, .null, .int 0, .null, .null, .int 0, .int 0, .null, .null, .int 0, .null, .null, .null, .int 0, .null, .int 0, .null, .null, .int 0, .null, .int 0, .null, .null, .int 0, .null]), cL 64 (vp_updL f11 11 1426881987)]) (11) dX8_init_86 rfl rfl (by decide) (by decide) rfl ?_
  have k12 := kst k11 (kC_tab 11 (by decide))
  replace k12 : kOk (vp_updL f11 11 1426881987) 12 := k12
  generalize vp_updL f11 11 1426881987 = f12 at k12 ⊢
  clear k11
  refine G_w (st' := [.ref 101, .ref 100]) (w' := [.inr (9, [.null, .null, .null, .null, .int 0, .null, .null, .int 0, .int 0, .null, .null, .int 0, .null, .null, .null, .int 0, .null, .int 0, .null, .null, .int 0, .null, .int 0, .null, .null, .int 0, .null]), cL 64 f12]) rfl rfl ?_
  refine G_dup dX8_init_87 rfl ?_
  refine G_bipush (v := 12) dX8_init_88 (by decide) ?_
  refine G_ldc2 dX8_init_90 kX8_37 ?_
  refine G_lastN (w' := [.inr (9, [.null, .null, .null, .null, .int 0, .null, .null, .int 0, .int 0, .null, .null, .int 0, .null, .null, .null, .int 0, .null, .int 0, .null, .null, .int 0, .null, .int 0, .null, .null, .int 0, .null]), cL 64 (vp_updL f12 12 1925078388)]) (12) dX8_init_93 rfl rfl (by decide) (by decide) rfl ?_
  have k13 := kst k12 (kC_tab 12 (by decide))
  replace k13 : kOk (vp_updL f12 12 1925078388) 13 := k13
  generalize vp_updL f12 12 1925078388 = f13 at k13 ⊢
  clear k12
  refine G_w (st' := [.ref 101, .ref 100]) (w' := [.inr (9, [.null, .null, .null, .null, .int 0, .null, .null, .int 0, .int 0, .null, .null, .int 0, .null, .null, .null, .int 0, .null, .int 0, .null, .null, .int 0, .null, .int 0, .null, .null, .int 0, .null]), cL 64 f13]) rfl rfl ?_
  refine G_dup dX8_init_94 rfl ?_
  refine G_bipush (v := 13) dX8_init_95 (by decide) ?_
  refine G_ldc2 dX8_init_97 kX8_39 ?_
  refine G_lastN (w' := [.inr (9, [.null, .null, .null, .null, .int 0, .null, .null, .int 0, .int 0, .null, .null, .int 0, .null, .null, .null, .int 0, .null, .int 0, .null, .null, .int 0, .null, .int 0, .null, .null, .int 0, .null]), cL 64 (vp_updL f13 13 2162078206)]) (13) dX8_init_100 rfl rfl (by decide) (by decide) rfl ?_
  have k14 := kst k13 (kC_tab 13 (by decide))
  replace k14 : kOk (vp_updL f13 13 2162078206) 14 := k14
  generalize vp_updL f13 13 2162078206 = f14 at k14 ⊢
  clear k13
  refine G_w (st' := [.ref 101, .ref 100]) (w' := [.inr (9, [.null, .null, .null, .null, .int 0, .null, .null, .int 0, .int 0, .null, .null, .int 0, .null, .null, .null, .int 0, .null, .int 0, .null, .null, .int 0, .null, .int 0, .null, .null, .int 0, .null]), cL 64 f14]) rfl rfl ?_
  refine G_dup dX8_init_101 rfl ?_
  refine G_bipush (v := 14) dX8_init_102 (by decide) ?_
  refine G_ldc2 dX8_init_104 kX8_41 ?_
  refine G_lastN (w' := [.inr (9, [.null, .null, .null, .null, .int 0, .null, .null, .int 0, .int 0, .null, .null, .int 0, .null, .null, .null, .int 0, .null, .int 0, .null, .null, .int 0, .null, .int 0, .null, .null, .int 0, .null]), cL 64 (vp_updL f14 14 2614888103)]) (14) dX8_init_107 rfl rfl (by decide) (by decide) rfl ?_
  have k15 := kst k14 (kC_tab 14 (by decide))
  replace k15 : kOk (vp_updL f14 14 2614888103) 15 := k15
  generalize vp_updL f14 14 2614888103 = f15 at k15 ⊢
  clear k14
  refine G_w (st' := [.ref 101, .ref 100]) (w' := [.inr (9, [.null, .null, .null, .null, .int 0, .null, .null, .int 0, .int 0, .null, .null, .int 0, .null, .null, .null, .int 0, .null, .int 0, .null, .null, .int 0, .null, .int 0, .null, .null, .int 0, .null]), cL 64 f15]) rfl rfl ?_
  refine G_dup dX8_init_108 rfl ?_
  refine G_bipush (v := 15) dX8_init_109 (by decide) ?_
  refine G_ldc2 dX8_init_111 kX8_43 ?_
  refine G_lastN (w' := [.inr (9, [.null, .null, .null, .null, .int 0, .null, .null, .int 0, .int 0, .null, .null, .int 0, .null, .null, .null, .int 0, .null, .int 0, .null, .null, .int 0, .null, .int 0, .null, .null, .int 0, .null]), cL 64 (vp_updL f15 15 3248222580)]) (15) dX8_init_114 rfl rfl (by decide) (by decide) rfl ?_
  have k16 := kst k15 (kC_tab 15 (by decide))
  replace k16 : kOk (vp_updL f15 15 3248222580) 16 := k16
  generalize vp_updL f15 15 3248222580 = f16 at k16 ⊢
  clear k15
  refine G_w (st' := [.ref 101, .ref 100]) (w' := [.inr (9, [.null, .null, .null, .null, .int 0, .null, .null, .int 0, .int 0, .null, .null, .int 0, .null, .null, .null, .int 0, .null, .int 0, .null, .null, .int 0, .null, .int 0, .null, .null, .int 0, .null]), cL 64 f16]) rfl rfl ?_
  refine G_dup dX8_init_115 rfl ?_
  refine G_bipush (v := 16) dX8_init_116 (by decide) ?_
  refine G_ldc2 dX8_init_118 kX8_45 ?_
  refine G_lastN (w' := [.inr (9, [.null, .null, .null, .null, .int 0, .null, .null, .int 0, .int 0, .null, .null, .int 0, .null, .null, .null, .int 0, .null, .int 0, .null, .null, .int 0, .null, .int 0, .null, .null, .int 0, .null]), cL 64 (vp_updL f16 16 3835390401)]) (16) dX8_init_121 rfl rfl (by decide) (by decide) rfl ?_
  have k17 := kst k16 (kC_tab 16 (by decide))
  replace k17 : kOk (vp_updL f16 16 3835390401) 17 := k17
  generalize vp_updL f16 16 3835390401 = f17 at k17 ⊢
  clear k16
  refine G_w (st' := [.ref 101, .ref 100]) (w' := [.inr (9, [.null, .null, .null, .null, .int 0, .null, .null, .int 0, .int 0, .null, .null, .int 0, .null, .null, .null, .int 0, .null, .int 0, .null, .null, .int 0, .null, .int 0, .null, .null, .int 0, .null]), cL 64 f17]) rfl rfl ?_
  refine G_dup dX8_init_122 rfl ?_
  refine G_bipush (v := 17) dX8_init_123 (by decide) ?_
  refine G_ldc2 dX8_init_125 kX8_47 ?_
  refine G_lastN (w' := [.inr (9, [.null, .null, .null, .null, .int 0, .null, .null, .int 0, .int 0, .null, .null, .int 0, .null, .null, .null, .int 0, .null, .int 0, .null, .null, .int 0, .null, .int 0, .null, .null, .int 0, .null]), cL 64 (vp_updL f17 17 4022224774)]) (17) dX8_init_128 rfl rfl (by decide) (by decide) rfl ?_
  have k18 := kst k17 (kC_tab 17 (by decide))
  replace k18 : kOk (vp_updL f17 17 4022224774) 18 := k18
  generalize vp_updL f17 17 4022224774 = f18 at k18 ⊢
  clear k17
  refine G_w (st' := [.ref 101, .ref 100]) (w' := [.inr (9, [.null, .null, .null, .null, .int 0, .null, .null, .int 0, .int 0, .null, .null, .int 0, .null, .null, .null, .int 0, .null, .int 0, .null, .null, .int 0, .null, .int 0, .null, .null, .int 0, .null]), cL 64 f18]) rfl rfl ?_
  refine G_dup dX8_init_129 rfl ?_
  refine G_bipush (v := 18) dX8_init_130 (by decide) ?_
  refine G_ldc2 dX8_init_132 kX8_49 ?_
  refine G_lastN (w' := [.inr (9, [.null, .null, .null, .null, .int 0, .null, .null, .int 0, .int 0, .null, .null, .int 0, .null, .null, .null, .int 0, .null, .int 0, .null, .null, .int 0, .null, .int 0, .null, .null, .int 0, .null]), cL 64 (vp_updL f18 18 264347078)]) (18) dX8_init_135 rfl rfl (by decide) (by decide) rfl ?_
  have k19 := kst k18 (kC_tab 18 (by decide))
  replace k19 : kOk (vp_updL f18 18 264347078) 19 := k19
  generalize vp_updL f18 18 264347078 = f19 at k19 ⊢
  clear k18
  refine G_w (st' := [.ref 101, .ref 100]) (w' := [.inr (9, [.null, .null, .null, .null, .int 0, .null, .null, .int 0, .int 0, .null, .null, .int 0, .null, .null, .null, .int 0, .null, .int 0, .null, .null, .int 0, .null, .int 0, .null, .null, .int 0, .null]), cL 64 f19]) rfl rfl ?_
  refine G_dup dX8_init_136 rfl ?_
  refine G_bipush (v := 19) dX8_init_137 (by decide) ?_
  refine G_ldc2 dX8_init_139 kX8_51 ?_
  refine G_lastN (w' := [.inr (9, [.null, .null, .null, .null, .int 0, .null, .null, .int 0, .int 0, .null, .null, .int 0, .null, .null, .null, .int 0, .null, .int 0, .null, .null, .int 0, .null, .int 0, .null, .null, .int 0, .null]), cL 64 (vp_updL f19 19 604807628)]) (19) dX8_init_142 rfl rfl (by decide) (by decide) rfl ?_
  have k20 := kst k19 (kC_tab 19 (by decide))
  replace k20 : kOk (vp_updL f19 19 604807628) 20 := k20
  generalize vp_updL f19 19 604807628 = f20 at k20 ⊢
  clear k19
  refine G_w (st' := [.ref 101, .ref 100]) (w' := [.inr (9, [.null, .null, .null, .null, .int 0, .null, .null, .int 0, .int 0, .null, .null, .int 0, .null, .null, .null, .int 0, .null, .int 0, .null, .null, .int 0, .null, .int 0, .null, .null, .int 0, .null]), cL 64 f20]) rfl rfl ?_
  refine G_dup dX8_init_143 rfl ?_
  refine G_bipush (v := 20) dX8_init_144 (by decide) ?_
  refine G_ldc2 dX8_init_146 kX8_53 ?_
  refine G_lastN (w' := [.inr (9, [.null, .null, .null, .null, .int 0, .null, .null, .int 0, .int 0, .null, .null, .int 0, .null, .null, .null, .int 0, .null, .int 0, .null, .null, .int 0, .null, .int 0, .null, .null, .int 0, .null]), cL 64 (vp_updL f20 20 770255983)]) (20) dX8_init_149 rfl rfl (by decide) (by decide) rfl ?_
  have k21 := kst k20 (kC_tab 20 (by decide))
  replace k21 : kOk (vp_updL f20 20 770255983) 21 := k21
  generalize vp_updL f20 20 770255983 = f21 at k21 ⊢
  clear k20
  refine G_w (st' := [.ref 101, .ref 100]) (w' := [.inr (9, [.null, .null, .null, .null, .int 0, .null, .null, .int 0, .int 0, .null, .null, .int 0, .null, .null, .null, .int 0, .null, .int 0, .null, .null, .int 0, .null, .int 0, .null, .null, .int 0, .null]), cL 64 f21]) rfl rfl ?_
  refine G_dup dX8_init_150 rfl ?_
  refine G_bipush (v := 21) dX8_init_151 (by decide) ?_
  refine G_ldc2 dX8_init_153 kX8_55 ?_
  refine G_lastN (w' := [.inr (9, [.null, .null, .null, .null, .int 0, .null, .null, .int 0, .int 0, .null, .null, .int 0, .null, .null, .null, .int 0, .null, .int 0, .null, .null, .int 0, .null, .int 0, .null, .null, .int 0, .null]), cL 64 (vp_updL f21 21 1249150122)]) (21) dX8_init_156 rfl rfl (by decide) (by decide) rfl ?_
  have k22 := kst k21 (kC_tab 21 (by decide))
  replace k22 : kOk (vp_updL f21 21 1249150122) 22 := k22
  generalize vp_updL f21 21 1249150122 = f22 at k22 ⊢
  clear k21
  refine G_w (st' := [.ref 101, .ref 100]) (w' := [.inr (9, [.null, .null, .null, .null, .int 0, .null, .null, .int 0, .int 0, .null, .null, .int 0, .null, .null, .null, .int 0, .null, .int 0, .null, .null, .int 0, .null, .int 0, .null, .null, .int 0, .null]), cL 64 f22]) rfl rfl ?_
  refine G_dup dX8_init_157 rfl ?_
  refine G_bipush (v := 22) dX8_init_158 (by decide) ?_
  refine G_ldc2 dX8_init_160 kX8_57 ?_
  refine G_lastN (w' := [.inr (9, [.null, .null, .null, .null, .int 0, .null, .null, .int 0, .int 0, .null, .null, .int 0, .null, .null, .null, .int 0, .null, .int 0, .null, .null, .int 0, .null, .int 0, .null, .null, .int 0, .null]), cL 64 (vp_updL f22 22 1555081692)]) (22) dX8_init_163 rfl rfl (by decide) (by decide) rfl ?_
  have k23 := kst k22 (kC_tab 22 (by decide))
  replace k23 : kOk (vp_updL f22 22 1555081692) 23 := k23
  generalize vp_updL f22 22 1555081692 = f23 at k23 ⊢
  clear k22
  refine G_w (st' := [.ref 101, .ref 100]) (w' := [.inr (9, [.null, .null, .null, .null, .int 0, .null, .null, .int 0, .int 0, .null, .null, .int 0, .null, .null, .null, .int 0, .null, .int 0, .null, .null, .int 0, .null, .int 0, .null, .null, .int 0, .null]), cL 64 f23]) rfl rfl ?_
  refine G_dup dX8_init_164 rfl ?_
  refine G_bipush (v := 23) dX8_init_165 (by decide) ?_
  refine G_ldc2 dX8_init_167 kX8_59 ?_
  refine G_lastN (w' := [.inr (9, [.null, .null, .null, .null, .int 0, .null, .null, .int 0, .int 0, .null, .null, .int 0, .null, .null, .null, .int 0, .null, .int 0, .null, .null, .int 0, .null, .int 0, .null, .null, .int 0, .null]), cL 64 (vp_updL f23 23 1996064986)]) (23) dX8_init_170 rfl rfl (by decide) (by decide) rfl ?_
  have k24 := kst k23 (kC_tab 23 (by decide))
  replace k24 : kOk (vp_updL f23 23 1996064986) 24 := k24
  generalize vp_updL f23 23 1996064986 = f24 at k24 ⊢
  clear k23
  refine G_w (st' := [.ref 101, .ref 100]) (w' := [.inr (9, [.null, .null, .null, .null, .int 0, .null, .null, .int 0, .int 0, .null, .null, .int 0, .null, .null, .null, .int 0, .null, .int 0, .null, .null, .int 0, .null, .int 0, .null, .null, .int 0, .null]), cL 64 f24]) rfl rfl ?_
  refine G_dup dX8_init_171 rfl ?_
  refine G_bipush (v := 24) dX8_init_172 (by decide) ?_
  refine G_ldc2 dX8_init_174 kX8_61 ?_
  refine G_lastN (w' := [.inr (9, [.null, .null, .null, .null, .int 0, .null, .null, .int 0, .int 0, .null, .null, .int 0, .null, .null, .null, .int 0, .null, .int 0, .null, .null, .int 0, .null, .int 0, .null, .null, .int 0, .null]), cL 64 (vp_updL f24 24 2554220882)]) (24) dX8_init_177 rfl rfl (by decide) (by decide) rfl ?_
  have k25 := kst k24 (kC_tab 24 (by decide))
  replace k25 : kOk (vp_updL f24 24 2554220882) 25 := k25
  generalize vp_updL f24 24 2554220882 = f25 at k25 ⊢
  clear k24
  refine G_w (st' := [.ref 101, .ref 100]) (w' := [.inr (9, [.null, .null, .null, .null, .int 0, .null, .null, .int 0, .int 0, .null, .null, .int 0, .null, .null, .null, .int 0, .null, .int 0, .null, .null, .int 0, .null, .int 0, .null, .null, .int 0, .null]), cL 64 f25]) rfl rfl ?_
  refine G_dup dX8_init_178 rfl ?_
  refine G_bipush (v := 25) dX8_init_179 (by decide) ?_
  refine G_ldc2 dX8_init_181 kX8_63 ?_
  refine G_lastN (w' := [.inr (9, [.null, .null, .null, .null, .int 0, .null, .null, .int 0, .int 0, .null, .null, .int 0, .null, .null, .null, .int 0, .null, .int 0, .null, .null, .int 0, .null, .int 0, .null, .null, .int 0, .null]), cL 64 (vp_updL f25 25 2821834349)]) (25) dX8_init_184 rfl rfl (by decide) (by decide) rfl ?_
  have k26 := kst k25 (kC_tab 25 (by decide))
  replace k26 : kOk (vp_updL f25 25 2821834349) 26 := k26
  generalize vp_updL f25 25 2821834349 = f26 at k26 ⊢
  clear k25
  refine G_w (st' := [.ref 101, .ref 100]) (w' := [.inr (9, [.null, .null, .null, .null, .int 0, .null, .null, .int 0, .int 0, .null, .null, .int 0, .null, .null, .null, .int 0, .null, .int 0, .null, .null, .int 0, .null, .int 0, .null, .null, .int 0, .null]), cL 64 f26]) rfl rfl ?_
  refine G_dup dX8_init_185 rfl ?_
  refine G_bipush (v := 26) dX8_init_186 (by decide) ?_
  refine G_ldc2 dX8_init_188 kX8_65 ?_
  refine G_lastN (w' := [.inr (9, [.null, .null, .null, .null, .int 0, .null, .null, .int 0, .int 0, .null, .null, .int 0, .null, .null, .null, .int 0, .null, .int 0, .null, .null, .int 0, .null, .int 0, .null, .null, .int 0, .null]), cL 64 (vp_updL f26 26 2952996808)]) (26) dX8_init_191 rfl rfl (by decide) (by decide) rfl ?_
  have k27 := kst k26 (kC_tab 26 (by decide))
  replace k27 : kOk (vp_updL f26 26 2952996808) 27 := k27
  generalize vp_updL f26 26 2952996808 = f27 at k27 ⊢
  clear k26
  refine G_w (st' := [.ref 101, .ref 100]) (w' := [.inr (9, [.null, .null, .null, .null, .int 0, .null, .null, .int 0, .int 0, .null, .null, .int 0, .null, .null, .null, .int 0, .null, .int 0, .null, .null, .int 0, .null, .int 0, .null, .null, .int 0, .null]), cL 64 f27]) rfl rfl ?_
  refine G_dup dX8_init_192 rfl ?_
  refine G_bipush (v := 27) dX8_init_193 (by decide) ?_
  refine G_ldc2 dX8_init_195 kX8_67 ?_
  refine G_lastN (w' := [.inr (9, [.null, .null, .null, .null, .int 0, .null, .null, .int 0, .int 0, .null, .null, .int 0, .null, .null, .null, .int 0, .null, .int 0, .null, .null, .int 0, .null, .int 0, .null, .null, .int 0, .null]), cL 64 (vp_updL f27 27 3210313671)]) (27) dX8_init_198 rfl rfl (by decide) (by decide) rfl ?_
  have k28 := kst k27 (kC_tab 27 (by decide))
  replace k28 : kOk (vp_updL f27 27 3210313671) 28 := k28
  generalize vp_updL f27 27 3210313671 = f28 at k28 ⊢
  clear k27
  refine G_w (st' := [.ref 101, .ref 100]) (w' := [.inr (9, [.null, .null, .null, .null, .int 0, .null, .null, .int 0, .int 0, .null, .null, .int 0, .null, .null, .null, .int 0, .null, .int 0, .null, .null, .int 0, .null, .int 0, .null, .null, .int 0, .null]), cL 64 f28]) rfl rfl ?_
  refine G_dup dX8_init_199 rfl ?_
  refine G_bipush (v := 28) dX8_init_200 (by decide) ?_
  refine G_ldc2 dX8_init_202 kX8_69 ?_
  refine G_lastN (w' := [.inr (9, [.null, .null, .null, .null, .int 0, .null, .null, .int 0, .int 0, .null, .null, .int 0, .null, .null, .null, .int 0, .null, .int 0, .null, .null, .int 0, .null, .int 0, .null, .null, .int 0, .null]), cL 64 (vp_updL f28 28 3336571891)]) (28) dX8_init_205 rfl rfl (by decide) (by decide) rfl ?_
  have k29 := kst k28 (kC_tab 28 (by decide))
  replace k29 : kOk (vp_updL f28 28 3336571891) 29 := k29
  generalize vp_updL f28 28 3336571891 = f29 at k29 ⊢
  clear k28
  refine G_w (st' := [.ref 101, .ref 100]) (w' := [.inr (9, [.null, .null, .null, .null, .int 0, .null, .null, .int 0, .int 0, .null, .null, .int 0, .null, .null, .null, .int 0, .null, .int 0, .null, .null, .int 0, .null, .int 0, .null, .null, .int 0, .null]), cL 64 f29]) rfl rfl ?_
  refine G_dup dX8_init_206 rfl ?_
  refine G_bipush (v := 29) dX8_init_207 (by decide) ?_
  refine G_ldc2 dX8_init_209 kX8_71 ?_
  refine G_lastN (w' := [.inr (9, [.null, .null, .null, .null, .int 0, .null, .null, .int 0, .int 0, .null, .null, .int 0, .null, .null, .null, .int 0, .null, .int 0, .null, .null, .int 0, .null, .int 0, .null, .null, .int 0, .null]), cL 64 (vp_updL f29 29 3584528711)]) (29) dX8_init_212 rfl rfl (by decide) (by decide) rfl ?_
  have k30 := kst k29 (kC_tab 29 (by decide))
  replace k30 : kOk (vp_updL f29 29 3584528711) 30 := k30
  generalize vp_updL f29 29 3584528711 = f30 at k30 ⊢
  clear k29
  refine G_w (st' := [.ref 101, .ref 100]) (w' := [.inr (9, [.null, .null, .null, .null, .int 0, .null, .null, .int 0, .int 0, .null, .null, .int 0, .null, .null, .null, .int 0, .null, .int 0, .null, .null, .int 0, .null, .int 0, .null, .null, .int 0, .null]), cL 64 f30]) rfl rfl ?_
  refine G_dup dX8_init_213 rfl ?_
  refine G_bipush (v := 30) dX8_init_214 (by decide) ?_
  refine G_ldc2 dX8_init_216 kX8_73 ?_
  refine G_lastN (w' := [.inr (9, [.null, .null, .null, .null, .int 0, .null, .null, .int 0, .int 0, .null, .null, .int 0, .null, .null, .null, .int 0, .null, .int 0, .null, .null, .int 0, .null, .int 0, .null, .null, .int 0, .null]), cL 64 (vp_updL f30 30 113926993)]) (30) dX8_init_219 rfl rfl (by decide) (by decide) rfl ?_
  have k31 := kst k30 (kC_tab 30 (by decide))
  replace k31 : kOk (vp_updL f30 30 113926993) 31 := k31
  generalize vp_updL f30 30 113926993 = f31 at k31 ⊢
  clear k30
  refine G_w (st' := [.ref 101, .ref 100]) (w' := [.inr (9, [.null, .null, .null, .null, .int 0, .null, .null, .int 0, .int 0, .null, .null, .int 0, .null, .null, .null, .int 0, .null, .int 0, .null, .null, .int 0, .null, .int 0, .null, .null, .int 0, .null]), cL 64 f31]) rfl rfl ?_
  refine G_dup dX8_init_220 rfl ?_
  refine G_bipush (v := 31) dX8_init_221 (by decide) ?_
  refine G_ldc2 dX8_init_223 kX8_75 ?_
  refine G_lastN (w' := [.inr (9, [.null, .null, .null, .null, .int 0, .null, .null, .int 0, .int 0, .null, .null, .int 0, .null, .null, .null, .int 0, .null, .int 0, .null, .null, .int 0, .null, .int 0, .null, .null, .int 0, .null]), cL 64 (vp_updL f31 31 338241895)]) (31) dX8_init_226 rfl rfl (by decide) (by decide) rfl ?_
  have k32 := kst k31 (kC_tab 31 (by decide))
  replace k32 : kOk (vp_updL f31 31 338241895) 32 := k32
  generalize vp_updL f31 31 338241895 = f32 at k32 ⊢
  clear k31
  refine G_w (st' := [.ref 101, .ref 100]) (w' := [.inr (9, [.null, .null, .null, .null, .int 0, .null, .null, .int 0, .int 0, .null, .null, .int 0, .null, .null, .null, .int 0, .null, .int 0, .null, .null, .int 0, .null, .int 0, .null, .null, .int 0, .null]), cL 64 f32]) rfl rfl ?_
  refine G_dup dX8_init_227 rfl ?_
  refine G_bipush (v := 32) dX8_init_228 (by decide) ?_
  refine G_ldc2 dX8_init_230 kX8_77 ?_
  refine G_lastN (w' := [.inr (9, [.null, .null, .null, .null, .int 0, .null, .null, .int 0, .int 0, .null, .null, .int 0, .null, .null, .null, .int 0, .null, .int 0, .null, .null, .int 0, .null, .int 0, .null, .null, .int 0, .null]), cL 64 (vp_updL f32 32 666307205)]) (32) dX8_init_233 rfl rfl (by decide) (by decide) rfl ?_
  have k33 := kst k32 (kC_tab 32 (by decide))
  replace k33 : kOk (vp_updL f32 32 666307205) 33 := k33
  generalize vp_updL f32 32 666307205 = f33 at k33 ⊢
  clear k32
  refine G_w (st' := [.ref 101, .ref 100]) (w' := [.inr (9, [.null, .null, .null, .null, .int 0, .null, .null, .int 0, .int 0, .null, .null, .int 0, .null, .null, .null, .int 0, .null, .int 0, .null, .null, .int 0, .null, .int 0, .null, .null, .int 0, .null]), cL 64 f33]) rfl rfl ?_
  refine G_dup dX8_init_234 rfl ?_
  refine G_bipush (v := 33) dX8_init_235 (by decide) ?_
  refine G_ldc2 dX8_init_237 kX8_79 ?_
  refine G_lastN (w' := [.inr (9, [.null, .null, .null, .null, .int 0, .null, .null, .int 0, .int 0, .null, .null, .int 0, .null, .null, .null, .int 0, .null, .int 0, .null, .null, .int 0, .null, .int 0, .null, .null, .int 0, .null]), cL 64 (vp_updL f33 33 773529912)]) (33) dX8_init_240 rfl rfl (by decide) (by decide) rfl ?_
  have k34 := kst k33 (kC_tab 33 (by decide))
  replace k34 : kOk (vp_updL f33 33 773529912) 34 := k34
  generalize vp_updL f33 33 773529912 = f34 at k34 ⊢
  clear k33
  refine G_w (st' := [.ref 101, .ref 100]) (w' := [.inr (9, [.null, .null, .null, .null, .int 0, .null, .null, .int 0, .int 0, .null, .null, .int 0, .null, .null, .null, .int 0, .null, .int 0, .null, .null, .int 0, .null, .int 0, .null, .null, .int 0, .null]), cL 64 f34]) rfl rfl ?_
  refine G_dup dX8_init_241 rfl ?_
  refine G_bipush (v := 34) dX8_init_242 (by decide) ?_
  refine G_ldc2 dX8_init_244 kX8_81 ?_
  refine G_lastN (w' := [.inr (9, [.null, .null, .null, .null, .int 0, .null, .null, .int 0, .int 0, .null, .null, .int 0, .null, .null, .null, .int 0, .null, .int 0, .null, .null, .int 0, .null, .int 0, .null, .null, .int 0, .null]), cL 64 (vp_updL f34 34 1294757372)]) (34) dX8_init_247 rfl rfl (by decide) (by decide) rfl ?_
  have k35 := kst k34 (kC_tab 34 (by decide))
  replace k35 : kOk (vp_updL f34 34 1294757372) 35 := k35
  generalize vp_updL f34 34 1294757372 = f35 at k35 ⊢
  clear k34
  refine G_w (st' := [.ref 101, .ref 100]) (w' := [.inr (9, [.null, .null, .null, .null, .int 0, .null, .null, .int 0, .int 0, .null, .null, .int 0, .null, .null, .null, .int 0, .null, .int 0, .null, .null, .int 0, .null, .int 0, .null, .null, .int 0, .null]), cL 64 f35]) rfl rfl ?_
  refine G_dup dX8_init_248 rfl ?_
  refine G_bipush (v := 35) dX8_init_249 (by decide) ?_
  refine G_ldc2 dX8_init_251 kX8_83 ?_
  refine G_lastN (w' := [.inr (9, [.null, .null, .null, .null, .int 0, .null, .null, .int 0, .int 0, .null, .null, .int 0, .null, .null, .null, .int 0, .null, .int 0, .null, .null, .int 0, .null, .int 0, .null, .null, .int 0, .null]), cL 64 (vp_updL f35 35 1396182291)]) (35) dX8_init_254 rfl rfl (by decide) (by decide) rfl ?_
  have k36 := kst k35 (kC_tab 35 (by decide))
  replace k36 : kOk (vp_updL f35 35 1396182291) 36 := k36
  generalize vp_updL f35 35 1396182291 = f36 at k36 ⊢
  clear k35
  refine G_w (st' := [.ref 101, .ref 100]) (w' := [.inr (9, [.null, .null, .null, .null, .int 0, .null, .null, .int 0, .int 0, .null, .null, .int 0, .null, .null, .null, .int 0, .null, .int 0, .null, .null, .int 0, .null, .int 0, .null, .null, .int 0, .null]), cL 64 f36]) rfl rfl ?_
  refine G_dup dX8_init_255 rfl ?_
  refine G_bipush (v := 36) dX8_init_256 (by decide) ?_
  refine G_ldc2 dX8_init_258 kX8_85 ?_
  refine G_lastN (w' := [.inr (9, [.null, .null, .null, .null, .int 0, .null, .null, .int 0, .int 0, .null, .null, .int 0, .null, .null, .null, .int 0, .null, .int 0, .null, .null, .int 0, .null, .int 0, .null, .null, .int 0, .null]), cL 64 (vp_updL f36 36 1695183700)]) (36) dX8_init_261 rfl rfl (by decide) (by decide) rfl ?_
  have k37 := kst k36 (kC_tab 36 (by decide))
  replace k37 : kOk (vp_updL f36 36 1695183700) 37 := k37
  generalize vp_updL f36 36 1695183700 = f37 at k37 ⊢
  clear k36
  refine G_w (st' := [.ref 101, .ref 100]) (w' := [.inr (9, [.null, .null, .null, .null, .int 0, .null, .null, .int 0, .int 0, .null, .null, .int 0, .null, .null, .null, .int 0, .null, .int 0, .null, .null, .int 0, .null, .int 0, .null, .null, .int 0, .null]), cL 64 f37]) rfl rfl ?_
  refine G_dup dX8_init_262 rfl ?_
  refine G_bipush (v := 37) dX8_init_263 (by decide) ?_
  refine G_ldc2 dX8_init_265 kX8_87 ?_
  refine G_lastN (w' := [.inr (9, [.null, .null, .null, .null, .int 0, .null, .null, .int 0, .int 0, .null, .null, .int 0, .null, .null, .null, .int 0, .null, .int 0, .null, .null, .int 0, .null, .int 0, .null, .null, .int 0, .null]), cL 64 (vp_updL f37 37 1986661051)]) (37) dX8_init_268 rfl rfl (by decide) (by decide) rfl ?_
  have k38 := kst k37 (kC_tab 37 (by decide))
  replace k38 : kOk (vp_updL f37 37 1986661051) 38 := k38
  generalize vp_updL f37 37 1986661051 = f38 at k38 ⊢
  clear k37
  refine G_w (st' := [.ref 101, .ref 100]) (w' := [.inr (9, [.null, .null, .null, .null, .int 0, .null, .null, .int 0, .int 0, .null, .null, .int 0, .null, .null, .null, .int 0, .null, .int 0, .null, .null, .int 0, .null, .int 0, .null, .null, .int 0, .null]), cL 64 f38]) rfl rfl ?_
  refine G_dup dX8_init_269 rfl ?_
  refine G_bipush (v := 38) dX8_init_270 (by decide) ?_
  refine G_ldc2 dX8_init_272 kX8_89 ?_
  refine G_lastN (w' := [.inr (9, [.null, .null, .null, .null, .int 0, .null, .null, .int 0, .int 0, .null, .null, .int 0, .null, .null, .null, .int 0, .null, .int 0, .null, .null, .int 0, .null, .int 0, .null, .null, .int 0, .null]), cL 64 (vp_updL f38 38 2177026350)]) (38) dX8_init_275 rfl rfl (by decide) (by decide) rfl ?_
  have k39 := kst k38 (kC_tab 38 (by decide))
  replace k39 : kOk (vp_updL f38 38 2177026350) 39 := k39
  generalize vp_updL f38 38 2177026350 = f39 at k39 ⊢
  clear k38
  refine G_w (st' := [.ref 101, .ref 100]) (w' := [.inr (9, [.null, .null, .null, .null, .int 0, .null, .null, .int 0, .int 0, .null, .null, .int 0, .null, .null, .null, .int 0, .null, .int 0, .null, .null, .int 0, .null, .int 0, .null, .null, .int 0, .null]), cL 64 f39]) rfl rfl ?_
  refine G_dup dX8_init_276 rfl ?_
  refine G_bipush (v := 39) dX8_init_277 (by decide) ?_
  refine G_ldc2 dX8_init_279 kX8_91 ?_
  refine G_lastN (w' := [.inr (9, [.null, .null, .null, .null, .int 0, .null, .null, .int 0, .int 0, .null, .null, .int 0, .null, .null, .null, .int 0, .null, .int 0, .null, .null, .int 0, .null, .int 0, .null, .null, .int 0, .null]), cL 64 (vp_updL f39 39 2456956037)]) (39) dX8_init_282 rfl rfl (by decide) (by decide) rfl ?_
  have k40 := kst k39 (kC_tab 39 (by decide))
  replace k40 : kOk (vp_updL f39 39 2456956037) 40 := k40
  generalize vp_updL f39 39 2456956037 = f40 at k40 ⊢
  clear k39
  refine G_w (st' := [.ref 101, .ref 100]) (w' := [.inr (9, [.null, .null, .null, .null, .int 0, .null, .null, .int 0, .int 0, .null, .null, .int 0, .null, .null, .null, .int 0, .null, .int 0, .null, .null, .int 0, .null, .int 0, .null, .null, .int 0, .null]), cL 64 f40]) rfl rfl ?_
  refine G_dup dX8_init_283 rfl ?_
  refine G_bipush (v := 40) dX8_init_284 (by decide) ?_
  refine G_ldc2 dX8_init_286 kX8_93 ?_
  refine G_lastN (w' := [.inr (9, [.null, .null, .null, .null, .int 0, .null, .null, .int 0, .int 0, .null, .null, .int 0, .null, .null, .null, .int 0, .null, .int 0, .null, .null, .int 0, .null, .int 0, .null, .null, .int 0, .null]), cL 64 (vp_updL f40 40 2730485921)]) (40) dX8_init_289 rfl rfl (by decide) (by decide) rfl ?_
  have k41 := kst k40 (kC_tab 40 (by decide))
  replace k41 : kOk (vp_updL f40 40 2730485921) 41 := k41
  generalize vp_updL f40 40 2730485921 = f41 at k41 ⊢
  clear k40
  refine G_w (st' := [.ref 101, .ref 100]) (w' := [.inr (9, [.null, .null, .null, .null, .int 0, .null, .null, .int 0, .int 0, .null, .null, .int 0, .null, .null, .null, .int 0, .null, .int 0, .null, .null, .int 0, .null, .int 0, .null, .null, .int 0, .null]), cL 64 f41]) rfl rfl ?_
  refine G_dup dX8_init_290 rfl ?_
  refine G_bipush (v := 41) dX8_init_291 (by decide) ?_
  refine G_ldc2 dX8_init_293 kX8_95 ?_
  refine G_lastN (w' := [.inr (9, [.null, .null, .null, .null, .int 0, .null, .null, .int 0, .int 0, .null, .null, .int 0, .null, .null, .null, .int 0, .null, .int 0, .null, .null, .int 0, .null, .int 0, .null, .null, .int 0, .null]), cL 64 (vp_updL f41 41 2820302411)]) (41) dX8_init_296 rfl rfl (by decide) (by decide) rfl ?_
  have k42 := kst k41 (kC_tab 41 (by decide))
  replace k42 : kOk (vp_updL f41 41 2820302411) 42 := k42
  generalize vp_updL f41 41 2820302411 = f42 at k42 ⊢
  clear k41
  refine G_w (st' := [.ref 101, .ref 100]) (w' := [.inr (9, [.null, .null, .null, .null, .int 0, .null, .null, .int 0, .int 0, .null, .null, .int 0, .null, .null, .null, .int 0, .null, .int 0, .null, .null, .int 0, .null, .int 0, .null, .null, .int 0, .null]), cL 64 f42]) rfl rfl ?_
  refine G_dup dX8_init_297 rfl ?_
  refine G_bipush (v := 42) dX8_init_298 (by decide) ?_
  refine G_ldc2 dX8_init_300 kX8_97 ?_
  refine G_lastN (w' := [.inr (9, [.null, .null, .null, .null, .int 0, .null, .null, .int 0, .int 0, .null, .null, .int 0, .null, .null, .null, .int 0, .null, .int 0, .null, .null, .int 0, .null, .int 0, .null, .null, .int 0, .null]), cL 64 (vp_updL f42 42 3259730800)]) (42) dX8_init_303 rfl rfl (by decide) (by decide) rfl ?_
  have k43 := kst k42 (kC_tab 42 (by decide))
  replace k43 : kOk (vp_updL f42 42 3259730800) 43 := k43
  generalize vp_updL f42 42 3259730800 = f43 at k43 ⊢
  clear k42
  refine G_w (st' := [.ref 101, .ref 100]) (w' := [.inr (9, [.null, .null, .null, .null, .int 0, .null, .null, .int 0, .int 0, .null, .null, .int 0, .null, .null, .null, .int 0, .null, .int 0, .null, .null, .int 0, .null, .int 0, .null, .null, .int 0, .null]), cL 64 f43]) rfl rfl ?_
  refine G_dup dX8_init_304 rfl ?_
  refine G_bipush (v := 43) dX8_init_305 (by decide) ?_
  refine G_ldc2 dX8_init_307 kX8_99 ?_
  refine G_lastN (w' := [.inr (9, [.null, .null, .null, .null, .int 0, .null, .null, .int 0, .int 0, .null, .null, .int 0, .null, .null, .null, .int 0, .null, .int 0, .null, .null, .int 0, .null, .int 0, .null, .null, .int 0, .null]), cL 64 (vp_updL f43 43 3345764771)]) (43) dX8_init_310 rfl rfl (by decide) (by decide) rfl ?_
  have k44 := kst k43 (kC_tab 43 (by decide))
  replace k44 : kOk (vp_updL f43 43 3345764771) 44 := k44
  generalize vp_updL f43 43 3345764771 = f44 at k44 ⊢
  clear k43
  refine G_w (st' := [.ref 101, .ref 100]) (w' := [.inr (9, [.null, .null, .null, .null, .int 0, .null, .null, .int 0, .int 0, .null, .null, .int 0, .null, .null, .null, .int 0, .null, .int 0, .null, .null, .int 0, .null, .int 0, .null, .null, .int 0, .null]), cL 64 f44]) rfl rfl ?_
  refine G_dup dX8_init_311 rfl ?_
  refine G_bipush (v := 44) dX8_init_312 (by decide) ?_
  refine G_ldc2 dX8_init_314 kX8_101 ?_
  refine G_lastN (w' := [.inr (9, [.null, .null, .null, .null, .int 0, .null, .null, .int 0, .int 0, .null, .null, .int 0, .null, .null, .null, .int 0, .null, .int 0, .null, .null, .int 0, .null, .int 0, .null, .null, .int 0, .null]), cL 64 (vp_updL f44 44 3516065817)]) (44) dX8_init_317 rfl rfl (by decide) (by decide) rfl ?_
  have k45 := kst k44 (kC_tab 44 (by decide))
  replace k45 : kOk (vp_updL f44 44 3516065817) 45 := k45
  generalize vp_updL f44 44 3516065817 = f45 at k45 ⊢
  clear k44
  refine G_w (st' := [.ref 101, .ref 100]) (w' := [.inr (9, [.null, .null, .null, .null, .int 0, .null, .null, .int 0, .int 0, .null, .null, .int 0, .null, .null, .null, .int 0, .null, .int 0, .null, .null, .int 0, .null, .int 0, .null, .null, .int 0, .null]), cL 64 f45]) rfl rfl ?_
  refine G_dup dX8_init_318 rfl ?_
  refine G_bipush (v := 45) dX8_init_319 (by decide) ?_
  refine G_ldc2 dX8_init_321 kX8_103 ?_
  refine G_lastN (w' := [.inr (9, [.null, .null, .null, .null, .int 0, .null, .null, .int 0, .int 0, .null, .null, .int 0, .null, .null, .null, .int 0, .null, .int 0, .null, .null, .int 0, .null, .int 0, .null, .null, .int 0, .null]), cL 64 (vp_updL f45 45 3600352804)]) (45) dX8_init_324 rfl rfl (by decide) (by decide) rfl ?_
  have k46 := kst k45 (kC_tab 45 (by decide))
  replace k46 : kOk (vp_updL f45 45 3600352804) 46 := k46
  generalize vp_updL f45 45 3600352804 = f46 at k46 ⊢
  clear k45
  refine G_w (st' := [.ref 101, .ref 100]) (w' := [.inr (9, [.null, .null, .null, .null, .int 0, .null, .null, .int 0, .int 0, .null, .null, .int 0, .null, .null, .null, .int 0, .null, .int 0, .null, .null, .int 0, .null, .int 0, .null, .null, .int 0, .null]), cL 64 f46]) rfl rfl ?_
  refine G_dup dX8_init_325 rfl ?_
  refine G_bipush (v := 46) dX8_init_326 (by decide) ?_
  refine G_ldc2 dX8_init_328 kX8_105 ?_
  refine G_lastN (w' := [.inr (9, [.null, .null, .null, .null, .int 0, .null, .null, .int 0, .int 0, .null, .null, .int 0, .null, .null, .null, .int 0, .null, .int 0, .null, .null, .int 0, .null, .int 0, .null, .null, .int 0, .null]), cL 64 (vp_updL f46 46 4094571909)]) (46) dX8_init_331 rfl rfl (by decide) (by decide) rfl ?_
  have k47 := kst k46 (kC_tab 46 (by decide))
  replace k47 : kOk (vp_updL f46 46 4094571909) 47 := k47
  generalize vp_updL f46 46 4094571909 = f47 at k47 ⊢
  clear k46
  refine G_w (st' := [.ref 101, .ref 100]) (w' := [.inr (9, [.null, .null, .null, .null, .int 0, .null, .null, .int 0, .int 0, .null, .null, .int 0, .null, .null, .null, .int 0, .null, .int 0, .null, .null, .int 0, .null, .int 0, .null, .null, .int 0, .null]), cL 64 f47]) rfl rfl ?_
  refine G_dup dX8_init_332 rfl ?_
  refine G_bipush (v := 47) dX8_init_333 (by decide) ?_
  refine G_ldc2 dX8_init_335 kX8_107 ?_
  refine G_lastN (w' := [.inr (9, [.null, .null, .null, .null, .int 0, .null, .null, .int 0, .int 0, .null, .null, .int 0, .null, .null, .null, .int 0, .null, .int 0, .null, .null, .int 0, .null, .int 0, .null, .null, .int 0, .null]), cL 64 (vp_updL f47 47 275423344)]) (47) dX8_init_338 rfl rfl (by decide) (by decide) rfl ?_
  have k48 := kst k47 (kC_tab 47 (by decide))
  replace k48 : kOk (vp_updL f47 47 275423344) 48 := k48
  generalize vp_updL f47 47 275423344 = f48 at k48 ⊢
  clear k47
  refine G_w (st' := [.ref 101, .ref 100]) (w' := [.inr (9, [.null, .null, .null, .null, .int 0, .null, .null, .int 0, .int 0, .null, .null, .int 0, .null, .null, .null, .int 0, .null, .int 0, .null, .null, .int 0, .null, .int 0, .null, .null, .int 0, .null]), cL 64 f48]) rfl rfl ?_
  refine G_dup dX8_init_339 rfl ?_
  refine G_bipush (v := 48) dX8_init_340 (by decide) ?_
  refine G_ldc2 dX8_init_342 kX8_109 ?_
  refine G_lastN (w' := [.inr (9, [.null, .null, .null, .null, .int 0, .null, .null, .int 0, .int 0, .null, .null, .int 0, .null, .null, .null, .int 0, .null, .int 0, .null, .null, .int 0, .null, .int 0, .null, .null, .int 0, .null]), cL 64 (vp_updL f48 48 430227734)]) (48) dX8_init_345 rfl rfl (by decide) (by decide) rfl ?_
  have k49 := kst k48 (kC_tab 48 (by decide))
  replace k49 : kOk (vp_updL f48 48 430227734) 49 := k49
  generalize vp_updL f48 48 430227734 = f49 at k49 ⊢
  clear k48
  refine G_w (st' := [.ref 101, .ref 100]) (w' := [.inr (9, [.null, .null, .null, .null, .int 0, .null, .null, .int 0, .int 0, .null, .null, .int 0, .null, .null, .null, .int 0, .null, .int 0, .null, .null, .int 0, .null, .int 0, .null, .null, .int 0, .null]), cL 64 f49]) rfl rfl ?_
  refine G_dup dX8_init_346 rfl ?_
  refine G_bipush (v := 49) dX8_init_347 (by decide) ?_
  refine G_ldc2 dX8_init_349 kX8_111 ?_
  refine G_lastN (w' := [.inr (9, [.null, .null, .null, .null, .int 0, .null, .null, .int 0, .int 0, .null, .null, .int 0, .null, .null, .null, .int 0, .null, .int 0, .null, .null, .int 0, .null, .int 0, .null, .null, .int 0, .null]), cL 64 (vp_updL f49 49 506948616)]) (49) dX8_init_352 rfl rfl (by decide) (by decide) rfl ?_
  have k50 := kst k49 (kC_tab 49 (by decide))
  replace k50 : kOk (vp_updL f49 49 506948616) 50 := k50
  generalize vp_updL f49 49 506948616 = f50 at k50 ⊢
  clear k49
  refine G_w (st' := [.ref 101, .ref 100]) (w' := [.inr (9, [.null, .null, .null, .null, .int 0, .null, .null, .int 0, .int 0, .null, .null, .int 0, .null, .null, .null, .int 0, .null, .int 0, .null, .null, .int 0, .null, .int 0, .null, .null, .int 0, .null]), cL 64 f50]) rfl rfl ?_
  refine G_dup dX8_init_353 rfl ?_
  refine G_bipush (v := 50) dX8_init_354 (by decide) ?_
  refine G_ldc2 dX8_init_356 kX8_113 ?_
  refine G_lastN (w' := [.inr (9, [.null, .null, .null, .null, .int 0, .null, .null, .int 0, .int 0, .null, .null, .int 0, .null, .null, .null, .int 0, .null, .int 0, .null, .null, .int 0, .null, .int 0, .null, .null, .int 0, .null]), cL 64 (vp_updL f50 50 659060556)]) (50) dX8_init_359 rfl rfl (by decide) (by decide) rfl ?_
  have k51 := kst k50 (kC_tab 50 (by decide))
  replace k51 : kOk (vp_updL f50 50 659060556) 51 := k51
  generalize vp_updL f50 50 659060556 = f51 at k51 ⊢
  clear k50
  refine G_w (st' := [.ref 101, .ref 100]) (w' := [.inr (9, [.null, .null, .null, .null, .int 0, .null, .null, .int 0, .int 0, .null, .null, .int 0, .null, .null, .null, .int 0, .null, .int 0, .null, .null, .int 0, .null, .int 0, .null, .null, .int 0, .null]), cL 64 f51]) rfl rfl ?_
  refine G_dup dX8_init_360 rfl ?_
  refine G_bipush (v := 51) dX8_init_361 (by decide) ?_
  refine G_ldc2 dX8_init_363 kX8_115 ?_
  refine G_lastN (w' := [.inr (9, [.null, .null, .null, .null, .int 0, .null, .null, .int 0, .int 0, .null, .null, .int 0, .null, .null, .null, .int 0, .null, .int 0, .null, .null, .int 0, .null, .int 0, .null, .null, .int 0, .null]), cL 64 (vp_updL f51 51 883997877)]) (51) dX8_init_366 rfl rfl (by decide) (by decide) rfl ?_
  have k52 := kst k51 (kC_tab 51 (by decide))
  replace k52 : kOk (vp_updL f51 51 883997877) 52 := k52
  generalize vp_updL f51 51 883997877 = f52 at k52 ⊢
  clear k51
  refine G_w (st' := [.ref 101, .ref 100]) (w' := [.inr (9, [.null, .null, .null, .null, .int 0, .null, .null, .int 0, .int 0, .null, .null, .int 0, .null, .null, .null, .int 0, .null, .int 0, .null, .null, .int 0, .null, .int 0, .null, .null, .int 0, .null]), cL 64 f52]) rfl rfl ?_
  refine G_dup dX8_init_367 rfl ?_
  refine G_bipush (v := 52) dX8_init_368 (by decide) ?_
  refine G_ldc2 dX8_init_370 kX8_117 ?_
  refine G_lastN (w' := [.inr (9, [.null, .null, .null, .null, .int 0, .null, .null, .int 0, .int 0, .null, .null, .int 0, .null, .null, .null, .int 0, .null, .int 0, .null, .null, .int 0, .null, .int 0, .null, .null, .int 0, .null]), cL 64 (vp_updL f52 52 958139571)]) (52) dX8_init_373 rfl rfl (by decide) (by decide) rfl ?_
  have k53 := kst k52 (kC_tab 52 (by decide))
  replace k53 : kOk (vp_updL f52 52 958139571) 53 := k53
  generalize vp_updL f52 52 958139571 = f53 at k53 ⊢
  clear k52
  refine G_w (st' := [.ref 101, .ref 100]) (w' := [.inr (9, [.null, .null, .null, .null, .int 0, .null, .null, .int 0, .int 0, .null, .null, .int 0, .null, .null, .null, .int 0, .null, .int 0, .null, .null, .int 0, .null, .int 0, .null, .null, .int 0, .null]), cL 64 f53]) rfl rfl ?_
  refine G_dup dX8_init_374 rfl ?_
  refine G_bipush (v := 53) dX8_init_375 (by decide) ?_
  refine G_ldc2 dX8_init_377 kX8_119 ?_
  refine G_lastN (w' := [.inr (9, [.null, .null, .null, .null, .int 0, .null, .null, .int 0, .int 0, .null, .null, .int 0, .null, .null, .null, .int 0, .null, .int 0, .null, .null, .int 0, .null, .int 0, .null, .null, .int 0, .null]), cL 64 (vp_updL f53 53 1322822218)]) (53) dX8_init_380 rfl rfl (by decide) (by decide) rfl ?_
  have k54 := kst k53 (kC_tab 53 (by decide))
  replace k54 : kOk (vp_updL f53 53 1322822218) 54 := k54
  generalize vp_updL f53 53 1322822218 = f54 at k54 ⊢
  clear k53
  refine G_w (st' := [.ref 101, .ref 100]) (w' := [.inr (9, [.null, .null, .null, .null, .int 0, .null, .null, .int 0, .int 0, .null, .null, .int 0, .null, .null, .null, .int 0, .null, .int 0, .null, .null, .int 0, .null, .int 0, .null, .null, .int 0, .null]), cL 64 f54]) rfl rfl ?_
  refine G_dup dX8_init_381 rfl ?_
  refine G_bipush (v := 54) dX8_init_382 (by decide) ?_
  refine G_ldc2 dX8_init_384 kX8_121 ?_
  refine G_lastN (w' := [.inr (9, [.null, .null, .null, .null, .int 0, .null, .null, .int 0, .int 0, .null, .null, .int 0, .null, .null, .null, .int 0, .null, .int 0, .null, .null, .int 0, .null, .int 0, .null, .null, .int 0, .null]), cL 64 (vp_updL f54 54 1537002063)]) (54) dX8_init_387 rfl rfl (by decide) (by decide) rfl ?_
  have k55 := kst k54 (kC_tab 54 (by decide))
  replace k55 : kOk (vp_updL f54 54 1537002063) 55 := k55
  generalize vp_updL f54 54 1537002063 = f55 at k55 ⊢
  clear k54
  refine G_w (st' := [.ref 101, .ref 100]) (w' := [.inr (9, [.null, .null, .null, .null, .int 0, .null, .null, .int 0, .int 0, .null, .null, .int 0, .null, .null, .null, .int 0, .null, .int 0, .null, .null, .int 0, .null, .int 0, .null, .null, .int 0, .null]), cL 64 f55]) rfl rfl ?_
  refine G_dup dX8_init_388 rfl ?_
  refine G_bipush (v := 55) dX8_init_389 (by decide) ?_
  refine G_ldc2 dX8_init_391 kX8_123 ?_
  refine G_lastN (w' := [.inr (9, [.null, .null, .null, .null, .int 0, .null, .null, .int 0, .int 0, .null, .null, .int 0, .null, .null, .null, .int 0, .null, .int 0, .null, .null, .int 0, .null, .int 0, .null, .null, .int 0, .null]), cL 64 (vp_updL f55 55 1747873779)]) (55) dX8_init_394 rfl rfl (by decide) (by decide) rfl ?_
  have k56 := kst k55 (kC_tab 55 (by decide))
  replace k56 : kOk (vp_updL f55 55 1747873779) 56 := k56
  generalize vp_updL f55 55 1747873779 = f56 at k56 ⊢
  clear k55
  refine G_w (st' := [.ref 101, .ref 100]) (w' := [.inr (9, [.null, .null, .null, .null, .int 0, .null, .null, .int 0, .int 0, .null, .null, .int 0, .null, .null, .null, .int 0, .null, .int 0, .null, .null, .int 0, .null, .int 0, .null, .null, .int 0, .null]), cL 64 f56]) rfl rfl ?_
  refine G_dup dX8_init_395 rfl ?_
  refine G_bipush (v := 56) dX8_init_396 (by decide) ?_
  refine G_ldc2 dX8_init_398 kX8_125 ?_
  refine G_lastN (w' := [.inr (9, [.null, .null, .null, .null, .int 0, .null, .null, .int 0, .int 0, .null, .null, .int 0, .null, .null, .null, .int 0, .null, .int 0, .null, .null, .int 0, .null, .int 0, .null, .null, .int 0, .null]), cL 64 (vp_updL f56 56 1955562222)]) (56) dX8_init_401 rfl rfl (by decide) (by decide) rfl ?_
  have k57 := kst k56 (kC_tab 56 (by decide))
  replace k57 : kOk (vp_updL f56 56 1955562222) 57 := k57
  generalize vp_updL f56 56 1955562222 = f57 at k57 ⊢
  clear k56
  refine G_w (st' := [.ref 101, .ref 100]) (w' := [.inr (9, [.null, .null, .null, .null, .int 0, .null, .null, .int 0, .int 0, .null, .null, .int 0, .null, .null, .null, .int 0, .null, .int 0, .null, .null, .int 0, .null, .int 0, .null, .null, .int 0, .null]), cL 64 f57]) rfl rfl ?_
  refine G_dup dX8_init_402 rfl ?_
  refine G_bipush (v := 57) dX8_init_403 (by decide) ?_
  refine G_ldc2 dX8_init_405 kX8_127 ?_
  refine G_lastN (w' := [.inr (9, [.null, .null, .null, .null, .int 0, .null, .null, .int 0, .int 0, .null, .null, .int 0, .null, .null, .null, .int 0, .null, .int 0, .null, .null, .int 0, .null, .int 0, .null, .null, .int 0, .null]), cL 64 (vp_updL f57 57 2024104815)]) (57) dX8_init_408 rfl rfl (by decide) (by decide) rfl ?_
  have k58 := kst k57 (kC_tab 57 (by decide))
  replace k58 : kOk (vp_updL f57 57 2024104815) 58 := k58
  generalize vp_updL f57 57 2024104815 = f58 at k58 ⊢
  clear k57
  refine G_w (st' := [.ref 101, .ref 100]) (w' := [.inr (9, [.null, .null, .null, .null, .int 0, .null, .null, .int 0, .int 0, .null, .null, .int 0, .null, .null, .null, .int 0, .null, .int 0, .null, .null, .int 0, .null, .int 0, .null, .null, .int 0, .null]), cL 64 f58]) rfl rfl ?_
  refine G_dup dX8_init_409 rfl ?_
  refine G_bipush (v := 58) dX8_init_410 (by decide) ?_
  refine G_ldc2 dX8_init_412 kX8_129 ?_
  refine G_lastN (w' := [.inr (9, [.null, .null, .null, .null, .int 0, .null, .null, .int 0, .int 0, .null, .null, .int 0, .null, .null, .null, .int 0, .null, .int 0, .null, .null, .int 0, .null, .int 0, .null, .null, .int 0, .null]), cL 64 (vp_updL f58 58 2227730452)]) (58) dX8_init_415 rfl rfl (by decide) (by decide) rfl ?_
  have k59 := kst k58 (kC_tab 58 (by decide))
  replace k59 : kOk (vp_updL f58 58 2227730452) 59 := k59
  generalize vp_updL f58 58 2227730452 = f59 at k59 ⊢
  clear k58
  refine G_w (st' := [.ref 101, .ref 100]) (w' := [.inr (9, [.null, .null, .null, .null, .int 0, .null, .null, .int 0, .int 0, .null, .null, .int 0, .null, .null, .null, .int 0, .null, .int 0, .null, .null, .int 0, .null, .int 0, .null, .null, .int 0, .null]), cL 64 f59]) rfl rfl ?_
  refine G_dup dX8_init_416 rfl ?_
  refine G_bipush (v := 59) dX8_init_417 (by decide) ?_
  refine G_ldc2 dX8_init_419 kX8_131 ?_
  refine G_lastN (w' := [.inr (9, [.null, .null, .null, .null, .int 0, .null, .null, .int 0, .int 0, .null, .null, .int 0, .null, .null, .null, .int 0, .null, .int 0, .null, .null, .int 0, .null, .int 0, .null, .null, .int 0, .null]), cL 64 (vp_updL f59 59 2361852424)]) (59) dX8_init_422 rfl rfl (by decide) (by decide) rfl ?_
  have k60 := kst k59 (kC_tab 59 (by decide))
  replace k60 : kOk (vp_updL f59 59 2361852424) 60 := k60
  generalize vp_updL f59 59 2361852424 = f60 at k60 ⊢
  clear k59
  refine G_w (st' := [.ref 101, .ref 100]) (w' := [.inr (9, [.null, .null, .null, .null, .int 0, .null, .null, .int 0, .int 0, .null, .null, .int 0, .null, .null, .null, .int 0, .null, .int 0, .null, .null, .int 0, .null, .int 0, .null, .null, .int 0, .null]), cL 64 f60]) rfl rfl ?_
  refine G_dup dX8_init_423 rfl ?_
  refine G_bipush (v := 60) dX8_init_424 (by decide) ?_
  refine G_ldc2 dX8_init_426 kX8_133 ?_
  refine G_lastN (w' := [.inr (9, [.null, .null, .null, .null, .int 0, .null, .null, .int 0, .int 0, .null, .null, .int 0, .null, .null, .null, .int 0, .null, .int 0, .null, .null, .int 0, .null, .int 0, .null, .null, .int 0, .null]), cL 64 (vp_updL f60 60 2428436474)]) (60) dX8_init_429 rfl rfl (by decide) (by decide) rfl ?_
  have k61 := kst k60 (kC_tab 60 (by decide))
  replace k61 : kOk (vp_updL f60 60 2428436474) 61 := k61
  generalize vp_updL f60 60 2428436474 = f61 at k61 ⊢
  clear k60
  refine G_w (st' := [.ref 101, .ref 100]) (w' := [.inr (9, [.null, .null, .null, .null, .int 0, .null, .null, .int 0, .int 0, .null, .null, .int 0, .null, .null, .null, .int 0, .null, .int 0, .null, .null, .int 0, .null, .int 0, .null, .null, .int 0, .null]), cL 64 f61]) rfl rfl ?_
  refine G_dup dX8_init_430 rfl ?_
  refine G_bipush (v := 61) dX8_init_431 (by decide) ?_
  refine G_ldc2 dX8_init_433 kX8_135 ?_
  refine G_lastN (w' := [.inr (9, [.null, .null, .null, .null, .int 0, .null, .null, .int 0, .int 0, .null, .null, .int 0, .null, .null, .null, .int 0, .null, .int 0, .null, .null, .int 0, .null, .int 0, .null, .null, .int 0, .null]), cL 64 (vp_updL f61 61 2756734187)]) (61) dX8_init_436 rfl rfl (by decide) (by decide) rfl ?_
  have k62 := kst k61 (kC_tab 61 (by decide))
  replace k62 : kOk (vp_updL f61 61 2756734187) 62 := k62
  generalize vp_updL f61 61 2756734187 = f62 at k62 ⊢
  clear k61
  refine G_w (st' := [.ref 101, .ref 100]) (w' := [.inr (9, [.null, .null, .null, .null, .int 0, .null, .null, .int 0, .int 0, .null, .null, .int 0, .null, .null, .null, .int 0, .null, .int 0, .null, .null, .int 0, .null, .int 0, .null, .null, .int 0, .null]), cL 64 f62]) rfl rfl ?_
  refine G_dup dX8_init_437 rfl ?_
  refine G_bipush (v := 62) dX8_init_438 (by decide) ?_
  refine G_ldc2 dX8_init_440 kX8_137 ?_
  refine G_lastN (w' := [.inr (9, [.null, .null, .null, .null, .int 0, .null, .null, .int 0, .int 0, .null, .null, .int 0, .null, .null, .null, .int 0, .null, .int 0, .null, .null, .int 0, .null, .int 0, .null, .null, .int 0, .null]), cL 64 (vp_updL f62 62 3204031479)]) (62) dX8_init_443 rfl rfl (by decide) (by decide) rfl ?_
  have k63 := kst k62 (kC_tab 62 (by decide))
  replace k63 : kOk (vp_updL f62 62 3204031479) 63 := k63
  generalize vp_updL f62 62 3204031479 = f63 at k63 ⊢
  clear k62
  refine G_w (st' := [.ref 101, .ref 100]) (w' := [.inr (9, [.null, .null, .null, .null, .int 0, .null, .null, .int 0, .int 0, .null, .null, .int 0, .null, .null, .null, .int 0, .null, .int 0, .null, .null, .int 0, .null, .int 0, .null, .null, .int 0, .null]), cL 64 f63]) rfl rfl ?_
  refine G_dup dX8_init_444 rfl ?_
  refine G_bipush (v := 63) dX8_init_445 (by decide) ?_
  refine G_ldc2 dX8_init_447 kX8_139 ?_
  refine G_lastN (w' := [.inr (9, [.null, .null, .null, .null, .int 0, .null, .null, .int 0, .int 0, .null, .null, .int 0, .null, .null, .null, .int 0, .null, .int 0, .null, .null, .int 0, .null, .int 0, .null, .null, .int 0, .null]), cL 64 (vp_updL f63 63 3329325298)]) (63) dX8_init_450 rfl rfl (by decide) (by decide) rfl ?_
  have k64 := kst k63 (kC_tab 63 (by decide))
  replace k64 : kOk (vp_updL f63 63 3329325298) 64 := k64
  generalize vp_updL f63 63 3329325298 = f64 at k64 ⊢
  clear k63
  refine G_w (st' := [.ref 101, .ref 100]) (w' := [.inr (9, [.null, .null, .null, .null, .int 0, .null, .null, .int 0, .int 0, .null, .null, .int 0, .null, .null, .null, .int 0, .null, .int 0, .null, .null, .int 0, .null, .int 0, .null, .null, .int 0, .null]), cL 64 f64]) rfl rfl ?_
  have ek : f64 = kC := kOk_end k64
  subst ek
  refine G_putF (w' := [.inr (9, [.ref 101, .null, .null, .null, .int 0, .null, .null, .int 0, .int 0, .null, .null, .int 0, .null, .null, .null, .int 0, .null, .int 0, .null, .null, .int 0, .null, .int 0, .null, .null, .int 0, .null]), cL 64 kC]) (f := 0) kc9 dX8_init_451 fX8_141 (by decide) rfl rfl rfl rfl rfl rfl (Nat.le_of_ble_eq_true rfl) rfl ?_
  refine G_aload_n dX8_init_454 rfl ?_
  refine G_bipush (v := 9) dX8_init_455 (by decide) ?_
  refine G_newi (w' := [.inr (9, [.ref 101, .null, .null, .null, .int 0, .null, .null, .int 0, .int 0, .null, .null, .int 0, .null, .null, .null, .int 0, .null, .int 0, .null, .null, .int 0, .null, .int 0, .null, .null, .int 0, .null]), cL 64 kC, cI 9 (fun _ => 0)]) (t := 102) (N := 9) (k := 16) (n := 11174) dX8_init_457 aC_int (by decide) (by decide) (by decide) (by simp [ab_scS, ab_sc, ab_scC]) rfl rfl ?_
  refine G_putF (w' := [.inr (9, [.ref 101, .ref 102, .null, .null, .int 0, .null, .null, .int 0, .int 0, .null, .null, .int 0, .null, .null, .null, .int 0, .null, .int 0, .null, .null, .int 0, .null, .int 0, .null, .null, .int 0, .null]), cL 64 kC, cI 9 (fun _ => 0)]) (f := 1) kc9 dX8_init_459 fX8_145 (by decide) rfl rfl rfl rfl rfl rfl (Nat.le_of_ble_eq_true rfl) rfl ?_
  refine G_aload_n dX8_init_462 rfl ?_
  refine G_bipush (v := 9) dX8_init_463 (by decide) ?_
  refine G_newi (w' := [.inr (9, [.ref 101, .ref 102, .null, .null, .int 0, .null, .null, .int 0, .int 0, .null, .null, .int 0, .null, .null, .null, .int 0, .null, .int 0, .null, .null, .int 0, .null, .int 0, .null, .null, .int 0, .null]), cL 64 kC, cI 9 (fun _ => 0), cI 9 (fun _ => 0)]) (t := 103) (N := 9) (k := 15) (n := 11165) dX8_init_465 aC_int (by decide) (by decide) (by decide) (by simp [ab_scS, ab_sc, ab_scC]) rfl rfl ?_
  refine G_putF (w' := [.inr (9, [.ref 101, .ref 102, .ref 103, .null, .int 0, .null, .null, .int 0, .int 0, .null, .null, .int 0, .null, .null, .null, .int 0, .null, .int 0, .null, .null, .int 0, .null, .int 0, .null, .null, .int 0, .null]), cL 64 kC, cI 9 (fun _ => 0), cI 9 (fun _ => 0)]) (f := 2) kc9 dX8_init_467 fX8_149 (by decide) rfl rfl rfl rfl rfl rfl (Nat.le_of_ble_eq_true rfl) rfl ?_
  refine G_aload_n dX8_init_470 rfl ?_
  refine G_sipush (v := 1080) dX8_init_471 (by decide) ?_
  refine G_newi (w' := [.inr (9, [.ref 101, .ref 102, .ref 103, .null, .int 0, .null, .null, .int 0, .int 0, .null, .null, .int 0, .null, .null, .null, .int 0, .null, .int 0, .null, .null, .int 0, .null, .int 0, .null, .null, .int 0, .null]), cL 64 kC, cI 9 (fun _ => 0), cI 9 (fun _ => 0), cI 1080 (fun _ => 0)]) (t := 104) (N := 1080) (k := 14) (n := 10085) dX8_init_474 aC_int (by decide) (by decide) (by decide) (by simp [ab_scS, ab_sc, ab_scC]) rfl rfl ?_
  refine G_putF (w' := [.inr (9, [.ref 101, .ref 102, .ref 103, .ref 104, .int 0, .null, .null, .int 0, .int 0, .null, .null, .int 0, .null, .null, .null, .int 0, .null, .int 0, .null, .null, .int 0, .null, .int 0, .null, .null, .int 0, .null]), cL 64 kC, cI 9 (fun _ => 0), cI 9 (fun _ => 0), cI 1080 (fun _ => 0)]) (f := 3) kc9 dX8_init_476 fX8_152 (by decide) rfl rfl rfl rfl rfl rfl (Nat.le_of_ble_eq_true rfl) rfl ?_
  refine G_aload_n dX8_init_479 rfl ?_
  refine G_bipush (v := 72) dX8_init_480 (by decide) ?_
  refine G_newl (w' := [.inr (9, [.ref 101, .ref 102, .ref 103, .ref 104, .int 0, .null, .null, .int 0, .int 0, .null, .null, .int 0, .null, .null, .null, .int 0, .null, .int 0, .null, .null, .int 0, .null, .int 0, .null, .null, .int 0, .null]), cL 64 kC, cI 9 (fun _ => 0), cI 9 (fun _ => 0), cI 1080 (fun _ => 0), cL 72 (fun _ => 0)]) (t := 105) (N := 72) (k := 13) (n := 10013) dX8_init_482 aC_long (by decide) (by decide) (by decide) (by simp [ab_scS, ab_sc, ab_scC]) rfl rfl ?_
  refine G_putF (w' := [.inr (9, [.ref 101, .ref 102, .ref 103, .ref 104, .int 0, .ref 105, .null, .int 0, .int 0, .null, .null, .int 0, .null, .null, .null, .int 0, .null, .int 0, .null, .null, .int 0, .null, .int 0, .null, .null, .int 0, .null]), cL 64 kC, cI 9 (fun _ => 0), cI 9 (fun _ => 0), cI 1080 (fun _ => 0), cL 72 (fun _ => 0)]) (f := 5) kc9 dX8_init_484 fX8_155 (by decide) rfl rfl rfl rfl rfl rfl (Nat.le_of_ble_eq_true rfl) rfl ?_
  refine G_aload_n dX8_init_487 rfl ?_
  refine G_bipush (v := 72) dX8_init_488 (by decide) ?_
  refine G_newl (w' := [.inr (9, [.ref 101, .ref 102, .ref 103, .ref 104, .int 0, .ref 105, .null, .int 0, .int 0, .null, .null, .int 0, .null, .null, .null, .int 0, .null, .int 0, .null, .null, .int 0, .null, .int 0, .null, .null, .int 0, .null]), cL 64 kC, cI 9 (fun _ => 0), cI 9 (fun _ => 0), cI 1080 (fun _ => 0), cL 72 (fun _ => 0), cL 72 (fun _ => 0)]) (t := 106) (N := 72) (k := 12) (n := 9941) dX8_init_490 aC_long (by decide) (by decide) (by decide) (by simp [ab_scS, ab_sc, ab_scC]) rfl rfl ?_
  refine G_putF (w' := [.inr (9, [.ref 101, .ref 102, .ref 103, .ref 104, .int 0, .ref 105, .ref 106, .int 0, .int 0, .null, .null, .int 0, .null, .null, .null, .int 0, .null, .int 0, .null, .null, .int 0, .null, .int 0, .null, .null, .int 0, .null]), cL 64 kC, cI 9 (fun _ => 0), cI 9 (fun _ => 0), cI 1080 (fun _ => 0), cL 72 (fun _ => 0), cL 72 (fun _ => 0)]) (f := 6) kc9 dX8_init_492 fX8_158 (by decide) rfl rfl rfl rfl rfl rfl (Nat.le_of_ble_eq_true rfl) rfl ?_
  refine G_aload_n dX8_init_495 rfl ?_
  refine G_bipush (v := 9) dX8_init_496 (by decide) ?_
  refine G_newi (w' := [.inr (9, [.ref 101, .ref 102, .ref 103, .ref 104, .int 0, .ref 105, .ref 106, .int 0, .int 0, .null, .null, .int 0, .null, .null, .null, .int 0, .null, .int 0, .null, .null, .int 0, .null, .int 0, .null, .null, .int 0, .null]), cL 64 kC, cI 9 (fun _ => 0), cI 9 (fun _ => 0), cI 1080 (fun _ => 0), cL 72 (fun _ => 0), cL 72 (fun _ => 0), cI 9 (fun _ => 0)]) (t := 107) (N := 9) (k := 11) (n := 9932) dX8_init_498 aC_int (by decide) (by decide) (by decide) (by simp [ab_scS, ab_sc, ab_scC]) rfl rfl ?_
  refine G_putF (w' := [.inr (9, [.ref 101, .ref 102, .ref 103, .ref 104, .int 0, .ref 105, .ref 106, .int 0, .int 0, .ref 107, .null, .int 0, .null, .null, .null, .int 0, .null, .int 0, .null, .null, .int 0, .null, .int 0, .null, .null, .int 0, .null]), cL 64 kC, cI 9 (fun _ => 0), cI 9 (fun _ => 0), cI 1080 (fun _ => 0), cL 72 (fun _ => 0), cL 72 (fun _ => 0), cI 9 (fun _ => 0)]) (f := 9) kc9 dX8_init_500 fX8_161 (by decide) rfl rfl rfl rfl rfl rfl (Nat.le_of_ble_eq_true rfl) rfl ?_
  refine G_aload_n dX8_init_503 rfl ?_
  refine G_bipush (v := 9) dX8_init_504 (by decide) ?_
  refine G_newi (w' := [.inr (9, [.ref 101, .ref 102, .ref 103, .ref 104, .int 0, .ref 105, .ref 106, .int 0, .int 0, .ref 107, .null, .int 0, .null, .null, .null, .int 0, .null, .int 0, .null, .null, .int 0, .null, .int 0, .null, .null, .int 0, .null]), cL 64 kC, cI 9 (fun _ => 0), cI 9 (fun _ => 0), cI 1080 (fun _ => 0), cL 72 (fun _ => 0), cL 72 (fun _ => 0), cI 9 (fun _ => 0), cI 9 (fun _ => 0)]) (t := 108) (N := 9) (k := 10) (n := 9923) dX8_init_506 aC_int (by decide) (by decide) (by decide) (by simp [ab_scS, ab_sc, ab_scC]) rfl rfl ?_
  refine G_putF (w' := [.inr (9, [.ref 101, .ref 102, .ref 103, .ref 104, .int 0, .ref 105, .ref 106, .int 0, .int 0, .ref 107, .ref 108, .int 0, .null, .null, .null, .int 0, .null, .int 0, .null, .null, .int 0, .null, .int 0, .null, .null, .int 0, .null]), cL 64 kC, cI 9 (fun _ => 0), cI 9 (fun _ => 0), cI 1080 (fun _ => 0), cL 72 (fun _ => 0), cL 72 (fun _ => 0), cI 9 (fun _ => 0), cI 9 (fun _ => 0)]) (f := 10) kc9 dX8_init_508 fX8_164 (by decide) rfl rfl rfl rfl rfl rfl (Nat.le_of_ble_eq_true rfl) rfl ?_
  refine G_aload_n dX8_init_511 rfl ?_
  refine G_bipush (v := 10) dX8_init_512 (by decide) ?_
  refine G_newi (w' := [.inr (9, [.ref 101, .ref 102, .ref 103, .ref 104, .int 0, .ref 105, .ref 106, .int 0, .int 0, .ref 107, .ref 108, .int 0, .null, .null, .null, .int 0, .null, .int 0, .null, .null, .int 0, .null, .int 0, .null, .null, .int 0, .null]), cL 64 kC, cI 9 (fun _ => 0), cI 9 (fun _ => 0), cI 1080 (fun _ => 0), cL 72 (fun _ => 0), cL 72 (fun _ => 0), cI 9 (fun _ => 0), cI 9 (fun _ => 0), cI 10 (fun _ => 0)]) (t := 109) (N := 10) (k := 9) (n := 9913) dX8_init_514 aC_int (by decide) (by decide) (by decide) (by simp [ab_scS, ab_sc, ab_scC]) rfl rfl ?_
  refine G_putF (w' := [.inr (9, [.ref 101, .ref 102, .ref 103, .ref 104, .int 0, .ref 105, .ref 106, .int 0, .int 0, .ref 107, .ref 108, .int 0, .ref 109, .null, .null, .int 0, .null, .int 0, .null, .null, .int 0, .null, .int 0, .null, .null, .int 0, .null]), cL 64 kC, cI 9 (fun _ => 0), cI 9 (fun _ => 0), cI 1080 (fun _ => 0), cL 72 (fun _ => 0), cL 72 (fun _ => 0), cI 9 (fun _ => 0), cI 9 (fun _ => 0), cI 10 (fun _ => 0)]) (f := 12) kc9 dX8_init_516 fX8_167 (by decide) rfl rfl rfl rfl rfl rfl (Nat.le_of_ble_eq_true rfl) rfl ?_
  refine G_aload_n dX8_init_519 rfl ?_
  refine G_bipush (v := 120) dX8_init_520 (by decide) ?_
  refine G_newi (w' := [.inr (9, [.ref 101, .ref 102, .ref 103, .ref 104, .int 0, .ref 105, .ref 106, .int 0, .int 0, .ref 107, .ref 108, .int 0, .ref 109, .null, .null, .int 0, .null, .int 0, .null, .null, .int 0, .null, .int 0, .null, .null, .int 0, .null]), cL 64 kC, cI 9 (fun _ => 0), cI 9 (fun _ => 0), cI 1080 (fun _ => 0), cL 72 (fun _ => 0), cL 72 (fun _ => 0), cI 9 (fun _ => 0), cI 9 (fun _ => 0), cI 10 (fun _ => 0), cI 120 (fun _ => 0)]) (t := 110) (N := 120) (k := 8) (n := 9793) dX8_init_522 aC_int (by decide) (by decide) (by decide) (by simp [ab_scS, ab_sc, ab_scC]) rfl rfl ?_
  refine G_putF (w' := [.inr (9, [.ref 101, .ref 102, .ref 103, .ref 104, .int 0, .ref 105, .ref 106, .int 0, .int 0, .ref 107, .ref 108, .int 0, .ref 109, .ref 110, .null, .int 0, .null, .int 0, .null, .null, .int 0, .null, .int 0, .null, .null, .int 0, .null]), cL 64 kC, cI 9 (fun _ => 0), cI 9 (fun _ => 0), cI 1080 (fun _ => 0), cL 72 (fun _ => 0), cL 72 (fun _ => 0), cI 9 (fun _ => 0), cI 9 (fun _ => 0), cI 10 (fun _ => 0), cI 120 (fun _ => 0)]) (f := 13) kc9 dX8_init_524 fX8_170 (by decide) rfl rfl rfl rfl rfl rfl (Nat.le_of_ble_eq_true rfl) rfl ?_
  refine G_aload_n dX8_init_527 rfl ?_
  refine G_bipush (v := 9) dX8_init_528 (by decide) ?_
  refine G_newi (w' := [.inr (9, [.ref 101, .ref 102, .ref 103, .ref 104, .int 0, .ref 105, .ref 106, .int 0, .int 0, .ref 107, .ref 108, .int 0, .ref 109, .ref 110, .null, .int 0, .null, .int 0, .null, .null, .int 0, .null, .int 0, .null, .null, .int 0, .null]), cL 64 kC, cI 9 (fun _ => 0), cI 9 (fun _ => 0), cI 1080 (fun _ => 0), cL 72 (fun _ => 0), cL 72 (fun _ => 0), cI 9 (fun _ => 0), cI 9 (fun _ => 0), cI 10 (fun _ => 0), cI 120 (fun _ => 0), cI 9 (fun _ => 0)]) (t := 111) (N := 9) (k := 7) (n := 9784) dX8_init_530 aC_int (by decide) (by decide) (by decide) (by simp [ab_scS, ab_sc, ab_scC]) rfl rfl ?_
  refine G_putF (w' := [.inr (9, [.ref 101, .ref 102, .ref 103, .ref 104, .int 0, .ref 105, .ref 106, .int 0, .int 0, .ref 107, .ref 108, .int 0, .ref 109, .ref 110, .ref 111, .int 0, .null, .int 0, .null, .null, .int 0, .null, .int 0, .null, .null, .int 0, .null]), cL 64 kC, cI 9 (fun _ => 0), cI 9 (fun _ => 0), cI 1080 (fun _ => 0), cL 72 (fun _ => 0), cL 72 (fun _ => 0), cI 9 (fun _ => 0), cI 9 (fun _ => 0), cI 10 (fun _ => 0), cI 120 (fun _ => 0), cI 9 (fun _ => 0)]) (f := 14) kc9 dX8_init_532 fX8_173 (by decide) rfl rfl rfl rfl rfl rfl (Nat.le_of_ble_eq_true rfl) rfl ?_
  refine G_aload_n dX8_init_535 rfl ?_
  refine G_bipush (v := 120) dX8_init_536 (by decide) ?_
  refine G_newi (w' := [.inr (9, [.ref 101, .ref 102, .ref 103, .ref 104, .int 0, .ref 105, .ref 106, .int 0, .int 0, .ref 107, .ref 108, .int 0, .ref 109, .ref 110, .ref 111, .int 0, .null, .int 0, .null, .null, .int 0, .null, .int 0, .null, .null, .int 0, .null]), cL 64 kC, cI 9 (fun _ => 0), cI 9 (fun _ => 0), cI 1080 (fun _ => 0), cL 72 (fun _ => 0), cL 72 (fun _ => 0), cI 9 (fun _ => 0), cI 9 (fun _ => 0), cI 10 (fun _ => 0), cI 120 (fun _ => 0), cI 9 (fun _ => 0), cI 120 (fun _ => 0)]) (t := 112) (N := 120) (k := 6) (n := 9664) dX8_init_538 aC_int (by decide) (by decide) (by decide) (by simp [ab_scS, ab_sc, ab_scC]) rfl rfl ?_
  refine G_putF (w' := [.inr (9, [.ref 101, .ref 102, .ref 103, .ref 104, .int 0, .ref 105, .ref 106, .int 0, .int 0, .ref 107, .ref 108, .int 0, .ref 109, .ref 110, .ref 111, .int 0, .ref 112, .int 0, .null, .null, .int 0, .null, .int 0, .null, .null, .int 0, .null]), cL 64 kC, cI 9 (fun _ => 0), cI 9 (fun _ => 0), cI 1080 (fun _ => 0), cL 72 (fun _ => 0), cL 72 (fun _ => 0), cI 9 (fun _ => 0), cI 9 (fun _ => 0), cI 10 (fun _ => 0), cI 120 (fun _ => 0), cI 9 (fun _ => 0), cI 120 (fun _ => 0)]) (f := 16) kc9 dX8_init_540 fX8_176 (by decide) rfl rfl rfl rfl rfl rfl (Nat.le_of_ble_eq_true rfl) rfl ?_
  refine G_aload_n dX8_init_543 rfl ?_
  refine G_bipush (v := 32) dX8_init_544 (by decide) ?_
  refine G_newb (w' := [.inr (9, [.ref 101, .ref 102, .ref 103, .ref 104, .int 0, .ref 105, .ref 106, .int 0, .int 0, .ref 107, .ref 108, .int 0, .ref 109, .ref 110, .ref 111, .int 0, .ref 112, .int 0, .null, .null, .int 0, .null, .int 0, .null, .null, .int 0, .null]), cL 64 kC, cI 9 (fun _ => 0), cI 9 (fun _ => 0), cI 1080 (fun _ => 0), cL 72 (fun _ => 0), cL 72 (fun _ => 0), cI 9 (fun _ => 0), cI 9 (fun _ => 0), cI 10 (fun _ => 0), cI 120 (fun _ => 0), cI 9 (fun _ => 0), cI 120 (fun _ => 0), cB 32 (fun _ => 0)]) (t := 113) (N := 32) (k := 5) (n := 9632) dX8_init_546 aC_byte (by decide) (by decide) (by decide) (by simp [ab_scS, ab_sc, ab_scC]) rfl rfl ?_
  refine G_putF (w' := [.inr (9, [.ref 101, .ref 102, .ref 103, .ref 104, .int 0, .ref 105, .ref 106, .int 0, .int 0, .ref 107, .ref 108, .int 0, .ref 109, .ref 110, .ref 111, .int 0, .ref 112, .int 0, .ref 113, .null, .int 0, .null, .int 0, .null, .null, .int 0, .null]), cL 64 kC, cI 9 (fun _ => 0), cI 9 (fun _ => 0), cI 1080 (fun _ => 0), cL 72 (fun _ => 0), cL 72 (fun _ => 0), cI 9 (fun _ => 0), cI 9 (fun _ => 0), cI 10 (fun _ => 0), cI 120 (fun _ => 0), cI 9 (fun _ => 0), cI 120 (fun _ => 0), cB 32 (fun _ => 0)]) (f := 18) kc9 dX8_init_548 fX8_179 (by decide) rfl rfl rfl rfl rfl rfl (Nat.le_of_ble_eq_true rfl) rfl ?_
  refine G_aload_n dX8_init_551 rfl ?_
  refine G_sipush (v := 5120) dX8_init_552 (by decide) ?_
  refine G_newi (w' := [.inr (9, [.ref 101, .ref 102, .ref 103, .ref 104, .int 0, .ref 105, .ref 106, .int 0, .int 0, .ref 107, .ref 108, .int 0, .ref 109, .ref 110, .ref 111, .int 0, .ref 112, .int 0, .ref 113, .null, .int 0, .null, .int 0, .null, .null, .int 0, .null]), cL 64 kC, cI 9 (fun _ => 0), cI 9 (fun _ => 0), cI 1080 (fun _ => 0), cL 72 (fun _ => 0), cL 72 (fun _ => 0), cI 9 (fun _ => 0), cI 9 (fun _ => 0), cI 10 (fun _ => 0), cI 120 (fun _ => 0), cI 9 (fun _ => 0), cI 120 (fun _ => 0), cB 32 (fun _ => 0), cI 5120 (fun _ => 0)]) (t := 114) (N := 5120) (k := 4) (n := 4512) dX8_init_555 aC_int (by decide) (by decide) (by decide) (by simp [ab_scS, ab_sc, ab_scC]) rfl rfl ?_
  refine G_putF (w' := [.inr (9, [.ref 101, .ref 102, .ref 103, .ref 104, .int 0, .ref 105, .ref 106, .int 0, .int 0, .ref 107, .ref 108, .int 0, .ref 109, .ref 110, .ref 111, .int 0, .ref 112, .int 0, .ref 113, .ref 114, .int 0, .null, .int 0, .null, .null, .int 0, .null]), cL 64 kC, cI 9 (fun _ => 0), cI 9 (fun _ => 0), cI 1080 (fun _ => 0), cL 72 (fun _ => 0), cL 72 (fun _ => 0), cI 9 (fun _ => 0), cI 9 (fun _ => 0), cI 10 (fun _ => 0), cI 120 (fun _ => 0), cI 9 (fun _ => 0), cI 120 (fun _ => 0), cB 32 (fun _ => 0), cI 5120 (fun _ => 0)]) (f := 19) kc9 dX8_init_557 fX8_183 (by decide) rfl rfl rfl rfl rfl rfl (Nat.le_of_ble_eq_true rfl) rfl ?_
  refine G_aload_n dX8_init_560 rfl ?_
  refine G_sipush (v := 4400) dX8_init_561 (by decide) ?_
  refine G_newb (w' := [.inr (9, [.ref 101, .ref 102, .ref 103, .ref 104, .int 0, .ref 105, .ref 106, .int 0, .int 0, .ref 107, .ref 108, .int 0, .ref 109, .ref 110, .ref 111, .int 0, .ref 112, .int 0, .ref 113, .ref 114, .int 0, .null, .int 0, .null, .null, .int 0, .null]), cL 64 kC, cI 9 (fun _ => 0), cI 9 (fun _ => 0), cI 1080 (fun _ => 0), cL 72 (fun _ => 0), cL 72 (fun _ => 0), cI 9 (fun _ => 0), cI 9 (fun _ => 0), cI 10 (fun _ => 0), cI 120 (fun _ => 0), cI 9 (fun _ => 0), cI 120 (fun _ => 0), cB 32 (fun _ => 0), cI 5120 (fun _ => 0), cB 4400 (fun _ => 0)]) (t := 115) (N := 4400) (k := 3) (n := 112) dX8_init_564 aC_byte (by decide) (by decide) (by decide) (by simp [ab_scS, ab_sc, ab_scC]) rfl rfl ?_
  refine G_putF (w' := [.inr (9, [.ref 101, .ref 102, .ref 103, .ref 104, .int 0, .ref 105, .ref 106, .int 0, .int 0, .ref 107, .ref 108, .int 0, .ref 109, .ref 110, .ref 111, .int 0, .ref 112, .int 0, .ref 113, .ref 114, .int 0, .ref 115, .int 0, .null, .null, .int 0, .null]), cL 64 kC, cI 9 (fun _ => 0), cI 9 (fun _ => 0), cI 1080 (fun _ => 0), cL 72 (fun _ => 0), cL 72 (fun _ => 0), cI 9 (fun _ => 0), cI 9 (fun _ => 0), cI 10 (fun _ => 0), cI 120 (fun _ => 0), cI 9 (fun _ => 0), cI 120 (fun _ => 0), cB 32 (fun _ => 0), cI 5120 (fun _ => 0), cB 4400 (fun _ => 0)]) (f := 21) kc9 dX8_init_566 fX8_186 (by decide) rfl rfl rfl rfl rfl rfl (Nat.le_of_ble_eq_true rfl) rfl ?_
  refine G_aload_n dX8_init_569 rfl ?_
  refine G_bipush (v := 8) dX8_init_570 (by decide) ?_
  refine G_newl (w' := [.inr (9, [.ref 101, .ref 102, .ref 103, .ref 104, .int 0, .ref 105, .ref 106, .int 0, .int 0, .ref 107, .ref 108, .int 0, .ref 109, .ref 110, .ref 111, .int 0, .ref 112, .int 0, .ref 113, .ref 114, .int 0, .ref 115, .int 0, .null, .null, .int 0, .null]), cL 64 kC, cI 9 (fun _ => 0), cI 9 (fun _ => 0), cI 1080 (fun _ => 0), cL 72 (fun _ => 0), cL 72 (fun _ => 0), cI 9 (fun _ => 0), cI 9 (fun _ => 0), cI 10 (fun _ => 0), cI 120 (fun _ => 0), cI 9 (fun _ => 0), cI 120 (fun _ => 0), cB 32 (fun _ => 0), cI 5120 (fun _ => 0), cB 4400 (fun _ => 0), cL 8 (fun _ => 0)]) (t := 116) (N := 8) (k := 2) (n := 104) dX8_init_572 aC_long (by decide) (by decide) (by decide) (by simp [ab_scS, ab_sc, ab_scC]) rfl rfl ?_
  refine G_putF (w' := [.inr (9, [.ref 101, .ref 102, .ref 103, .ref 104, .int 0, .ref 105, .ref 106, .int 0, .int 0, .ref 107, .ref 108, .int 0, .ref 109, .ref 110, .ref 111, .int 0, .ref 112, .int 0, .ref 113, .ref 114, .int 0, .ref 115, .int 0, .ref 116, .null, .int 0, .null]), cL 64 kC, cI 9 (fun _ => 0), cI 9 (fun _ => 0), cI 1080 (fun _ => 0), cL 72 (fun _ => 0), cL 72 (fun _ => 0), cI 9 (fun _ => 0), cI 9 (fun _ => 0), cI 10 (fun _ => 0), cI 120 (fun _ => 0), cI 9 (fun _ => 0), cI 120 (fun _ => 0), cB 32 (fun _ => 0), cI 5120 (fun _ => 0), cB 4400 (fun _ => 0), cL 8 (fun _ => 0)]) (f := 23) kc9 dX8_init_574 fX8_189 (by decide) rfl rfl rfl rfl rfl rfl (Nat.le_of_ble_eq_true rfl) rfl ?_
  refine G_aload_n dX8_init_577 rfl ?_
  refine G_bipush (v := 64) dX8_init_578 (by decide) ?_
  refine G_newl (w' := [.inr (9, [.ref 101, .ref 102, .ref 103, .ref 104, .int 0, .ref 105, .ref 106, .int 0, .int 0, .ref 107, .ref 108, .int 0, .ref 109, .ref 110, .ref 111, .int 0, .ref 112, .int 0, .ref 113, .ref 114, .int 0, .ref 115, .int 0, .ref 116, .null, .int 0, .null]), cL 64 kC, cI 9 (fun _ => 0), cI 9 (fun _ => 0), cI 1080 (fun _ => 0), cL 72 (fun _ => 0), cL 72 (fun _ => 0), cI 9 (fun _ => 0), cI 9 (fun _ => 0), cI 10 (fun _ => 0), cI 120 (fun _ => 0), cI 9 (fun _ => 0), cI 120 (fun _ => 0), cB 32 (fun _ => 0), cI 5120 (fun _ => 0), cB 4400 (fun _ => 0), cL 8 (fun _ => 0), cL 64 (fun _ => 0)]) (t := 117) (N := 64) (k := 1) (n := 40) dX8_init_580 aC_long (by decide) (by decide) (by decide) (by simp [ab_scS, ab_sc, ab_scC]) rfl rfl ?_
  refine G_putF (w' := [.inr (9, [.ref 101, .ref 102, .ref 103, .ref 104, .int 0, .ref 105, .ref 106, .int 0, .int 0, .ref 107, .ref 108, .int 0, .ref 109, .ref 110, .ref 111, .int 0, .ref 112, .int 0, .ref 113, .ref 114, .int 0, .ref 115, .int 0, .ref 116, .ref 117, .int 0, .null]), cL 64 kC, cI 9 (fun _ => 0), cI 9 (fun _ => 0), cI 1080 (fun _ => 0), cL 72 (fun _ => 0), cL 72 (fun _ => 0), cI 9 (fun _ => 0), cI 9 (fun _ => 0), cI 10 (fun _ => 0), cI 120 (fun _ => 0), cI 9 (fun _ => 0), cI 120 (fun _ => 0), cB 32 (fun _ => 0), cI 5120 (fun _ => 0), cB 4400 (fun _ => 0), cL 8 (fun _ => 0), cL 64 (fun _ => 0)]) (f := 24) kc9 dX8_init_582 fX8_192 (by decide) rfl rfl rfl rfl rfl rfl (Nat.le_of_ble_eq_true rfl) rfl ?_
  refine G_aload_n dX8_init_585 rfl ?_
  refine G_bipush (v := 40) dX8_init_586 (by decide) ?_
  refine G_newz (w' := [.inr (9, [.ref 101, .ref 102, .ref 103, .ref 104, .int 0, .ref 105, .ref 106, .int 0, .int 0, .ref 107, .ref 108, .int 0, .ref 109, .ref 110, .ref 111, .int 0, .ref 112, .int 0, .ref 113, .ref 114, .int 0, .ref 115, .int 0, .ref 116, .ref 117, .int 0, .null]), cL 64 kC, cI 9 (fun _ => 0), cI 9 (fun _ => 0), cI 1080 (fun _ => 0), cL 72 (fun _ => 0), cL 72 (fun _ => 0), cI 9 (fun _ => 0), cI 9 (fun _ => 0), cI 10 (fun _ => 0), cI 120 (fun _ => 0), cI 9 (fun _ => 0), cI 120 (fun _ => 0), cB 32 (fun _ => 0), cI 5120 (fun _ => 0), cB 4400 (fun _ => 0), cL 8 (fun _ => 0), cL 64 (fun _ => 0), cZ 40 (fun _ => 0)]) (t := 118) (N := 40) (k := 0) (n := 0) dX8_init_588 aC_boolean (by decide) (by decide) (by decide) (by simp [ab_scS, ab_sc, ab_scC]) rfl rfl ?_
  refine G_putF (w' := [.inr (9, [.ref 101, .ref 102, .ref 103, .ref 104, .int 0, .ref 105, .ref 106, .int 0, .int 0, .ref 107, .ref 108, .int 0, .ref 109, .ref 110, .ref 111, .int 0, .ref 112, .int 0, .ref 113, .ref 114, .int 0, .ref 115, .int 0, .ref 116, .ref 117, .int 0, .ref 118]), cL 64 kC, cI 9 (fun _ => 0), cI 9 (fun _ => 0), cI 1080 (fun _ => 0), cL 72 (fun _ => 0), cL 72 (fun _ => 0), cI 9 (fun _ => 0), cI 9 (fun _ => 0), cI 10 (fun _ => 0), cI 120 (fun _ => 0), cI 9 (fun _ => 0), cI 120 (fun _ => 0), cB 32 (fun _ => 0), cI 5120 (fun _ => 0), cB 4400 (fun _ => 0), cL 8 (fun _ => 0), cL 64 (fun _ => 0), cZ 40 (fun _ => 0)]) (f := 26) kc9 dX8_init_590 fX8_195 (by decide) rfl rfl rfl rfl rfl rfl (Nat.le_of_ble_eq_true rfl) rfl ?_
  refine G_w (st' := []) (w' := w8 r80) rfl rfl ?_
  refine G_aload_n dX8_init_593 rfl ?_
  refine G_iconst (v := 0) dX8_init_594 (by decide) ?_
  refine G_V8 (as := [.int (nI 0)]) (st := []) cX8_init_595 (con8_digestOf _ r80 [] (by decide) (fun x hx => absurd hx List.not_mem_nil) (fun i hi => absurd hi (Nat.not_lt_zero i))) rfl rfl rfl rfl rfl (Nat.le_of_ble_eq_true rfl) dX8_init_595 (fun r2 v2 hq => ?_)
  obtain ⟨rfl, wd, sc, ms, rfl, hwd⟩ := hq
  refine G_w (st' := []) (w' := w8 ((((((r80.bl, r80.co), (r80.po, r80.ha)), ((r80.nw, r80.gr), r80.go)), (((r80.tr, r80.rw), r80.nm), ((r80.fm, r80.oc), r80.ds))), ((((ms, wd), (sc, r80.sd)), ((r80.ke, r80.ro), r80.hs)), (((r80.gc, r80.nb), r80.fc), ((r80.de, r80.si), r80.th)))) : R8)) rfl rfl ?_
  refine G_aload_n dX8_init_598 rfl ?_
  refine G_V8 (as := []) (st := []) cX8_init_599 (con8_octetsOf _ ((((((r80.bl, r80.co), (r80.po, r80.ha)), ((r80.nw, r80.gr), r80.go)), (((r80.tr, r80.rw), r80.nm), ((r80.fm, r80.oc), r80.ds))), ((((ms, wd), (sc, r80.sd)), ((r80.ke, r80.ro), r80.hs)), (((r80.gc, r80.nb), r80.fc), ((r80.de, r80.si), r80.th)))) : R8) (ab_l ab_noBytes) (fun j hj => by rw [← dig_nil hj]; exact hwd j hj)) rfl rfl rfl rfl rfl (Nat.le_of_ble_eq_true rfl) dX8_init_599 (fun r2 v2 hq => ?_)
  obtain ⟨rfl, oc, rfl, hoc⟩ := hq
  refine G_w (st' := []) (w' := w8 ((((((r80.bl, r80.co), (r80.po, r80.ha)), ((r80.nw, r80.gr), r80.go)), (((r80.tr, r80.rw), r80.nm), ((r80.fm, oc), r80.ds))), ((((ms, wd), (sc, r80.sd)), ((r80.ke, r80.ro), r80.hs)), (((r80.gc, r80.nb), r80.fc), ((r80.de, r80.si), r80.th)))) : R8)) rfl rfl ?_
  exact G_ret (v := none) ⟨dX8_init_602, rfl⟩ ⟨rfl, wd, sc, ms, oc, rfl, hoc⟩
