/-! The law's start. -/
abbrev W36 : List ab_C := [.inr (8, [.ref 101, .ref 111, .ref 114, .ref 118, .ref 128, .int 0, .ref 129]), .inr (3, [.ref 102, .ref 105, .ref 106]), .inr (7, [.ref 103, .ref 104, .int 0, .int 0]), cI 8 (fun _ => 0), cI 64 (fun _ => 0), cI 40 (fun _ => 0), .inr (2, [.ref 107, .ref 108, .ref 109, .ref 110, .int 0]), cI 64 (fun _ => 0), cI 8 (fun _ => 0), cI 8 (fun _ => 0), cI 9 (fun _ => 0), .inr (5, [.ref 112, .ref 113]), cI 8 (fun _ => 0), cI 40 (fun _ => 0), .inr (4, [.ref 115, .ref 116, .ref 117, .int 0]), cI 8 (fun _ => 0), cI 8 (fun _ => 0), cI 40 (fun _ => 0), .inr (6, [.ref 119, .ref 126, .ref 127, .int 0]), .inr (1, [.ref 120, .int 0, .int 0, .int 0, .int 0, .ref 121]), cI 40 (fun _ => 0), .inr (2, [.ref 122, .ref 123, .ref 124, .ref 125, .int 0]), cI 64 (fun _ => 0), cI 8 (fun _ => 0), cI 8 (fun _ => 0), cI 9 (fun _ => 0), cI 8 (fun _ => 0), cI 8 (fun _ => 0), .inl (4, 8, .inr (.inr (.inr (.inr (fun _ => none))))), .inr (1, [.ref 130, .int 0, .int 0, .int 0, .int 0, .ref 131]), cI 40 (fun _ => 0), .inr (2, [.ref 132, .ref 133, .ref 134, .ref 135, .int 0]), cI 64 (fun _ => 0), cI 8 (fun _ => 0), cI 8 (fun _ => 0), cI 9 (fun _ => 0)]
abbrev rS (wd sc : Nat → Int64) (ms oc : Nat → Int32) : R8 := ((((((r80.bl, r80.co), (r80.po, r80.ha)), ((r80.nw, r80.gr), r80.go)), (((r80.tr, r80.rw), r80.nm), ((r80.fm, oc), r80.ds))), ((((ms, wd), (sc, r80.sd)), ((r80.ke, r80.ro), r80.hs)), (((r80.gc, r80.nb), r80.fc), ((r80.de, r80.si), r80.th)))) : R8)
abbrev W56 (r : R8) : List ab_C := W36 ++ (c8 r ++ [cL 1 (fun _ => 0)])
theorem W56_8 (r : R8) : M8 (W56 r) r := fun j hj => by
  rw [List.getElem?_append_right (by show 36 ≤ 36 + j; omega), show 36 + j - W36.length = j from Nat.add_sub_cancel_left 36 j, List.getElem?_append_left (by rw [c8_len]; exact hj)]
set_option maxRecDepth 20000 in
theorem Jn_start (wd sc : Nat → Int64) (ms oc : Nat → Int32) (ho : ∀ j, j < 32 → oc j = ocB (ab_l ab_noBytes) j) : Jn (W56 (rS wd sc ms oc)) := by
  refine ⟨0, fun _ => 29, fun _ => 31, 6, fun _ => 0, fun _ => 0, fun _ _ => 0, 0, 0, fun _ => 0, fun _ => 0, rS wd sc ms oc, fun _ _ => 0, ?_, W56_8 _, ?_, ?_, Or.inl rfl, ?_⟩
  · refine ⟨by omega, rfl, ⟨((fun _ => 0), (fun _ => 0), 0), 0, fun _ => 0, rfl, rfl, rfl, rfl, rfl⟩, ⟨0, fun _ => 0, fun _ => 0, fun _ => 0, fun _ => 0, rfl, rfl, rfl, rfl, rfl⟩, fun a ha => ?_, ?_, ?_, ?_⟩
    · exact ⟨0, 0, fun _ => 0, 0, fun _ => 0, fun _ => 0, fun _ => 0, fun _ => 0, ⟨rfl, rfl⟩, ⟨rfl, rfl, rfl, rfl, rfl⟩, Nat.zero_le _, Nat.zero_le _, fun i hi => absurd hi (Nat.not_lt_zero _), fun i j _ hj => absurd hj (Nat.not_lt_zero _), Or.inl rfl⟩
    · exact ⟨fun _ => 0, fun _ => 0, 0, fun _ => 0, fun _ => 0, fun _ => 0, 0, 0, 0, fun _ => 0, 0, fun _ => 0, fun _ => 0, fun _ => 0, fun _ => 0, fun _ => 0, fun _ => 0, ⟨rfl, rfl, rfl, rfl, rfl, rfl, rfl⟩, ⟨rfl, rfl, rfl, rfl, rfl, rfl, rfl⟩, fun j hj => ⟨rfl, Nat.zero_le _⟩, fun j hj => ⟨rfl, Nat.zero_le _⟩, fun j hj => ⟨rfl, Nat.zero_le _⟩, Nat.zero_le _, Nat.zero_le _, fun i hi => absurd hi (Nat.not_lt_zero _), fun i hi => absurd hi (Nat.not_lt_zero _), Or.inl rfl⟩
    · have e : kf (fun j => (fun _ => 29) j + 100) 0 = fun _ => none := by
        funext j
        simp [kf]
      rw [e]
      rfl
    · refine ⟨fun a _ => Or.inl rfl, fun a _ => Or.inr (Or.inl rfl), Or.inl rfl, fun a c h1 h2 h3 => absurd (by omega) h3, fun a c h1 h2 h3 => absurd (by omega) h3, fun a c h1 h2 => Or.inl (Nat.le_of_ble_eq_true rfl), fun a h1 => Or.inl (Nat.le_of_ble_eq_true rfl), fun a h1 => Or.inr (Nat.le_of_ble_eq_true rfl)⟩
  · exact ⟨⟨_, rfl⟩, ⟨_, rfl⟩, ⟨_, rfl⟩, ⟨_, rfl⟩, rfl⟩
  · refine ⟨rfl, fun a ha => ⟨rfl, rfl, fun i hi => absurd hi (Nat.not_lt_zero _), List.Perm.refl _⟩⟩
  · refine ⟨rfl, Nat.zero_le _, rfl, Nat.zero_le _, fun c hc => absurd hc (Nat.not_lt_zero _), fun i hi => absurd hi (Nat.not_lt_zero _), fun j hj => ?_⟩
    show oc j = _
    rw [ho j hj]
    unfold ocB
    rw [show fmB (fun _ => 0) 0 = [] from rfl, dig_nil (j := j / 4) (by omega)]
set_option maxRecDepth 20000 in
set_option maxHeartbeats 4000000 in
theorem law_G (d Ln : Nat) (xs : Nat → Int32) (hN : Ln ≤ 2048) : G (lw_xo Ln xs) mL_law (d + 15) 3640 83593 lwQ1 0 [some (.ref 3), none, none, none, none, none, none] [] [] := by
  refine G_new (w' := [.inr (8, [.null, .null, .null, .null, .null, .int 0, .null])]) (t := 100) (k := 3639) (n := 83586) kc8 dL_law_0 nL_8 iC8 jC8 rfl (by simp [ab_scS, ab_sc, ab_scC]) rfl rfl ?_
  refine G_dup dL_law_3 rfl ?_
  refine G_I (j := 0) (is := [0]) (fo := []) (as := [.ref 100]) (as' := []) (st := [.ref 100]) (k := 3604) (n := 82955) cL_law_4 (con_X7_init (d + 10)) (lw_pfx Ln xs) rfl (by decide) rfl rfl rfl rfl (Nat.le_of_ble_eq_true rfl) dL_law_4 (by decide) (by simp [ab_scS, ab_sc, ab_scC]) (fun w' v h => by rw [h.1]; exact Nat.le_of_ble_eq_true rfl) (fun w2 v2 hq => ?_)
  obtain ⟨rfl, rfl⟩ := hq
  refine G_w (st' := [.ref 100]) (w' := W36) rfl rfl ?_
  refine G_astore_n (L' := [some (.ref 3), some (.ref 100), none, none, none, none, none]) dL_law_7 (Nat.le_of_ble_eq_true rfl) rfl ?_
  refine G_new (w' := W36 ++ [.inr (9, [.null, .null, .null, .null, .int 0, .null, .null, .int 0, .int 0, .null, .null, .int 0, .null, .null, .null, .int 0, .null, .int 0, .null, .null, .int 0, .null, .int 0, .null, .null, .int 0, .null])]) (t := 136) (k := 3603) (n := 82928) kc9 dL_law_8 nL_16 iC9 jC9 rfl (by simp [ab_scS, ab_sc, ab_scC]) rfl rfl ?_
  refine G_dup dL_law_11 rfl ?_
  refine G_I (j := 36) (is := [36]) (fo := []) (as := [.ref 100]) (as' := []) (st := [.ref 136]) (k := 3585) (n := 71681) cL_law_12 (con8_init (d + 11)) (lw_pfx Ln xs) rfl (by decide) rfl rfl rfl rfl (Nat.le_of_ble_eq_true rfl) dL_law_12 (by decide) (by simp [ab_scS, ab_sc, ab_scC]) (fun w' v h => by obtain ⟨_, _, _, _, _, h, _⟩ := h; rw [h]; exact Nat.le_of_ble_eq_true rfl) (fun w2 v2 hq => ?_)
  obtain ⟨rfl, wd, sc, ms, oc, rfl, ho⟩ := hq
  refine G_w (st' := [.ref 136]) (w' := W36 ++ c8 (rS wd sc ms oc)) rfl rfl ?_
  refine G_astore_n (L' := [some (.ref 3), some (.ref 100), some (.ref 136), none, none, none, none]) dL_law_15 (Nat.le_of_ble_eq_true rfl) rfl ?_
  refine G_iconst (v := 1) dL_law_16 (by decide) ?_
  refine G_newl (w' := W56 (rS wd sc ms oc)) (t := 155) (N := 1) (k := 3584) (n := 71680) dL_law_17 aC_long (by decide) (by decide) (by decide) (by simp [ab_scS, ab_sc, ab_scC, c8]) rfl rfl ?_
  refine G_astore_n (L' := [some (.ref 3), some (.ref 100), some (.ref 136), some (.ref 155), none, none, none]) dL_law_19 (Nat.le_of_ble_eq_true rfl) rfl ?_
  refine G_iconst (v := 0) dL_law_20 (by decide) ?_
  refine G_istore (L' := lwL 0 none none) dL_law_21 (Nat.le_of_ble_eq_true rfl) rfl ?_
  exact law_loop d Ln xs (by omega) 512 0 none none _ (by omega) (by omega) (Jn_start wd sc ms oc ho)
