/-! Constructors -/
set_option maxRecDepth 20000 in
set_option maxHeartbeats 4000000 in
theorem con_X6_init (d : Nat) : Con mX6_init (d + 1) 2 72 [.inr (7, [.null, .null, .int 0, .int 0])] [.ref 100] (fun w' v => w' = [.inr (7, [.ref 101, .ref 102, .int 0, .int 0]), cI 8 (fun _ => 0), cI 64 (fun _ => 0)] ∧ v = none) := by
  refine Con.of (ab_okc rfl (by decide)) (Nat.le_of_ble_eq_true rfl) ?_
  show G ab_x0 mX6_init (d + 1) 2 72 _ 0 [some (.ref 100)] [] _
  refine G_aload_n dX6_init_0 rfl ?_
  refine G_obj dX6_init_1 oX6_3 rfl (Nat.le_of_ble_eq_true rfl) ?_
  refine G_aload_n dX6_init_4 rfl ?_
  refine G_bipush (v := 8) dX6_init_5 (by decide) ?_
  refine G_newi (w' := [.inr (7, [.null, .null, .int 0, .int 0]), cI 8 (fun _ => 0)]) (t := 101) (N := 8) (k := 1) (n := 64) dX6_init_7 aC_int (by decide) (by decide) (by decide) (by simp [ab_scS, ab_sc, ab_scC]) rfl rfl ?_
  refine G_putF (w' := [_, _]) (f := 0) kc7 dX6_init_9 fX6_9 (by decide) rfl rfl rfl rfl rfl rfl (Nat.le_of_ble_eq_true rfl) rfl ?_
  refine G_aload_n dX6_init_12 rfl ?_
  refine G_bipush (v := 64) dX6_init_13 (by decide) ?_
  refine G_newi (w' := [.inr (7, [.ref 101, .null, .int 0, .int 0]), cI 8 (fun _ => 0), cI 64 (fun _ => 0)]) (t := 102) (N := 64) (k := 0) (n := 0) dX6_init_15 aC_int (by decide) (by decide) (by decide) (by simp [ab_scS, ab_sc, ab_scC]) rfl rfl ?_
  refine G_putF (w' := [_, _, _]) (f := 1) kc7 dX6_init_17 fX6_15 (by decide) rfl rfl rfl rfl rfl rfl (Nat.le_of_ble_eq_true rfl) rfl ?_
  refine G_aload_n dX6_init_20 rfl ?_
  refine G_iconst (v := 0) dX6_init_21 (by decide) ?_
  refine G_put (w' := [_, _, _]) (f := 2) kc7 dX6_init_22 fX6_18 (by decide) rfl rfl rfl rfl (Nat.le_of_ble_eq_true rfl) rfl ?_
  refine G_aload_n dX6_init_25 rfl ?_
  refine G_iconst (v := 0) dX6_init_26 (by decide) ?_
  refine G_put (w' := [_, _, _]) (f := 3) kc7 dX6_init_27 fX6_22 (by decide) rfl rfl rfl rfl (Nat.le_of_ble_eq_true rfl) rfl ?_
  exact G_ret (v := none) ⟨dX6_init_30, rfl⟩ ⟨rfl, rfl⟩
set_option maxRecDepth 20000 in
set_option maxHeartbeats 4000000 in
theorem con_X1_init (d : Nat) : Con mX1_init (d + 1) 4 89 [.inr (2, [.null, .null, .null, .null, .int 0])] [.ref 100] (fun w' v => w' = [.inr (2, [.ref 101, .ref 102, .ref 103, .ref 104, .int 0]), cI 64 (fun _ => 0), cI 8 (fun _ => 0), cI 8 (fun _ => 0), cI 9 (fun _ => 0)] ∧ v = none) := by
  refine Con.of (ab_okc rfl (by decide)) (Nat.le_of_ble_eq_true rfl) ?_
  show G ab_x0 mX1_init (d + 1) 4 89 _ 0 [some (.ref 100)] [] _
  refine G_aload_n dX1_init_0 rfl ?_
  refine G_obj dX1_init_1 oX1_3 rfl (Nat.le_of_ble_eq_true rfl) ?_
  refine G_aload_n dX1_init_4 rfl ?_
  refine G_bipush (v := 64) dX1_init_5 (by decide) ?_
  refine G_newi (w' := [.inr (2, [.null, .null, .null, .null, .int 0]), cI 64 (fun _ => 0)]) (t := 101) (N := 64) (k := 3) (n := 25) dX1_init_7 aC_int (by decide) (by decide) (by decide) (by simp [ab_scS, ab_sc, ab_scC]) rfl rfl ?_
  refine G_putF (w' := [_, _]) (f := 0) kc2 dX1_init_9 fX1_9 (by decide) rfl rfl rfl rfl rfl rfl (Nat.le_of_ble_eq_true rfl) rfl ?_
  refine G_aload_n dX1_init_12 rfl ?_
  refine G_bipush (v := 8) dX1_init_13 (by decide) ?_
  refine G_newi (w' := [.inr (2, [.ref 101, .null, .null, .null, .int 0]), cI 64 (fun _ => 0), cI 8 (fun _ => 0)]) (t := 102) (N := 8) (k := 2) (n := 17) dX1_init_15 aC_int (by decide) (by decide) (by decide) (by simp [ab_scS, ab_sc, ab_scC]) rfl rfl ?_
  refine G_putF (w' := [_, _, _]) (f := 1) kc2 dX1_init_17 fX1_15 (by decide) rfl rfl rfl rfl rfl rfl (Nat.le_of_ble_eq_true rfl) rfl ?_
  refine G_aload_n dX1_init_20 rfl ?_
  refine G_bipush (v := 8) dX1_init_21 (by decide) ?_
  refine G_newi (w' := [.inr (2, [.ref 101, .ref 102, .null, .null, .int 0]), cI 64 (fun _ => 0), cI 8 (fun _ => 0), cI 8 (fun _ => 0)]) (t := 103) (N := 8) (k := 1) (n := 9) dX1_init_23 aC_int (by decide) (by decide) (by decide) (by simp [ab_scS, ab_sc, ab_scC]) rfl rfl ?_
  refine G_putF (w' := [_, _, _, _]) (f := 2) kc2 dX1_init_25 fX1_18 (by decide) rfl rfl rfl rfl rfl rfl (Nat.le_of_ble_eq_true rfl) rfl ?_
  refine G_aload_n dX1_init_28 rfl ?_
  refine G_bipush (v := 9) dX1_init_29 (by decide) ?_
  refine G_newi (w' := [.inr (2, [.ref 101, .ref 102, .ref 103, .null, .int 0]), cI 64 (fun _ => 0), cI 8 (fun _ => 0), cI 8 (fun _ => 0), cI 9 (fun _ => 0)]) (t := 104) (N := 9) (k := 0) (n := 0) dX1_init_31 aC_int (by decide) (by decide) (by decide) (by simp [ab_scS, ab_sc, ab_scC]) rfl rfl ?_
  refine G_putF (w' := [_, _, _, _, _]) (f := 3) kc2 dX1_init_33 fX1_21 (by decide) rfl rfl rfl rfl rfl rfl (Nat.le_of_ble_eq_true rfl) rfl ?_
  refine G_aload_n dX1_init_36 rfl ?_
  refine G_iconst (v := 0) dX1_init_37 (by decide) ?_
  refine G_put (w' := [_, _, _, _, _]) (f := 4) kc2 dX1_init_38 fX1_24 (by decide) rfl rfl rfl rfl (Nat.le_of_ble_eq_true rfl) rfl ?_
  exact G_ret (v := none) ⟨dX1_init_41, rfl⟩ ⟨rfl, rfl⟩
set_option maxRecDepth 20000 in
set_option maxHeartbeats 4000000 in
theorem con_X0_init (d : Nat) : Con mX0_init (d + 2) 6 134 [.inr (1, [.null, .int 0, .int 0, .int 0, .int 0, .null])] [.ref 100] (fun w' v => w' = [.inr (1, [.ref 101, .int 0, .int 0, .int 0, .int 0, .ref 102]), cI 40 (fun _ => 0), .inr (2, [.ref 103, .ref 104, .ref 105, .ref 106, .int 0]), cI 64 (fun _ => 0), cI 8 (fun _ => 0), cI 8 (fun _ => 0), cI 9 (fun _ => 0)] ∧ v = none) := by
  refine Con.of (ab_okc rfl (by decide)) (Nat.le_of_ble_eq_true rfl) ?_
  show G ab_x0 mX0_init (d + 2) 6 134 _ 0 [some (.ref 100)] [] _
  refine G_aload_n dX0_init_0 rfl ?_
  refine G_obj dX0_init_1 oX0_3 rfl (Nat.le_of_ble_eq_true rfl) ?_
  refine G_aload_n dX0_init_4 rfl ?_
  refine G_bipush (v := 40) dX0_init_5 (by decide) ?_
  refine G_newi (w' := [.inr (1, [.null, .int 0, .int 0, .int 0, .int 0, .null]), cI 40 (fun _ => 0)]) (t := 101) (N := 40) (k := 5) (n := 94) dX0_init_7 aC_int (by decide) (by decide) (by decide) (by simp [ab_scS, ab_sc, ab_scC]) rfl rfl ?_
  refine G_putF (w' := [_, _]) (f := 0) kc1 dX0_init_9 fX0_9 (by decide) rfl rfl rfl rfl rfl rfl (Nat.le_of_ble_eq_true rfl) rfl ?_
  refine G_aload_n dX0_init_12 rfl ?_
  refine G_iconst (v := 0) dX0_init_13 (by decide) ?_
  refine G_put (w' := [_, _]) (f := 1) kc1 dX0_init_14 fX0_15 (by decide) rfl rfl rfl rfl (Nat.le_of_ble_eq_true rfl) rfl ?_
  refine G_aload_n dX0_init_17 rfl ?_
  refine G_iconst (v := 0) dX0_init_18 (by decide) ?_
  refine G_put (w' := [_, _]) (f := 2) kc1 dX0_init_19 fX0_19 (by decide) rfl rfl rfl rfl (Nat.le_of_ble_eq_true rfl) rfl ?_
  refine G_aload_n dX0_init_22 rfl ?_
  refine G_iconst (v := 0) dX0_init_23 (by decide) ?_
  refine G_put (w' := [_, _]) (f := 3) kc1 dX0_init_24 fX0_22 (by decide) rfl (by decide) (by decide) rfl (Nat.le_of_ble_eq_true rfl) rfl ?_
  refine G_aload_n dX0_init_27 rfl ?_
  refine G_iconst (v := 0) dX0_init_28 (by decide) ?_
  refine G_put (w' := [_, _]) (f := 4) kc1 dX0_init_29 fX0_26 (by decide) rfl rfl rfl rfl (Nat.le_of_ble_eq_true rfl) rfl ?_
  refine G_aload_n dX0_init_32 rfl ?_
  refine G_new (w' := [.inr (1, [.ref 101, .int 0, .int 0, .int 0, .int 0, .null]), cI 40 (fun _ => 0), .inr (2, [.null, .null, .null, .null, .int 0])]) (t := 102) (k := 4) (n := 89) kc2 dX0_init_33 nX0_29 iC2 jC2 rfl (by simp [ab_scS, ab_sc, ab_scC]) rfl rfl ?_
  refine G_dup dX0_init_36 rfl ?_
  refine G_IN (j := 2) (is := [2]) (fo := []) (as := [.ref 100]) (as' := []) (st := [.ref 102, .ref 100]) (k := 0) (n := 0) cX0_init_37 (con_X1_init (d + 0)) ab_pfx rfl (by decide) rfl rfl rfl rfl (Nat.le_of_ble_eq_true rfl) dX0_init_37 (by decide) (by simp [ab_scS, ab_sc, ab_scC]) (fun w' v h => by rw [h.1]; exact Nat.le_of_ble_eq_true rfl) (fun w2 v2 hq => ?_)
  obtain ⟨rfl, rfl⟩ := hq
  refine G_w (st' := [.ref 102, .ref 100]) (w' := [.inr (1, [.ref 101, .int 0, .int 0, .int 0, .int 0, .null]), cI 40 (fun _ => 0), .inr (2, [.ref 103, .ref 104, .ref 105, .ref 106, .int 0]), cI 64 (fun _ => 0), cI 8 (fun _ => 0), cI 8 (fun _ => 0), cI 9 (fun _ => 0)]) rfl rfl ?_
  refine G_put (w' := [_, _, _, _, _, _, _]) (f := 5) kc1 dX0_init_40 fX0_32 (by decide) rfl rfl rfl rfl (Nat.le_of_ble_eq_true rfl) rfl ?_
  exact G_ret (v := none) ⟨dX0_init_43, rfl⟩ ⟨rfl, rfl⟩
set_option maxRecDepth 20000 in
set_option maxHeartbeats 4000000 in
theorem con_X4_init (d : Nat) : Con mX4_init (d + 1) 2 48 [.inr (5, [.null, .null])] [.ref 100] (fun w' v => w' = [.inr (5, [.ref 101, .ref 102]), cI 8 (fun _ => 0), cI 40 (fun _ => 0)] ∧ v = none) := by
  refine Con.of (ab_okc rfl (by decide)) (Nat.le_of_ble_eq_true rfl) ?_
  show G ab_x0 mX4_init (d + 1) 2 48 _ 0 [some (.ref 100)] [] _
  refine G_aload_n dX4_init_0 rfl ?_
  refine G_obj dX4_init_1 oX4_3 rfl (Nat.le_of_ble_eq_true rfl) ?_
  refine G_aload_n dX4_init_4 rfl ?_
  refine G_bipush (v := 8) dX4_init_5 (by decide) ?_
  refine G_newi (w' := [.inr (5, [.null, .null]), cI 8 (fun _ => 0)]) (t := 101) (N := 8) (k := 1) (n := 40) dX4_init_7 aC_int (by decide) (by decide) (by decide) (by simp [ab_scS, ab_sc, ab_scC]) rfl rfl ?_
  refine G_putF (w' := [_, _]) (f := 0) kc5 dX4_init_9 fX4_9 (by decide) rfl rfl rfl rfl rfl rfl (Nat.le_of_ble_eq_true rfl) rfl ?_
  refine G_aload_n dX4_init_12 rfl ?_
  refine G_bipush (v := 40) dX4_init_13 (by decide) ?_
  refine G_newi (w' := [.inr (5, [.ref 101, .null]), cI 8 (fun _ => 0), cI 40 (fun _ => 0)]) (t := 102) (N := 40) (k := 0) (n := 0) dX4_init_15 aC_int (by decide) (by decide) (by decide) (by simp [ab_scS, ab_sc, ab_scC]) rfl rfl ?_
  refine G_putF (w' := [_, _, _]) (f := 1) kc5 dX4_init_17 fX4_15 (by decide) rfl rfl rfl rfl rfl rfl (Nat.le_of_ble_eq_true rfl) rfl ?_
  exact G_ret (v := none) ⟨dX4_init_20, rfl⟩ ⟨rfl, rfl⟩
set_option maxRecDepth 20000 in
set_option maxHeartbeats 4000000 in
theorem con_X3_init (d : Nat) : Con mX3_init (d + 1) 3 56 [.inr (4, [.null, .null, .null, .int 0])] [.ref 100] (fun w' v => w' = [.inr (4, [.ref 101, .ref 102, .ref 103, .int 0]), cI 8 (fun _ => 0), cI 8 (fun _ => 0), cI 40 (fun _ => 0)] ∧ v = none) := by
  refine Con.of (ab_okc rfl (by decide)) (Nat.le_of_ble_eq_true rfl) ?_
  show G ab_x0 mX3_init (d + 1) 3 56 _ 0 [some (.ref 100)] [] _
  refine G_aload_n dX3_init_0 rfl ?_
  refine G_obj dX3_init_1 oX3_3 rfl (Nat.le_of_ble_eq_true rfl) ?_
  refine G_aload_n dX3_init_4 rfl ?_
  refine G_bipush (v := 8) dX3_init_5 (by decide) ?_
  refine G_newi (w' := [.inr (4, [.null, .null, .null, .int 0]), cI 8 (fun _ => 0)]) (t := 101) (N := 8) (k := 2) (n := 48) dX3_init_7 aC_int (by decide) (by decide) (by decide) (by simp [ab_scS, ab_sc, ab_scC]) rfl rfl ?_
  refine G_putF (w' := [_, _]) (f := 0) kc4 dX3_init_9 fX3_9 (by decide) rfl rfl rfl rfl rfl rfl (Nat.le_of_ble_eq_true rfl) rfl ?_
  refine G_aload_n dX3_init_12 rfl ?_
  refine G_bipush (v := 8) dX3_init_13 (by decide) ?_
  refine G_newi (w' := [.inr (4, [.ref 101, .null, .null, .int 0]), cI 8 (fun _ => 0), cI 8 (fun _ => 0)]) (t := 102) (N := 8) (k := 1) (n := 40) dX3_init_15 aC_int (by decide) (by decide) (by decide) (by simp [ab_scS, ab_sc, ab_scC]) rfl rfl ?_
  refine G_putF (w' := [_, _, _]) (f := 1) kc4 dX3_init_17 fX3_15 (by decide) rfl rfl rfl rfl rfl rfl (Nat.le_of_ble_eq_true rfl) rfl ?_
  refine G_aload_n dX3_init_20 rfl ?_
  refine G_bipush (v := 40) dX3_init_21 (by decide) ?_
  refine G_newi (w' := [.inr (4, [.ref 101, .ref 102, .null, .int 0]), cI 8 (fun _ => 0), cI 8 (fun _ => 0), cI 40 (fun _ => 0)]) (t := 103) (N := 40) (k := 0) (n := 0) dX3_init_23 aC_int (by decide) (by decide) (by decide) (by simp [ab_scS, ab_sc, ab_scC]) rfl rfl ?_
  refine G_putF (w' := [_, _, _, _]) (f := 2) kc4 dX3_init_25 fX3_18 (by decide) rfl rfl rfl rfl rfl rfl (Nat.le_of_ble_eq_true rfl) rfl ?_
  refine G_aload_n dX3_init_28 rfl ?_
  refine G_iconst (v := 0) dX3_init_29 (by decide) ?_
  refine G_put (w' := [_, _, _, _]) (f := 3) kc4 dX3_init_30 fX3_21 (by decide) rfl (by decide) (by decide) rfl (Nat.le_of_ble_eq_true rfl) rfl ?_
  exact G_ret (v := none) ⟨dX3_init_33, rfl⟩ ⟨rfl, rfl⟩
set_option maxRecDepth 20000 in
set_option maxHeartbeats 4000000 in
theorem con_X2_init (d : Nat) : Con mX2_init (d + 2) 9 210 [.inr (3, [.null, .null, .null])] [.ref 100] (fun w' v => w' = [.inr (3, [.ref 101, .ref 104, .ref 105]), .inr (7, [.ref 102, .ref 103, .int 0, .int 0]), cI 8 (fun _ => 0), cI 64 (fun _ => 0), cI 40 (fun _ => 0), .inr (2, [.ref 106, .ref 107, .ref 108, .ref 109, .int 0]), cI 64 (fun _ => 0), cI 8 (fun _ => 0), cI 8 (fun _ => 0), cI 9 (fun _ => 0)] ∧ v = none) := by
  refine Con.of (ab_okc rfl (by decide)) (Nat.le_of_ble_eq_true rfl) ?_
  show G ab_x0 mX2_init (d + 2) 9 210 _ 0 [some (.ref 100)] [] _
  refine G_aload_n dX2_init_0 rfl ?_
  refine G_obj dX2_init_1 oX2_3 rfl (Nat.le_of_ble_eq_true rfl) ?_
  refine G_aload_n dX2_init_4 rfl ?_
  refine G_new (w' := [.inr (3, [.null, .null, .null]), .inr (7, [.null, .null, .int 0, .int 0])]) (t := 101) (k := 8) (n := 206) kc7 dX2_init_5 nX2_9 iC7 jC7 rfl (by simp [ab_scS, ab_sc, ab_scC]) rfl rfl ?_
  refine G_dup dX2_init_8 rfl ?_
  refine G_IN (j := 1) (is := [1]) (fo := []) (as := [.ref 100]) (as' := []) (st := [.ref 101, .ref 100]) (k := 6) (n := 134) cX2_init_9 (con_X6_init (d + 0)) ab_pfx rfl (by decide) rfl rfl rfl rfl (Nat.le_of_ble_eq_true rfl) dX2_init_9 (by decide) (by simp [ab_scS, ab_sc, ab_scC]) (fun w' v h => by rw [h.1]; exact Nat.le_of_ble_eq_true rfl) (fun w2 v2 hq => ?_)
  obtain ⟨rfl, rfl⟩ := hq
  refine G_w (st' := [.ref 101, .ref 100]) (w' := [.inr (3, [.null, .null, .null]), .inr (7, [.ref 102, .ref 103, .int 0, .int 0]), cI 8 (fun _ => 0), cI 64 (fun _ => 0)]) rfl rfl ?_
  refine G_putF (w' := [_, _, _, _]) (f := 0) kc3 dX2_init_12 fX2_12 (by decide) rfl rfl rfl rfl rfl rfl (Nat.le_of_ble_eq_true rfl) rfl ?_
  refine G_aload_n dX2_init_15 rfl ?_
  refine G_bipush (v := 40) dX2_init_16 (by decide) ?_
  refine G_newi (w' := [.inr (3, [.ref 101, .null, .null]), .inr (7, [.ref 102, .ref 103, .int 0, .int 0]), cI 8 (fun _ => 0), cI 64 (fun _ => 0), cI 40 (fun _ => 0)]) (t := 104) (N := 40) (k := 5) (n := 94) dX2_init_18 aC_int (by decide) (by decide) (by decide) (by simp [ab_scS, ab_sc, ab_scC]) rfl rfl ?_
  refine G_putF (w' := [_, _, _, _, _]) (f := 1) kc3 dX2_init_20 fX2_18 (by decide) rfl rfl rfl rfl rfl rfl (Nat.le_of_ble_eq_true rfl) rfl ?_
  refine G_aload_n dX2_init_23 rfl ?_
  refine G_new (w' := [.inr (3, [.ref 101, .ref 104, .null]), .inr (7, [.ref 102, .ref 103, .int 0, .int 0]), cI 8 (fun _ => 0), cI 64 (fun _ => 0), cI 40 (fun _ => 0), .inr (2, [.null, .null, .null, .null, .int 0])]) (t := 105) (k := 4) (n := 89) kc2 dX2_init_24 nX2_22 iC2 jC2 rfl (by simp [ab_scS, ab_sc, ab_scC]) rfl rfl ?_
  refine G_dup dX2_init_27 rfl ?_
  refine G_IN (j := 5) (is := [5]) (fo := []) (as := [.ref 100]) (as' := []) (st := [.ref 105, .ref 100]) (k := 0) (n := 0) cX2_init_28 (con_X1_init (d + 0)) ab_pfx rfl (by decide) rfl rfl rfl rfl (Nat.le_of_ble_eq_true rfl) dX2_init_28 (by decide) (by simp [ab_scS, ab_sc, ab_scC]) (fun w' v h => by rw [h.1]; exact Nat.le_of_ble_eq_true rfl) (fun w2 v2 hq => ?_)
  obtain ⟨rfl, rfl⟩ := hq
  refine G_w (st' := [.ref 105, .ref 100]) (w' := [.inr (3, [.ref 101, .ref 104, .null]), .inr (7, [.ref 102, .ref 103, .int 0, .int 0]), cI 8 (fun _ => 0), cI 64 (fun _ => 0), cI 40 (fun _ => 0), .inr (2, [.ref 106, .ref 107, .ref 108, .ref 109, .int 0]), cI 64 (fun _ => 0), cI 8 (fun _ => 0), cI 8 (fun _ => 0), cI 9 (fun _ => 0)]) rfl rfl ?_
  refine G_put (w' := [_, _, _, _, _, _, _, _, _, _]) (f := 2) kc3 dX2_init_31 fX2_25 (by decide) rfl rfl rfl rfl (Nat.le_of_ble_eq_true rfl) rfl ?_
  exact G_ret (v := none) ⟨dX2_init_34, rfl⟩ ⟨rfl, rfl⟩
set_option maxRecDepth 20000 in
set_option maxHeartbeats 4000000 in
theorem con_X5_init (d : Nat) : Con mX5_init (d + 3) 9 156 [.inr (6, [.null, .null, .null, .int 0])] [.ref 100] (fun w' v => w' = [.inr (6, [.ref 101, .ref 108, .ref 109, .int 0]), .inr (1, [.ref 102, .int 0, .int 0, .int 0, .int 0, .ref 103]), cI 40 (fun _ => 0), .inr (2, [.ref 104, .ref 105, .ref 106, .ref 107, .int 0]), cI 64 (fun _ => 0), cI 8 (fun _ => 0), cI 8 (fun _ => 0), cI 9 (fun _ => 0), cI 8 (fun _ => 0), cI 8 (fun _ => 0)] ∧ v = none) := by
  refine Con.of (ab_okc rfl (by decide)) (Nat.le_of_ble_eq_true rfl) ?_
  show G ab_x0 mX5_init (d + 3) 9 156 _ 0 [some (.ref 100)] [] _
  refine G_aload_n dX5_init_0 rfl ?_
  refine G_obj dX5_init_1 oX5_3 rfl (Nat.le_of_ble_eq_true rfl) ?_
  refine G_aload_n dX5_init_4 rfl ?_
  refine G_new (w' := [.inr (6, [.null, .null, .null, .int 0]), .inr (1, [.null, .int 0, .int 0, .int 0, .int 0, .null])]) (t := 101) (k := 8) (n := 150) kc1 dX5_init_5 nX5_9 iC1 jC1 rfl (by simp [ab_scS, ab_sc, ab_scC]) rfl rfl ?_
  refine G_dup dX5_init_8 rfl ?_
  refine G_IN (j := 1) (is := [1]) (fo := []) (as := [.ref 100]) (as' := []) (st := [.ref 101, .ref 100]) (k := 2) (n := 16) cX5_init_9 (con_X0_init (d + 0)) ab_pfx rfl (by decide) rfl rfl rfl rfl (Nat.le_of_ble_eq_true rfl) dX5_init_9 (by decide) (by simp [ab_scS, ab_sc, ab_scC]) (fun w' v h => by rw [h.1]; exact Nat.le_of_ble_eq_true rfl) (fun w2 v2 hq => ?_)
  obtain ⟨rfl, rfl⟩ := hq
  refine G_w (st' := [.ref 101, .ref 100]) (w' := [.inr (6, [.null, .null, .null, .int 0]), .inr (1, [.ref 102, .int 0, .int 0, .int 0, .int 0, .ref 103]), cI 40 (fun _ => 0), .inr (2, [.ref 104, .ref 105, .ref 106, .ref 107, .int 0]), cI 64 (fun _ => 0), cI 8 (fun _ => 0), cI 8 (fun _ => 0), cI 9 (fun _ => 0)]) rfl rfl ?_
  refine G_putF (w' := [_, _, _, _, _, _, _, _]) (f := 0) kc6 dX5_init_12 fX5_12 (by decide) rfl rfl rfl rfl rfl rfl (Nat.le_of_ble_eq_true rfl) rfl ?_
  refine G_aload_n dX5_init_15 rfl ?_
  refine G_bipush (v := 8) dX5_init_16 (by decide) ?_
  refine G_newi (w' := [.inr (6, [.ref 101, .null, .null, .int 0]), .inr (1, [.ref 102, .int 0, .int 0, .int 0, .int 0, .ref 103]), cI 40 (fun _ => 0), .inr (2, [.ref 104, .ref 105, .ref 106, .ref 107, .int 0]), cI 64 (fun _ => 0), cI 8 (fun _ => 0), cI 8 (fun _ => 0), cI 9 (fun _ => 0), cI 8 (fun _ => 0)]) (t := 108) (N := 8) (k := 1) (n := 8) dX5_init_18 aC_int (by decide) (by decide) (by decide) (by simp [ab_scS, ab_sc, ab_scC]) rfl rfl ?_
  refine G_putF (w' := [_, _, _, _, _, _, _, _, _]) (f := 1) kc6 dX5_init_20 fX5_18 (by decide) rfl rfl rfl rfl rfl rfl (Nat.le_of_ble_eq_true rfl) rfl ?_
  refine G_aload_n dX5_init_23 rfl ?_
  refine G_bipush (v := 8) dX5_init_24 (by decide) ?_
  refine G_newi (w' := [.inr (6, [.ref 101, .ref 108, .null, .int 0]), .inr (1, [.ref 102, .int 0, .int 0, .int 0, .int 0, .ref 103]), cI 40 (fun _ => 0), .inr (2, [.ref 104, .ref 105, .ref 106, .ref 107, .int 0]), cI 64 (fun _ => 0), cI 8 (fun _ => 0), cI 8 (fun _ => 0), cI 9 (fun _ => 0), cI 8 (fun _ => 0), cI 8 (fun _ => 0)]) (t := 109) (N := 8) (k := 0) (n := 0) dX5_init_26 aC_int (by decide) (by decide) (by decide) (by simp [ab_scS, ab_sc, ab_scC]) rfl rfl ?_
  refine G_putF (w' := [_, _, _, _, _, _, _, _, _, _]) (f := 2) kc6 dX5_init_28 fX5_22 (by decide) rfl rfl rfl rfl rfl rfl (Nat.le_of_ble_eq_true rfl) rfl ?_
  refine G_aload_n dX5_init_31 rfl ?_
  refine G_iconst (v := 0) dX5_init_32 (by decide) ?_
  refine G_put (w' := [_, _, _, _, _, _, _, _, _, _]) (f := 3) kc6 dX5_init_33 fX5_25 (by decide) rfl (by decide) (by decide) rfl (Nat.le_of_ble_eq_true rfl) rfl ?_
  exact G_ret (v := none) ⟨dX5_init_36, rfl⟩ ⟨rfl, rfl⟩
set_option maxRecDepth 20000 in
set_option maxHeartbeats 4000000 in
theorem con_X7_init (d : Nat) : Con mX7_init (d + 4) 35 631 [.inr (8, [.null, .null, .null, .null, .null, .int 0, .null])] [.ref 100] (fun w' v => w' = [.inr (8, [.ref 101, .ref 111, .ref 114, .ref 118, .ref 128, .int 0, .ref 129]), .inr (3, [.ref 102, .ref 105, .ref 106]), .inr (7, [.ref 103, .ref 104, .int 0, .int 0]), cI 8 (fun _ => 0), cI 64 (fun _ => 0), cI 40 (fun _ => 0), .inr (2, [.ref 107, .ref 108, .ref 109, .ref 110, .int 0]), cI 64 (fun _ => 0), cI 8 (fun _ => 0), cI 8 (fun _ => 0), cI 9 (fun _ => 0), .inr (5, [.ref 112, .ref 113]), cI 8 (fun _ => 0), cI 40 (fun _ => 0), .inr (4, [.ref 115, .ref 116, .ref 117, .int 0]), cI 8 (fun _ => 0), cI 8 (fun _ => 0), cI 40 (fun _ => 0), .inr (6, [.ref 119, .ref 126, .ref 127, .int 0]), .inr (1, [.ref 120, .int 0, .int 0, .int 0, .int 0, .ref 121]), cI 40 (fun _ => 0), .inr (2, [.ref 122, .ref 123, .ref 124, .ref 125, .int 0]), cI 64 (fun _ => 0), cI 8 (fun _ => 0), cI 8 (fun _ => 0), cI 9 (fun _ => 0), cI 8 (fun _ => 0), cI 8 (fun _ => 0), .inl (4, 8, .inr (.inr (.inr (.inr (fun _ => none))))), .inr (1, [.ref 130, .int 0, .int 0, .int 0, .int 0, .ref 131]), cI 40 (fun _ => 0), .inr (2, [.ref 132, .ref 133, .ref 134, .ref 135, .int 0]), cI 64 (fun _ => 0), cI 8 (fun _ => 0), cI 8 (fun _ => 0), cI 9 (fun _ => 0)] ∧ v = none) := by
  refine Con.of (ab_okc rfl (by decide)) (Nat.le_of_ble_eq_true rfl) ?_
  show G ab_x0 mX7_init (d + 4) 35 631 _ 0 [some (.ref 100)] [] _
  refine G_aload_n dX7_init_0 rfl ?_
  refine G_obj dX7_init_1 oX7_1 rfl (Nat.le_of_ble_eq_true rfl) ?_
  refine G_aload_n dX7_init_4 rfl ?_
  refine G_new (w' := [.inr (8, [.null, .null, .null, .null, .null, .int 0, .null]), .inr (3, [.null, .null, .null])]) (t := 101) (k := 34) (n := 628) kc3 dX7_init_5 nX7_7 iC3 jC3 rfl (by simp [ab_scS, ab_sc, ab_scC]) rfl rfl ?_
  refine G_dup dX7_init_8 rfl ?_
  refine G_IN (j := 1) (is := [1]) (fo := []) (as := [.ref 100]) (as' := []) (st := [.ref 101, .ref 100]) (k := 25) (n := 418) cX7_init_9 (con_X2_init (d + 1)) ab_pfx rfl (by decide) rfl rfl rfl rfl (Nat.le_of_ble_eq_true rfl) dX7_init_9 (by decide) (by simp [ab_scS, ab_sc, ab_scC]) (fun w' v h => by rw [h.1]; exact Nat.le_of_ble_eq_true rfl) (fun w2 v2 hq => ?_)
  obtain ⟨rfl, rfl⟩ := hq
  refine G_w (st' := [.ref 101, .ref 100]) (w' := [.inr (8, [.null, .null, .null, .null, .null, .int 0, .null]), .inr (3, [.ref 102, .ref 105, .ref 106]), .inr (7, [.ref 103, .ref 104, .int 0, .int 0]), cI 8 (fun _ => 0), cI 64 (fun _ => 0), cI 40 (fun _ => 0), .inr (2, [.ref 107, .ref 108, .ref 109, .ref 110, .int 0]), cI 64 (fun _ => 0), cI 8 (fun _ => 0), cI 8 (fun _ => 0), cI 9 (fun _ => 0)]) rfl rfl ?_
  refine G_putF (w' := [_, _, _, _, _, _, _, _, _, _, _]) (f := 0) kc8 dX7_init_12 fX7_10 (by decide) rfl rfl rfl rfl rfl rfl (Nat.le_of_ble_eq_true rfl) rfl ?_
  refine G_aload_n dX7_init_15 rfl ?_
  refine G_new (w' := [.inr (8, [.ref 101, .null, .null, .null, .null, .int 0, .null]), .inr (3, [.ref 102, .ref 105, .ref 106]), .inr (7, [.ref 103, .ref 104, .int 0, .int 0]), cI 8 (fun _ => 0), cI 64 (fun _ => 0), cI 40 (fun _ => 0), .inr (2, [.ref 107, .ref 108, .ref 109, .ref 110, .int 0]), cI 64 (fun _ => 0), cI 8 (fun _ => 0), cI 8 (fun _ => 0), cI 9 (fun _ => 0), .inr (5, [.null, .null])]) (t := 111) (k := 24) (n := 416) kc5 dX7_init_16 nX7_16 iC5 jC5 rfl (by simp [ab_scS, ab_sc, ab_scC]) rfl rfl ?_
  refine G_dup dX7_init_19 rfl ?_
  refine G_IN (j := 11) (is := [11]) (fo := []) (as := [.ref 100]) (as' := []) (st := [.ref 111, .ref 100]) (k := 22) (n := 368) cX7_init_20 (con_X4_init (d + 2)) ab_pfx rfl (by decide) rfl rfl rfl rfl (Nat.le_of_ble_eq_true rfl) dX7_init_20 (by decide) (by simp [ab_scS, ab_sc, ab_scC]) (fun w' v h => by rw [h.1]; exact Nat.le_of_ble_eq_true rfl) (fun w2 v2 hq => ?_)
  obtain ⟨rfl, rfl⟩ := hq
  refine G_w (st' := [.ref 111, .ref 100]) (w' := [.inr (8, [.ref 101, .null, .null, .null, .null, .int 0, .null]), .inr (3, [.ref 102, .ref 105, .ref 106]), .inr (7, [.ref 103, .ref 104, .int 0, .int 0]), cI 8 (fun _ => 0), cI 64 (fun _ => 0), cI 40 (fun _ => 0), .inr (2, [.ref 107, .ref 108, .ref 109, .ref 110, .int 0]), cI 64 (fun _ => 0), cI 8 (fun _ => 0), cI 8 (fun _ => 0), cI 9 (fun _ => 0), .inr (5, [.ref 112, .ref 113]), cI 8 (fun _ => 0), cI 40 (fun _ => 0)]) rfl rfl ?_
  refine G_putF (w' := [_, _, _, _, _, _, _, _, _, _, _, _, _, _]) (f := 1) kc8 dX7_init_23 fX7_19 (by decide) rfl rfl rfl rfl rfl rfl (Nat.le_of_ble_eq_true rfl) rfl ?_
  refine G_aload_n dX7_init_26 rfl ?_
  refine G_new (w' := [.inr (8, [.ref 101, .ref 111, .null, .null, .null, .int 0, .null]), .inr (3, [.ref 102, .ref 105, .ref 106]), .inr (7, [.ref 103, .ref 104, .int 0, .int 0]), cI 8 (fun _ => 0), cI 64 (fun _ => 0), cI 40 (fun _ => 0), .inr (2, [.ref 107, .ref 108, .ref 109, .ref 110, .int 0]), cI 64 (fun _ => 0), cI 8 (fun _ => 0), cI 8 (fun _ => 0), cI 9 (fun _ => 0), .inr (5, [.ref 112, .ref 113]), cI 8 (fun _ => 0), cI 40 (fun _ => 0), .inr (4, [.null, .null, .null, .int 0])]) (t := 114) (k := 21) (n := 364) kc4 dX7_init_27 nX7_23 iC4 jC4 rfl (by simp [ab_scS, ab_sc, ab_scC]) rfl rfl ?_
  refine G_dup dX7_init_30 rfl ?_
  refine G_IN (j := 14) (is := [14]) (fo := []) (as := [.ref 100]) (as' := []) (st := [.ref 114, .ref 100]) (k := 18) (n := 308) cX7_init_31 (con_X3_init (d + 2)) ab_pfx rfl (by decide) rfl rfl rfl rfl (Nat.le_of_ble_eq_true rfl) dX7_init_31 (by decide) (by simp [ab_scS, ab_sc, ab_scC]) (fun w' v h => by rw [h.1]; exact Nat.le_of_ble_eq_true rfl) (fun w2 v2 hq => ?_)
  obtain ⟨rfl, rfl⟩ := hq
  refine G_w (st' := [.ref 114, .ref 100]) (w' := [.inr (8, [.ref 101, .ref 111, .null, .null, .null, .int 0, .null]), .inr (3, [.ref 102, .ref 105, .ref 106]), .inr (7, [.ref 103, .ref 104, .int 0, .int 0]), cI 8 (fun _ => 0), cI 64 (fun _ => 0), cI 40 (fun _ => 0), .inr (2, [.ref 107, .ref 108, .ref 109, .ref 110, .int 0]), cI 64 (fun _ => 0), cI 8 (fun _ => 0), cI 8 (fun _ => 0), cI 9 (fun _ => 0), .inr (5, [.ref 112, .ref 113]), cI 8 (fun _ => 0), cI 40 (fun _ => 0), .inr (4, [.ref 115, .ref 116, .ref 117, .int 0]), cI 8 (fun _ => 0), cI 8 (fun _ => 0), cI 40 (fun _ => 0)]) rfl rfl ?_
  refine G_putF (w' := [_, _, _, _, _, _, _, _, _, _, _, _, _, _, _, _, _, _]) (f := 2) kc8 dX7_init_34 fX7_26 (by decide) rfl rfl rfl rfl rfl rfl (Nat.le_of_ble_eq_true rfl) rfl ?_
  refine G_aload_n dX7_init_37 rfl ?_
  refine G_new (w' := [.inr (8, [.ref 101, .ref 111, .ref 114, .null, .null, .int 0, .null]), .inr (3, [.ref 102, .ref 105, .ref 106]), .inr (7, [.ref 103, .ref 104, .int 0, .int 0]), cI 8 (fun _ => 0), cI 64 (fun _ => 0), cI 40 (fun _ => 0), .inr (2, [.ref 107, .ref 108, .ref 109, .ref 110, .int 0]), cI 64 (fun _ => 0), cI 8 (fun _ => 0), cI 8 (fun _ => 0), cI 9 (fun _ => 0), .inr (5, [.ref 112, .ref 113]), cI 8 (fun _ => 0), cI 40 (fun _ => 0), .inr (4, [.ref 115, .ref 116, .ref 117, .int 0]), cI 8 (fun _ => 0), cI 8 (fun _ => 0), cI 40 (fun _ => 0), .inr (6, [.null, .null, .null, .int 0])]) (t := 118) (k := 17) (n := 304) kc6 dX7_init_38 nX7_30 iC6 jC6 rfl (by simp [ab_scS, ab_sc, ab_scC]) rfl rfl ?_
  refine G_dup dX7_init_41 rfl ?_
  refine G_IN (j := 18) (is := [18]) (fo := []) (as := [.ref 100]) (as' := []) (st := [.ref 118, .ref 100]) (k := 8) (n := 148) cX7_init_42 (con_X5_init (d + 0)) ab_pfx rfl (by decide) rfl rfl rfl rfl (Nat.le_of_ble_eq_true rfl) dX7_init_42 (by decide) (by simp [ab_scS, ab_sc, ab_scC]) (fun w' v h => by rw [h.1]; exact Nat.le_of_ble_eq_true rfl) (fun w2 v2 hq => ?_)
  obtain ⟨rfl, rfl⟩ := hq
  refine G_w (st' := [.ref 118, .ref 100]) (w' := [.inr (8, [.ref 101, .ref 111, .ref 114, .null, .null, .int 0, .null]), .inr (3, [.ref 102, .ref 105, .ref 106]), .inr (7, [.ref 103, .ref 104, .int 0, .int 0]), cI 8 (fun _ => 0), cI 64 (fun _ => 0), cI 40 (fun _ => 0), .inr (2, [.ref 107, .ref 108, .ref 109, .ref 110, .int 0]), cI 64 (fun _ => 0), cI 8 (fun _ => 0), cI 8 (fun _ => 0), cI 9 (fun _ => 0), .inr (5, [.ref 112, .ref 113]), cI 8 (fun _ => 0), cI 40 (fun _ => 0), .inr (4, [.ref 115, .ref 116, .ref 117, .int 0]), cI 8 (fun _ => 0), cI 8 (fun _ => 0), cI 40 (fun _ => 0), .inr (6, [.ref 119, .ref 126, .ref 127, .int 0]), .inr (1, [.ref 120, .int 0, .int 0, .int 0, .int 0, .ref 121]), cI 40 (fun _ => 0), .inr (2, [.ref 122, .ref 123, .ref 124, .ref 125, .int 0]), cI 64 (fun _ => 0), cI 8 (fun _ => 0), cI 8 (fun _ => 0), cI 9 (fun _ => 0), cI 8 (fun _ => 0), cI 8 (fun _ => 0)]) rfl rfl ?_
  refine G_putF (w' := [_, _, _, _, _, _, _, _, _, _, _, _, _, _, _, _, _, _, _, _, _, _, _, _, _, _, _, _]) (f := 3) kc8 dX7_init_45 fX7_33 (by decide) rfl rfl rfl rfl rfl rfl (Nat.le_of_ble_eq_true rfl) rfl ?_
  refine G_aload_n dX7_init_48 rfl ?_
  refine G_bipush (v := 8) dX7_init_49 (by decide) ?_
  refine G_newq (w' := [.inr (8, [.ref 101, .ref 111, .ref 114, .ref 118, .null, .int 0, .null]), .inr (3, [.ref 102, .ref 105, .ref 106]), .inr (7, [.ref 103, .ref 104, .int 0, .int 0]), cI 8 (fun _ => 0), cI 64 (fun _ => 0), cI 40 (fun _ => 0), .inr (2, [.ref 107, .ref 108, .ref 109, .ref 110, .int 0]), cI 64 (fun _ => 0), cI 8 (fun _ => 0), cI 8 (fun _ => 0), cI 9 (fun _ => 0), .inr (5, [.ref 112, .ref 113]), cI 8 (fun _ => 0), cI 40 (fun _ => 0), .inr (4, [.ref 115, .ref 116, .ref 117, .int 0]), cI 8 (fun _ => 0), cI 8 (fun _ => 0), cI 40 (fun _ => 0), .inr (6, [.ref 119, .ref 126, .ref 127, .int 0]), .inr (1, [.ref 120, .int 0, .int 0, .int 0, .int 0, .ref 121]), cI 40 (fun _ => 0), .inr (2, [.ref 122, .ref 123, .ref 124, .ref 125, .int 0]), cI 64 (fun _ => 0), cI 8 (fun _ => 0), cI 8 (fun _ => 0), cI 9 (fun _ => 0), cI 8 (fun _ => 0), cI 8 (fun _ => 0), .inl (4, 8, .inr (.inr (.inr (.inr (fun _ => none)))))]) (t := 128) (N := 8) (k := 7) (n := 140) dX7_init_51 nX7_37 (by decide) (by decide) (by decide) (by simp [ab_scS, ab_sc, ab_scC]) rfl rfl ?_
  refine G_putF (w' := [_, _, _, _, _, _, _, _, _, _, _, _, _, _, _, _, _, _, _, _, _, _, _, _, _, _, _, _, _]) (f := 4) kc8 dX7_init_54 fX7_39 (by decide) rfl rfl rfl rfl rfl rfl (Nat.le_of_ble_eq_true rfl) rfl ?_
  refine G_aload_n dX7_init_57 rfl ?_
  refine G_iconst (v := 0) dX7_init_58 (by decide) ?_
  refine G_put (w' := [_, _, _, _, _, _, _, _, _, _, _, _, _, _, _, _, _, _, _, _, _, _, _, _, _, _, _, _, _]) (f := 5) kc8 dX7_init_59 fX7_43 (by decide) rfl rfl rfl rfl (Nat.le_of_ble_eq_true rfl) rfl ?_
  refine G_aload_n dX7_init_62 rfl ?_
  refine G_new (w' := [.inr (8, [.ref 101, .ref 111, .ref 114, .ref 118, .ref 128, .int 0, .null]), .inr (3, [.ref 102, .ref 105, .ref 106]), .inr (7, [.ref 103, .ref 104, .int 0, .int 0]), cI 8 (fun _ => 0), cI 64 (fun _ => 0), cI 40 (fun _ => 0), .inr (2, [.ref 107, .ref 108, .ref 109, .ref 110, .int 0]), cI 64 (fun _ => 0), cI 8 (fun _ => 0), cI 8 (fun _ => 0), cI 9 (fun _ => 0), .inr (5, [.ref 112, .ref 113]), cI 8 (fun _ => 0), cI 40 (fun _ => 0), .inr (4, [.ref 115, .ref 116, .ref 117, .int 0]), cI 8 (fun _ => 0), cI 8 (fun _ => 0), cI 40 (fun _ => 0), .inr (6, [.ref 119, .ref 126, .ref 127, .int 0]), .inr (1, [.ref 120, .int 0, .int 0, .int 0, .int 0, .ref 121]), cI 40 (fun _ => 0), .inr (2, [.ref 122, .ref 123, .ref 124, .ref 125, .int 0]), cI 64 (fun _ => 0), cI 8 (fun _ => 0), cI 8 (fun _ => 0), cI 9 (fun _ => 0), cI 8 (fun _ => 0), cI 8 (fun _ => 0), .inl (4, 8, .inr (.inr (.inr (.inr (fun _ => none))))), .inr (1, [.null, .int 0, .int 0, .int 0, .int 0, .null])]) (t := 129) (k := 6) (n := 134) kc1 dX7_init_63 nX7_37 iC1 jC1 rfl (by simp [ab_scS, ab_sc, ab_scC]) rfl rfl ?_
  refine G_dup dX7_init_66 rfl ?_
  refine G_IN (j := 29) (is := [29]) (fo := []) (as := [.ref 100]) (as' := []) (st := [.ref 129, .ref 100]) (k := 0) (n := 0) cX7_init_67 (con_X0_init (d + 1)) ab_pfx rfl (by decide) rfl rfl rfl rfl (Nat.le_of_ble_eq_true rfl) dX7_init_67 (by decide) (by simp [ab_scS, ab_sc, ab_scC]) (fun w' v h => by rw [h.1]; exact Nat.le_of_ble_eq_true rfl) (fun w2 v2 hq => ?_)
  obtain ⟨rfl, rfl⟩ := hq
  refine G_w (st' := [.ref 129, .ref 100]) (w' := [.inr (8, [.ref 101, .ref 111, .ref 114, .ref 118, .ref 128, .int 0, .null]), .inr (3, [.ref 102, .ref 105, .ref 106]), .inr (7, [.ref 103, .ref 104, .int 0, .int 0]), cI 8 (fun _ => 0), cI 64 (fun _ => 0), cI 40 (fun _ => 0), .inr (2, [.ref 107, .ref 108, .ref 109, .ref 110, .int 0]), cI 64 (fun _ => 0), cI 8 (fun _ => 0), cI 8 (fun _ => 0), cI 9 (fun _ => 0), .inr (5, [.ref 112, .ref 113]), cI 8 (fun _ => 0), cI 40 (fun _ => 0), .inr (4, [.ref 115, .ref 116, .ref 117, .int 0]), cI 8 (fun _ => 0), cI 8 (fun _ => 0), cI 40 (fun _ => 0), .inr (6, [.ref 119, .ref 126, .ref 127, .int 0]), .inr (1, [.ref 120, .int 0, .int 0, .int 0, .int 0, .ref 121]), cI 40 (fun _ => 0), .inr (2, [.ref 122, .ref 123, .ref 124, .ref 125, .int 0]), cI 64 (fun _ => 0), cI 8 (fun _ => 0), cI 8 (fun _ => 0), cI 9 (fun _ => 0), cI 8 (fun _ => 0), cI 8 (fun _ => 0), .inl (4, 8, .inr (.inr (.inr (.inr (fun _ => none))))), .inr (1, [.ref 130, .int 0, .int 0, .int 0, .int 0, .ref 131]), cI 40 (fun _ => 0), .inr (2, [.ref 132, .ref 133, .ref 134, .ref 135, .int 0]), cI 64 (fun _ => 0), cI 8 (fun _ => 0), cI 8 (fun _ => 0), cI 9 (fun _ => 0)]) rfl rfl ?_
  refine G_put (w' := [_, _, _, _, _, _, _, _, _, _, _, _, _, _, _, _, _, _, _, _, _, _, _, _, _, _, _, _, _, _, _, _, _, _, _, _]) (f := 6) kc8 dX7_init_70 fX7_48 (by decide) rfl rfl rfl rfl (Nat.le_of_ble_eq_true rfl) rfl ?_
  exact G_ret (v := none) ⟨dX7_init_73, rfl⟩ ⟨rfl, rfl⟩
