/-! isomorphic, ways, equal where there is no such kept graph -/
theorem kf_rho (a0 a1 a2 a3 a4 ag : Nat) (T : Nat → Nat) (is : List Nat) (n : Nat) : ∀ j, j < 8 → ab_rho is [a0, a1, a2, a3, a4, ag, T 0, T 1, T 2, T 3, T 4, T 5, T 6, T 7] n (10 + j) = T j
  | 0, _ => rfl
  | 1, _ => rfl
  | 2, _ => rfl
  | 3, _ => rfl
  | 4, _ => rfl
  | 5, _ => rfl
  | 6, _ => rfl
  | 7, _ => rfl
  | j + 8, h => by omega
set_option maxRecDepth 20000 in
theorem con_isomorphic_bad (d kc : Nat) (hkc : kc ≤ 8) (a0 a1 a2 a3 a4 ag : Nat) (T : Nat → Nat) (x : Int32) (hx : ¬ (0 ≤ x.toInt ∧ x.toInt < kc)) : Con mX7_isomorphic (d + 1) 0 0 [c7 a0 a1 a2 a3 a4 101 (nI kc) ag, .inl (4, 8, .inr (.inr (.inr (.inr (kf T kc)))))] [.ref 100, .int x] (fun w' v => w' = [c7 a0 a1 a2 a3 a4 101 (nI kc) ag, .inl (4, 8, .inr (.inr (.inr (.inr (kf T kc)))))] ∧ v = some (.int (-1))) := by
  refine Con.of (ab_okc rfl (by decide)) (Nat.le_of_ble_eq_true rfl) ?_
  show G ab_x0 mX7_isomorphic (d + 1) 0 0 _ 0 [some (.ref 100), some (.int x), none] [] _
  have hfit : ab_fits [0, 1] [a0, a1, a2, a3, a4, ag, T 0, T 1, T 2, T 3, T 4, T 5, T 6, T 7] [c7 4 5 6 7 8 101 (nI kc) 9, .inl (4, 8, .inr (.inr (.inr (.inr (kf (fun j => 10 + j) kc)))))] [c7 a0 a1 a2 a3 a4 101 (nI kc) ag, .inl (4, 8, .inr (.inr (.inr (.inr (kf T kc)))))] := by
    have e := kf_map (T := T) (kc := kc) (r := ab_rho [0, 1] [a0, a1, a2, a3, a4, ag, T 0, T 1, T 2, T 3, T 4, T 5, T 6, T 7] 2) (S := fun j => 10 + j) (fun j hj => kf_rho a0 a1 a2 a3 a4 ag T [0, 1] 2 j (by omega))
    show [some _, some ((.inl (4, 8, .inr (.inr (.inr (.inr (fun j => (kf (fun j => 10 + j) kc j).map (ab_rho [0, 1] [a0, a1, a2, a3, a4, ag, T 0, T 1, T 2, T 3, T 4, T 5, T 6, T 7] 2)))))) : ab_C))] = _
    rw [e]
    rfl
  refine G_aload_n dX7_isomorphic_0 rfl ?_
  refine G_iload_n dX7_isomorphic_1 rfl ?_
  refine G_V (is := [0, 1]) (fo := [a0, a1, a2, a3, a4, ag, T 0, T 1, T 2, T 3, T 4, T 5, T 6, T 7]) (as := [.ref 100, .int x]) (as' := [.int x]) (st := []) (k := 0) (n := 0) cX7_isomorphic_2 (con_keptAt d kc hkc 4 5 6 7 8 9 (kf (fun j => 10 + j) kc) x) ab_pfx hfit (by decide) rfl rfl rfl rfl rfl rfl (Nat.le_of_ble_eq_true rfl) dX7_isomorphic_2 (fun w' v h => by rw [h.1]) (fun w2 v2 hq => ?_)
  obtain ⟨rfl, hq⟩ := hq
  rw [hfit.same]
  rcases hq with ⟨_, rfl⟩ | ⟨h1, h2, _⟩
  rotate_left
  · exact absurd ⟨h1, h2⟩ hx
  refine G_w (st' := [.null]) (w' := [c7 a0 a1 a2 a3 a4 101 (nI kc) ag, .inl (4, 8, .inr (.inr (.inr (.inr (kf T kc)))))]) rfl rfl ?_
  refine G_astore_nN (L' := [_, _, _]) dX7_isomorphic_5 (Nat.le_of_ble_eq_true rfl) rfl ?_
  refine G_aload_nN dX7_isomorphic_6 rfl ?_
  refine G_ifnnN dX7_isomorphic_7 ?_
  refine G_iconst (v := -1) dX7_isomorphic_10 (by decide) ?_
  exact G_ret (v := some (.int _)) ⟨dX7_isomorphic_11, _, rfl, rfl⟩ ⟨rfl, rfl⟩
set_option maxRecDepth 20000 in
theorem con_ways_bad (d kc : Nat) (hkc : kc ≤ 8) (a0 a1 a2 a3 a4 ag : Nat) (T : Nat → Nat) (x : Int32) (hx : ¬ (0 ≤ x.toInt ∧ x.toInt < kc)) : Con mX7_ways (d + 1) 0 0 [c7 a0 a1 a2 a3 a4 101 (nI kc) ag, .inl (4, 8, .inr (.inr (.inr (.inr (kf T kc)))))] [.ref 100, .int x] (fun w' v => w' = [c7 a0 a1 a2 a3 a4 101 (nI kc) ag, .inl (4, 8, .inr (.inr (.inr (.inr (kf T kc)))))] ∧ v = some (.int (-1))) := by
  refine Con.of (ab_okc rfl (by decide)) (Nat.le_of_ble_eq_true rfl) ?_
  show G ab_x0 mX7_ways (d + 1) 0 0 _ 0 [some (.ref 100), some (.int x), none] [] _
  have hfit : ab_fits [0, 1] [a0, a1, a2, a3, a4, ag, T 0, T 1, T 2, T 3, T 4, T 5, T 6, T 7] [c7 4 5 6 7 8 101 (nI kc) 9, .inl (4, 8, .inr (.inr (.inr (.inr (kf (fun j => 10 + j) kc)))))] [c7 a0 a1 a2 a3 a4 101 (nI kc) ag, .inl (4, 8, .inr (.inr (.inr (.inr (kf T kc)))))] := by
    have e := kf_map (T := T) (kc := kc) (r := ab_rho [0, 1] [a0, a1, a2, a3, a4, ag, T 0, T 1, T 2, T 3, T 4, T 5, T 6, T 7] 2) (S := fun j => 10 + j) (fun j hj => kf_rho a0 a1 a2 a3 a4 ag T [0, 1] 2 j (by omega))
    show [some _, some ((.inl (4, 8, .inr (.inr (.inr (.inr (fun j => (kf (fun j => 10 + j) kc j).map (ab_rho [0, 1] [a0, a1, a2, a3, a4, ag, T 0, T 1, T 2, T 3, T 4, T 5, T 6, T 7] 2)))))) : ab_C))] = _
    rw [e]
    rfl
  refine G_aload_n dX7_ways_0 rfl ?_
  refine G_iload_n dX7_ways_1 rfl ?_
  refine G_V (is := [0, 1]) (fo := [a0, a1, a2, a3, a4, ag, T 0, T 1, T 2, T 3, T 4, T 5, T 6, T 7]) (as := [.ref 100, .int x]) (as' := [.int x]) (st := []) (k := 0) (n := 0) cX7_ways_2 (con_keptAt d kc hkc 4 5 6 7 8 9 (kf (fun j => 10 + j) kc) x) ab_pfx hfit (by decide) rfl rfl rfl rfl rfl rfl (Nat.le_of_ble_eq_true rfl) dX7_ways_2 (fun w' v h => by rw [h.1]) (fun w2 v2 hq => ?_)
  obtain ⟨rfl, hq⟩ := hq
  rw [hfit.same]
  rcases hq with ⟨_, rfl⟩ | ⟨h1, h2, _⟩
  rotate_left
  · exact absurd ⟨h1, h2⟩ hx
  refine G_w (st' := [.null]) (w' := [c7 a0 a1 a2 a3 a4 101 (nI kc) ag, .inl (4, 8, .inr (.inr (.inr (.inr (kf T kc)))))]) rfl rfl ?_
  refine G_astore_nN (L' := [_, _, _]) dX7_ways_5 (Nat.le_of_ble_eq_true rfl) rfl ?_
  refine G_aload_nN dX7_ways_6 rfl ?_
  refine G_ifnnN dX7_ways_7 ?_
  refine G_iconst (v := -1) dX7_ways_10 (by decide) ?_
  exact G_ret (v := some (.int _)) ⟨dX7_ways_11, _, rfl, rfl⟩ ⟨rfl, rfl⟩
set_option maxRecDepth 20000 in
theorem con_equal_bad (d kc : Nat) (hkc : kc ≤ 8) (a0 a1 a2 a3 a4 ag : Nat) (T : Nat → Nat) (x : Int32) (hx : ¬ (0 ≤ x.toInt ∧ x.toInt < kc)) : Con mX7_equal (d + 1) 0 0 [c7 a0 a1 a2 a3 a4 101 (nI kc) ag, .inl (4, 8, .inr (.inr (.inr (.inr (kf T kc)))))] [.ref 100, .int x] (fun w' v => w' = [c7 a0 a1 a2 a3 a4 101 (nI kc) ag, .inl (4, 8, .inr (.inr (.inr (.inr (kf T kc)))))] ∧ v = some (.int (-1))) := by
  refine Con.of (ab_okc rfl (by decide)) (Nat.le_of_ble_eq_true rfl) ?_
  show G ab_x0 mX7_equal (d + 1) 0 0 _ 0 [some (.ref 100), some (.int x), none] [] _
  have hfit : ab_fits [0, 1] [a0, a1, a2, a3, a4, ag, T 0, T 1, T 2, T 3, T 4, T 5, T 6, T 7] [c7 4 5 6 7 8 101 (nI kc) 9, .inl (4, 8, .inr (.inr (.inr (.inr (kf (fun j => 10 + j) kc)))))] [c7 a0 a1 a2 a3 a4 101 (nI kc) ag, .inl (4, 8, .inr (.inr (.inr (.inr (kf T kc)))))] := by
    have e := kf_map (T := T) (kc := kc) (r := ab_rho [0, 1] [a0, a1, a2, a3, a4, ag, T 0, T 1, T 2, T 3, T 4, T 5, T 6, T 7] 2) (S := fun j => 10 + j) (fun j hj => kf_rho a0 a1 a2 a3 a4 ag T [0, 1] 2 j (by omega))
    show [some _, some ((.inl (4, 8, .inr (.inr (.inr (.inr (fun j => (kf (fun j => 10 + j) kc j).map (ab_rho [0, 1] [a0, a1, a2, a3, a4, ag, T 0, T 1, T 2, T 3, T 4, T 5, T 6, T 7] 2)))))) : ab_C))] = _
    rw [e]
    rfl
  refine G_aload_n dX7_equal_0 rfl ?_
  refine G_iload_n dX7_equal_1 rfl ?_
  refine G_V (is := [0, 1]) (fo := [a0, a1, a2, a3, a4, ag, T 0, T 1, T 2, T 3, T 4, T 5, T 6, T 7]) (as := [.ref 100, .int x]) (as' := [.int x]) (st := []) (k := 0) (n := 0) cX7_equal_2 (con_keptAt d kc hkc 4 5 6 7 8 9 (kf (fun j => 10 + j) kc) x) ab_pfx hfit (by decide) rfl rfl rfl rfl rfl rfl (Nat.le_of_ble_eq_true rfl) dX7_equal_2 (fun w' v h => by rw [h.1]) (fun w2 v2 hq => ?_)
  obtain ⟨rfl, hq⟩ := hq
  rw [hfit.same]
  rcases hq with ⟨_, rfl⟩ | ⟨h1, h2, _⟩
  rotate_left
  · exact absurd ⟨h1, h2⟩ hx
  refine G_w (st' := [.null]) (w' := [c7 a0 a1 a2 a3 a4 101 (nI kc) ag, .inl (4, 8, .inr (.inr (.inr (.inr (kf T kc)))))]) rfl rfl ?_
  refine G_astore_nN (L' := [_, _, _]) dX7_equal_5 (Nat.le_of_ble_eq_true rfl) rfl ?_
  refine G_aload_nN dX7_equal_6 rfl ?_
  refine G_ifnnN dX7_equal_7 ?_
  refine G_iconst (v := -1) dX7_equal_10 (by decide) ?_
  exact G_ret (v := some (.int _)) ⟨dX7_equal_11, _, rfl, rfl⟩ ⟨rfl, rfl⟩
