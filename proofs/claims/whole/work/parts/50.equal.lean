/-! CanonNames.equal -/
set_option maxRecDepth 20000 in
set_option maxHeartbeats 1000000 in
theorem con_equal (d kc nb nt nb' nt' : Nat) (hkc : kc ≤ 8) (hnb : nb ≤ 8) (hnt : nt ≤ 40) (hnb' : nb' ≤ 8) (hnt' : nt' ≤ 40) (a0 a1 a2 a3 a4 t1 t2 : Nat) (T : Nat → Nat) (x hs ro hs' ro' : Int32) (K K' : Nat → Int32) (hx : 0 ≤ x.toInt ∧ x.toInt < kc) (hT : T x.toInt.toNat = 104) : Con mX7_equal (d + 1) 0 0 [c7 a0 a1 a2 a3 a4 101 (nI kc) 102, .inl (4, 8, .inr (.inr (.inr (.inr (kf T kc))))), cG 103 nb nt hs ro (.ref t1), cI 40 K, cG 105 nb' nt' hs' ro' (.ref t2), cI 40 K'] [.ref 100, .int x] (fun w' v => w' = [c7 a0 a1 a2 a3 a4 101 (nI kc) 102, .inl (4, 8, .inr (.inr (.inr (.inr (kf T kc))))), cG 103 nb nt hs ro (.ref t1), cI 40 K, cG 105 nb' nt' hs' ro' (.ref t2), cI 40 K'] ∧ (((nb = nb' ∧ nt = nt' ∧ ∀ i, i < nt → K i = K' i) ∧ v = some (.int 1)) ∨ ((¬ (nb = nb' ∧ nt = nt' ∧ ∀ i, i < nt → K i = K' i)) ∧ v = some (.int 0)))) := by
  refine Con.of (ab_okc rfl (by decide)) (Nat.le_of_ble_eq_true rfl) ?_
  show G ab_x0 mX7_equal (d + 1) 0 0 _ 0 [some (.ref 100), some (.int x), none] [] _
  have hfit : ab_fits [0, 1] [a0, a1, a2, a3, a4, 102, T 0, T 1, T 2, T 3, T 4, T 5, T 6, T 7] [c7 4 5 6 7 8 101 (nI kc) 9, .inl (4, 8, .inr (.inr (.inr (.inr (kf (fun j => 10 + j) kc)))))] [c7 a0 a1 a2 a3 a4 101 (nI kc) 102, .inl (4, 8, .inr (.inr (.inr (.inr (kf T kc))))), cG 103 nb nt hs ro (.ref t1), cI 40 K, cG 105 nb' nt' hs' ro' (.ref t2), cI 40 K'] := by
    have e := kf_map (T := T) (kc := kc) (r := ab_rho [0, 1] [a0, a1, a2, a3, a4, 102, T 0, T 1, T 2, T 3, T 4, T 5, T 6, T 7] 6) (S := fun j => 10 + j) (fun j hj => kf_rho a0 a1 a2 a3 a4 102 T [0, 1] 6 j (by omega))
    show [some _, some (.inl (4, 8, .inr (.inr (.inr (.inr (fun j => (kf (fun j => 10 + j) kc j).map (ab_rho [0, 1] [a0, a1, a2, a3, a4, 102, T 0, T 1, T 2, T 3, T 4, T 5, T 6, T 7] 6)))))) : ab_C)] = _
    rw [e]
    rfl
  refine G_aload_n dX7_equal_0 rfl ?_
  refine G_iload_n dX7_equal_1 rfl ?_
  refine G_V (is := [0, 1]) (fo := [a0, a1, a2, a3, a4, 102, T 0, T 1, T 2, T 3, T 4, T 5, T 6, T 7]) (as := [.ref 100, .int x]) (as' := [.int x]) (st := []) (k := 0) (n := 0) cX7_equal_2 (con_keptAt d kc hkc 4 5 6 7 8 9 (kf (fun j => 10 + j) kc) x) ab_pfx hfit (by decide) rfl rfl rfl rfl rfl rfl (Nat.le_of_ble_eq_true rfl) dX7_equal_2 (fun w' v h => by rw [h.1]) (fun w2 v2 hq => ?_)
  obtain ⟨rfl, hq⟩ := hq
  rw [hfit.same]
  rcases hq with ⟨h1, _⟩ | ⟨h1, h2, rfl⟩
  · exact absurd hx h1
  refine G_w (st' := [.ref 104]) (w' := [c7 a0 a1 a2 a3 a4 101 (nI kc) 102, .inl (4, 8, .inr (.inr (.inr (.inr (kf T kc))))), cG 103 nb nt hs ro (.ref t1), cI 40 K, cG 105 nb' nt' hs' ro' (.ref t2), cI 40 K']) ?_ rfl ?_
  · have e : kf (fun j => 10 + j) kc x.toInt.toNat = some (10 + x.toInt.toNat) := by unfold kf; rw [if_pos (by omega)]
    rw [e]
    show [Value.ref (ab_rho [0, 1] [a0, a1, a2, a3, a4, 102, T 0, T 1, T 2, T 3, T 4, T 5, T 6, T 7] 6 (10 + x.toInt.toNat))] = _
    rw [kf_rho a0 a1 a2 a3 a4 102 T [0, 1] 6 _ (by omega), hT]
  refine G_astore_n (L' := [_, _, _]) dX7_equal_5 (Nat.le_of_ble_eq_true rfl) rfl ?_
  refine G_aload_n dX7_equal_6 rfl ?_
  refine G_ifnn (tgt := 12) dX7_equal_7 (by decide) ?_
  have no : ¬ (nb = nb' ∧ nt = nt' ∧ ∀ i, i < nt → K i = K' i) → G ab_x0 mX7_equal (d + 1) 0 0 (fun w' v => w' = [c7 a0 a1 a2 a3 a4 101 (nI kc) 102, .inl (4, 8, .inr (.inr (.inr (.inr (kf T kc))))), cG 103 nb nt hs ro (.ref t1), cI 40 K, cG 105 nb' nt' hs' ro' (.ref t2), cI 40 K'] ∧ (((nb = nb' ∧ nt = nt' ∧ ∀ i, i < nt → K i = K' i) ∧ v = some (.int 1)) ∨ ((¬ (nb = nb' ∧ nt = nt' ∧ ∀ i, i < nt → K i = K' i)) ∧ v = some (.int 0)))) 51 [some (.ref 100), some (.int x), some (.ref 104)] [] [c7 a0 a1 a2 a3 a4 101 (nI kc) 102, .inl (4, 8, .inr (.inr (.inr (.inr (kf T kc))))), cG 103 nb nt hs ro (.ref t1), cI 40 K, cG 105 nb' nt' hs' ro' (.ref t2), cI 40 K'] := by
    intro h
    refine G_iconst (v := 0) dX7_equal_51 (by decide) ?_
    exact G_ret (v := some (.int _)) ⟨dX7_equal_52, _, rfl, rfl⟩ ⟨rfl, Or.inr ⟨h, rfl⟩⟩
  refine G_aload_n dX7_equal_12 rfl ?_
  refine G_get (f := 6) kc8 dX7_equal_13 fX7_48 (by decide) rfl rfl ?_
  refine G_aload_n dX7_equal_16 rfl ?_
  refine G_V (is := [2, 4]) (fo := [103, t1, 105, t2]) (as := [.ref 100, .ref 101]) (as' := [.ref 104]) (st := []) (k := 0) (n := 0) cX7_equal_17 (con_hasSizesOf d nb nt nb' nt' hnb hnt hnb' hnt' (.ref 4) (.int hs) (.int ro) (.ref 5) (.ref 6) (.int hs') (.int ro') (.ref 7)) ab_pfx rfl (by decide) rfl rfl rfl rfl rfl rfl (Nat.le_of_ble_eq_true rfl) dX7_equal_17 (fun w' v h => by rw [h.1]) (fun w2 v2 hq => ?_)
  obtain ⟨rfl, rfl⟩ := hq
  refine G_w (st' := [.int (bi (decide (nb = nb' ∧ nt = nt')))]) (w' := [c7 a0 a1 a2 a3 a4 101 (nI kc) 102, .inl (4, 8, .inr (.inr (.inr (.inr (kf T kc))))), cG 103 nb nt hs ro (.ref t1), cI 40 K, cG 105 nb' nt' hs' ro' (.ref t2), cI 40 K']) rfl rfl ?_
  refine G_if_eq (tgt := 51) dX7_equal_20 (by decide) (fun h => no (fun q => by rw [decide_eq_true ⟨q.1, q.2.1⟩] at h; exact absurd h (by decide))) (fun h => ?_)
  have hsz : nb = nb' ∧ nt = nt' := of_decide_eq_true (bi_eq1.mp h)
  refine G_aload_n dX7_equal_23 rfl ?_
  refine G_get (f := 6) kc8 dX7_equal_24 fX7_48 (by decide) rfl rfl ?_
  refine G_get (f := 0) kc1 dX7_equal_27 fX7_121 (by decide) rfl rfl ?_
  refine G_aload_n dX7_equal_30 rfl ?_
  refine G_get (f := 0) kc1 dX7_equal_31 fX7_121 (by decide) rfl rfl ?_
  refine G_aload_n dX7_equal_34 rfl ?_
  refine G_get (f := 6) kc8 dX7_equal_35 fX7_48 (by decide) rfl rfl ?_
  refine G_get (f := 2) kc1 dX7_equal_38 fX7_71 (by decide) rfl rfl ?_
  refine G_S (is := [3, 5]) (fo := []) (as := [.ref 100, .ref 101, .int (nI nt)]) (as' := [.ref 103, .ref 105, .int (nI nt)]) (st := []) (k := 0) (n := 0) cX7_equal_41 (con_sameRows d K K' 40 40 nt hnt hnt (by decide) (by decide)) ab_pfx rfl (by decide) rfl rfl rfl rfl (Nat.le_of_ble_eq_true rfl) dX7_equal_41 (fun w' v h => by rw [h.1]) (fun w2 v2 hq => ?_)
  obtain ⟨rfl, hq⟩ := hq
  rcases hq with ⟨hy, rfl⟩ | ⟨hn, rfl⟩
  · refine G_w (st' := [.int 1]) (w' := [c7 a0 a1 a2 a3 a4 101 (nI kc) 102, .inl (4, 8, .inr (.inr (.inr (.inr (kf T kc))))), cG 103 nb nt hs ro (.ref t1), cI 40 K, cG 105 nb' nt' hs' ro' (.ref t2), cI 40 K']) rfl rfl ?_
    refine G_if_eq (tgt := 51) dX7_equal_44 (by decide) (fun h => absurd h (by decide)) (fun _ => ?_)
    refine G_iconst (v := 1) dX7_equal_47 (by decide) ?_
    refine G_goto (tgt := 52) dX7_equal_48 (by decide) ?_
    exact G_ret (v := some (.int _)) ⟨dX7_equal_52, _, rfl, rfl⟩ ⟨rfl, Or.inl ⟨⟨hsz.1, hsz.2, hy⟩, rfl⟩⟩
  · refine G_w (st' := [.int 0]) (w' := [c7 a0 a1 a2 a3 a4 101 (nI kc) 102, .inl (4, 8, .inr (.inr (.inr (.inr (kf T kc))))), cG 103 nb nt hs ro (.ref t1), cI 40 K, cG 105 nb' nt' hs' ro' (.ref t2), cI 40 K']) rfl rfl ?_
    refine G_if_eq (tgt := 51) dX7_equal_44 (by decide) (fun _ => ?_) (fun h => absurd rfl h)
    exact no (fun q => hn q.2.2)
