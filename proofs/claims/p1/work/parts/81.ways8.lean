/-! The reference: ways, isomorphic, equal. -/
/-- every triple's image is one of the other graph's -/
def Bc (q : Nat → Nat) (nt : Nat) (q' : Nat → Nat) (nt' : Nat) (h : Nat → Nat) : Prop := ∀ i, i < nt → ∃ j, j < nt' ∧ q' j = rnK h (q i)
theorem Bc_loc {q q' : Nat → Nat} {nt nt' nb : Nat} (hq : keyN_ q nt nb) : Loc nb (Bc q nt q' nt') := fun h s e hB i hi => by
  obtain ⟨j, h1, h2⟩ := hB i hi
  exact ⟨j, h1, by rw [h2]; exact rnK_loc e (fun p hp => ((hq i hi).2 p hp).2)⟩
theorem pts_key {f : Nat → Int32} {base nt nb : Nat} {q : Nat → Nat} (h : pts f base q nt nb) : keyN_ q nt nb := fun i hi => key_pts h hi
set_option maxRecDepth 20000 in
set_option maxHeartbeats 1000000 in
theorem con8_ways_bad (d kc : Nat) (hkc : kc ≤ 8) (r : R8) (hk : r.ke = nI kc) (x : Int32) (hx : ¬ (0 ≤ x.toInt ∧ x.toInt < kc)) : Con mX8_ways (d + 1) 0 0 (w8 r) [.ref 100, .int x] (fun w' v => ∃ r', w' = w8 r' ∧ r' = ((((((r.bl, r.co), (r.po, r.ha)), ((r.nw, r.gr), r.go)), (((r.tr, r.rw), r.nm), ((r.fm, r.oc), r.ds))), ((((r.ms, r.wd), (r.sc, r.sd)), ((r.ke, r.ro), r.hs)), (((r.gc, r.nb), r.fc), ((r.de, r.si), 0)))) : R8) ∧ v = some (.int (-1))) := by
  refine Con.of (ab_okc rfl (by decide)) (Nat.le_of_ble_eq_true rfl) ?_
  show G ab_x0 mX8_ways (d + 1) 0 0 _ 0 [some (.ref 100), some (.int x), none, none, none] [] _
  refine G_aload_n dX8_ways_0 rfl ?_
  refine G_iconst (v := 0) dX8_ways_1 (by decide) ?_
  refine G_put (w' := w8 ((((((r.bl, r.co), (r.po, r.ha)), ((r.nw, r.gr), r.go)), (((r.tr, r.rw), r.nm), ((r.fm, r.oc), r.ds))), ((((r.ms, r.wd), (r.sc, r.sd)), ((r.ke, r.ro), r.hs)), (((r.gc, r.nb), r.fc), ((r.de, r.si), 0)))) : R8)) (f := 25) kc9 dX8_ways_2 fX8_1 (by decide) rfl rfl rfl rfl (Nat.le_of_ble_eq_true rfl) rfl ?_
  refine G_aload_n dX8_ways_5 rfl ?_
  refine G_iload_n dX8_ways_6 rfl ?_
  refine G_V8 (as := [.int x]) (st := []) cX8_ways_7 (con8_isKept d ((((((r.bl, r.co), (r.po, r.ha)), ((r.nw, r.gr), r.go)), (((r.tr, r.rw), r.nm), ((r.fm, r.oc), r.ds))), ((((r.ms, r.wd), (r.sc, r.sd)), ((r.ke, r.ro), r.hs)), (((r.gc, r.nb), r.fc), ((r.de, r.si), 0)))) : R8) x) rfl rfl rfl rfl rfl (Nat.le_of_ble_eq_true rfl) dX8_ways_7 (fun r2 v2 hq => ?_)
  obtain ⟨rfl, hq⟩ := hq
  have hke : (R8.ke ((((((r.bl, r.co), (r.po, r.ha)), ((r.nw, r.gr), r.go)), (((r.tr, r.rw), r.nm), ((r.fm, r.oc), r.ds))), ((((r.ms, r.wd), (r.sc, r.sd)), ((r.ke, r.ro), r.hs)), (((r.gc, r.nb), r.fc), ((r.de, r.si), 0)))) : R8)).toInt = kc := by show r.ke.toInt = kc; rw [hk]; exact nI_toInt (by omega)
  rw [hke] at hq
  rcases hq with ⟨h1, rfl⟩ | ⟨h1, rfl⟩
  · exact absurd h1 hx
  refine G_w (st' := [.int 0]) (w' := w8 ((((((r.bl, r.co), (r.po, r.ha)), ((r.nw, r.gr), r.go)), (((r.tr, r.rw), r.nm), ((r.fm, r.oc), r.ds))), ((((r.ms, r.wd), (r.sc, r.sd)), ((r.ke, r.ro), r.hs)), (((r.gc, r.nb), r.fc), ((r.de, r.si), 0)))) : R8)) rfl rfl ?_
  refine G_if_ne (tgt := 15) dX8_ways_10 (by decide) (fun h => absurd rfl h) (fun _ => ?_)
  refine G_iconst (v := -1) dX8_ways_13 (by decide) ?_
  exact G_ret (v := some (.int _)) ⟨dX8_ways_14, _, rfl, rfl⟩ ⟨_, rfl, rfl, rfl⟩
set_option maxRecDepth 20000 in
set_option maxHeartbeats 1000000 in
theorem con8_equal_bad (d kc : Nat) (hkc : kc ≤ 8) (r : R8) (hk : r.ke = nI kc) (x : Int32) (hx : ¬ (0 ≤ x.toInt ∧ x.toInt < kc)) : Con mX8_equal (d + 1) 0 0 (w8 r) [.ref 100, .int x] (fun w' v => ∃ r', w' = w8 r' ∧ r' = ((((((r.bl, r.co), (r.po, r.ha)), ((r.nw, r.gr), r.go)), (((r.tr, r.rw), r.nm), ((r.fm, r.oc), r.ds))), ((((r.ms, r.wd), (r.sc, r.sd)), ((r.ke, r.ro), r.hs)), (((r.gc, r.nb), r.fc), ((r.de, r.si), 0)))) : R8) ∧ v = some (.int (-1))) := by
  refine Con.of (ab_okc rfl (by decide)) (Nat.le_of_ble_eq_true rfl) ?_
  show G ab_x0 mX8_equal (d + 1) 0 0 _ 0 [some (.ref 100), some (.int x)] [] _
  refine G_aload_n dX8_equal_0 rfl ?_
  refine G_iconst (v := 0) dX8_equal_1 (by decide) ?_
  refine G_put (w' := w8 ((((((r.bl, r.co), (r.po, r.ha)), ((r.nw, r.gr), r.go)), (((r.tr, r.rw), r.nm), ((r.fm, r.oc), r.ds))), ((((r.ms, r.wd), (r.sc, r.sd)), ((r.ke, r.ro), r.hs)), (((r.gc, r.nb), r.fc), ((r.de, r.si), 0)))) : R8)) (f := 25) kc9 dX8_equal_2 fX8_1 (by decide) rfl rfl rfl rfl (Nat.le_of_ble_eq_true rfl) rfl ?_
  refine G_aload_n dX8_equal_5 rfl ?_
  refine G_iload_n dX8_equal_6 rfl ?_
  refine G_V8 (as := [.int x]) (st := []) cX8_equal_7 (con8_isKept d ((((((r.bl, r.co), (r.po, r.ha)), ((r.nw, r.gr), r.go)), (((r.tr, r.rw), r.nm), ((r.fm, r.oc), r.ds))), ((((r.ms, r.wd), (r.sc, r.sd)), ((r.ke, r.ro), r.hs)), (((r.gc, r.nb), r.fc), ((r.de, r.si), 0)))) : R8) x) rfl rfl rfl rfl rfl (Nat.le_of_ble_eq_true rfl) dX8_equal_7 (fun r2 v2 hq => ?_)
  obtain ⟨rfl, hq⟩ := hq
  have hke : (R8.ke ((((((r.bl, r.co), (r.po, r.ha)), ((r.nw, r.gr), r.go)), (((r.tr, r.rw), r.nm), ((r.fm, r.oc), r.ds))), ((((r.ms, r.wd), (r.sc, r.sd)), ((r.ke, r.ro), r.hs)), (((r.gc, r.nb), r.fc), ((r.de, r.si), 0)))) : R8)).toInt = kc := by show r.ke.toInt = kc; rw [hk]; exact nI_toInt (by omega)
  rw [hke] at hq
  rcases hq with ⟨h1, rfl⟩ | ⟨h1, rfl⟩
  · exact absurd h1 hx
  refine G_w (st' := [.int 0]) (w' := w8 ((((((r.bl, r.co), (r.po, r.ha)), ((r.nw, r.gr), r.go)), (((r.tr, r.rw), r.nm), ((r.fm, r.oc), r.ds))), ((((r.ms, r.wd), (r.sc, r.sd)), ((r.ke, r.ro), r.hs)), (((r.gc, r.nb), r.fc), ((r.de, r.si), 0)))) : R8)) rfl rfl ?_
  refine G_if_ne (tgt := 15) dX8_equal_10 (by decide) (fun h => absurd rfl h) (fun _ => ?_)
  refine G_iconst (v := -1) dX8_equal_13 (by decide) ?_
  exact G_ret (v := some (.int _)) ⟨dX8_equal_14, _, rfl, rfl⟩ ⟨_, rfl, rfl, rfl⟩
set_option maxRecDepth 20000 in
set_option maxHeartbeats 1000000 in
theorem con8_isomorphic_bad (d kc : Nat) (hkc : kc ≤ 8) (r : R8) (hk : r.ke = nI kc) (x : Int32) (hx : ¬ (0 ≤ x.toInt ∧ x.toInt < kc)) : Con mX8_isomorphic (d + 2) 0 0 (w8 r) [.ref 100, .int x] (fun w' v => ∃ r', w' = w8 r' ∧ r' = ((((((r.bl, r.co), (r.po, r.ha)), ((r.nw, r.gr), r.go)), (((r.tr, r.rw), r.nm), ((r.fm, r.oc), r.ds))), ((((r.ms, r.wd), (r.sc, r.sd)), ((r.ke, r.ro), r.hs)), (((r.gc, r.nb), r.fc), ((r.de, r.si), 0)))) : R8) ∧ v = some (.int (-1))) := by
  refine Con.of (ab_okc rfl (by decide)) (Nat.le_of_ble_eq_true rfl) ?_
  show G ab_x0 mX8_isomorphic (d + 2) 0 0 _ 0 [some (.ref 100), some (.int x), none] [] _
  refine G_aload_n dX8_isomorphic_0 rfl ?_
  refine G_iconst (v := 0) dX8_isomorphic_1 (by decide) ?_
  refine G_put (w' := w8 ((((((r.bl, r.co), (r.po, r.ha)), ((r.nw, r.gr), r.go)), (((r.tr, r.rw), r.nm), ((r.fm, r.oc), r.ds))), ((((r.ms, r.wd), (r.sc, r.sd)), ((r.ke, r.ro), r.hs)), (((r.gc, r.nb), r.fc), ((r.de, r.si), 0)))) : R8)) (f := 25) kc9 dX8_isomorphic_2 fX8_1 (by decide) rfl rfl rfl rfl (Nat.le_of_ble_eq_true rfl) rfl ?_
  refine G_aload_n dX8_isomorphic_5 rfl ?_
  refine G_iload_n dX8_isomorphic_6 rfl ?_
  refine G_V8 (as := [.int x]) (st := []) cX8_isomorphic_7 (con8_ways_bad d kc hkc ((((((r.bl, r.co), (r.po, r.ha)), ((r.nw, r.gr), r.go)), (((r.tr, r.rw), r.nm), ((r.fm, r.oc), r.ds))), ((((r.ms, r.wd), (r.sc, r.sd)), ((r.ke, r.ro), r.hs)), (((r.gc, r.nb), r.fc), ((r.de, r.si), 0)))) : R8) hk x hx) rfl rfl rfl rfl rfl (Nat.le_of_ble_eq_true rfl) dX8_isomorphic_7 (fun r2 v2 hq => ?_)
  obtain ⟨rfl, rfl⟩ := hq
  refine G_w (st' := [.int (-1)]) (w' := w8 ((((((r.bl, r.co), (r.po, r.ha)), ((r.nw, r.gr), r.go)), (((r.tr, r.rw), r.nm), ((r.fm, r.oc), r.ds))), ((((r.ms, r.wd), (r.sc, r.sd)), ((r.ke, r.ro), r.hs)), (((r.gc, r.nb), r.fc), ((r.de, r.si), 0)))) : R8)) rfl rfl ?_
  refine G_istore_n (L' := [_, _, _]) dX8_isomorphic_10 (Nat.le_of_ble_eq_true rfl) rfl ?_
  refine G_iload_n dX8_isomorphic_11 rfl ?_
  refine G_if_le (tgt := 19) dX8_isomorphic_12 (by decide) (fun _ => ?_) (fun h => absurd (by decide) h)
  refine G_iload_n dX8_isomorphic_19 rfl ?_
  exact G_ret (v := some (.int _)) ⟨dX8_isomorphic_20, _, rfl, rfl⟩ ⟨_, rfl, rfl, rfl⟩
set_option maxRecDepth 20000 in
set_option maxHeartbeats 2000000 in
theorem con8_ways (d kc g nb nt nb' nt' : Nat) (hkc : kc ≤ 8) (hg : g < kc) (hnb : nb ≤ 8) (hnt : nt ≤ 40) (hnb' : nb' ≤ 8) (hnt' : nt' ≤ 40) (r : R8) (hk : r.ke = nI kc) (hb : r.bl 8 = nI nb) (hc : r.co 8 = nI nt) (hb' : r.bl g = nI nb') (hc' : r.co g = nI nt') (q q' : Nat → Nat) (hp : pts r.po 960 q nt nb) (hp' : pts r.po (120 * g) q' nt' nb') : Con mX8_ways (d + 3) 0 0 (w8 r) [.ref 100, .int (nI g)] (fun w' v => ∃ r', w' = w8 r' ∧ (((¬ (nb = nb' ∧ nt = nt')) ∧ r' = ((((((r.bl, r.co), (r.po, r.ha)), ((r.nw, r.gr), r.go)), (((r.tr, r.rw), r.nm), ((r.fm, r.oc), r.ds))), ((((r.ms, r.wd), (r.sc, r.sd)), ((r.ke, r.ro), r.hs)), (((r.gc, r.nb), r.fc), ((r.de, r.si), 0)))) : R8) ∧ v = some (.int 0)) ∨ ((nb = nb' ∧ nt = nt') ∧ ∃ t, r' = ((((((r.bl, r.co), (r.po, r.ha)), ((r.nw, r.gr), r.go)), (((t, r.rw), r.nm), ((r.fm, r.oc), r.ds))), ((((r.ms, r.wd), (r.sc, r.sd)), ((r.ke, r.ro), r.hs)), (((r.gc, r.nb), r.fc), ((r.de, r.si), 0)))) : R8) ∧ v = some (.int (nI (nP nb (Bc q nt q' nt') (9 ^ nb))))))) := by
  refine Con.of (ab_okc rfl (by decide)) (Nat.le_of_ble_eq_true rfl) ?_
  show G ab_x0 mX8_ways (d + 3) 0 0 _ 0 [some (.ref 100), some (.int (nI g)), none, none, none] [] _
  have bound : ∀ x, x ≤ 9 ^ nb → nP nb (Bc q nt q' nt') x < 2 ^ 30 := fun x hx => by
    have h1 := nP_le nb (Bc q nt q' nt') x
    have h2 : 9 ^ nb ≤ 9 ^ 8 := Nat.pow_le_pow_right (by decide) hnb
    omega
  refine G_aload_n dX8_ways_0 rfl ?_
  refine G_iconst (v := 0) dX8_ways_1 (by decide) ?_
  refine G_put (w' := w8 ((((((r.bl, r.co), (r.po, r.ha)), ((r.nw, r.gr), r.go)), (((r.tr, r.rw), r.nm), ((r.fm, r.oc), r.ds))), ((((r.ms, r.wd), (r.sc, r.sd)), ((r.ke, r.ro), r.hs)), (((r.gc, r.nb), r.fc), ((r.de, r.si), 0)))) : R8)) (f := 25) kc9 dX8_ways_2 fX8_1 (by decide) rfl rfl rfl rfl (Nat.le_of_ble_eq_true rfl) rfl ?_
  refine G_aload_n dX8_ways_5 rfl ?_
  refine G_iload_n dX8_ways_6 rfl ?_
  refine G_V8 (as := [.int (nI g)]) (st := []) cX8_ways_7 (con8_isKept _ ((((((r.bl, r.co), (r.po, r.ha)), ((r.nw, r.gr), r.go)), (((r.tr, r.rw), r.nm), ((r.fm, r.oc), r.ds))), ((((r.ms, r.wd), (r.sc, r.sd)), ((r.ke, r.ro), r.hs)), (((r.gc, r.nb), r.fc), ((r.de, r.si), 0)))) : R8) (nI g)) rfl rfl rfl rfl rfl (Nat.le_of_ble_eq_true rfl) dX8_ways_7 (fun r2 v2 hq => ?_)
  obtain ⟨rfl, hq⟩ := hq
  have hke : (R8.ke ((((((r.bl, r.co), (r.po, r.ha)), ((r.nw, r.gr), r.go)), (((r.tr, r.rw), r.nm), ((r.fm, r.oc), r.ds))), ((((r.ms, r.wd), (r.sc, r.sd)), ((r.ke, r.ro), r.hs)), (((r.gc, r.nb), r.fc), ((r.de, r.si), 0)))) : R8)).toInt = kc := by show r.ke.toInt = kc; rw [hk]; exact nI_toInt (by omega)
  rw [hke, nI_toInt (by omega)] at hq
  rcases hq with ⟨h1, rfl⟩ | ⟨h1, rfl⟩
  rotate_left
  · exact absurd ⟨by omega, by omega⟩ h1
  refine G_w (st' := [.int 1]) (w' := w8 ((((((r.bl, r.co), (r.po, r.ha)), ((r.nw, r.gr), r.go)), (((r.tr, r.rw), r.nm), ((r.fm, r.oc), r.ds))), ((((r.ms, r.wd), (r.sc, r.sd)), ((r.ke, r.ro), r.hs)), (((r.gc, r.nb), r.fc), ((r.de, r.si), 0)))) : R8)) rfl rfl ?_
  refine G_if_ne (tgt := 15) dX8_ways_10 (by decide) (fun _ => ?_) (fun h => absurd h (by decide))
  refine G_aload_n dX8_ways_15 rfl ?_
  refine G_get (f := 1) kc9 dX8_ways_16 fX8_145 (by decide) rfl rfl ?_
  refine G_bipush (v := 8) dX8_ways_19 (by decide) ?_
  refine G_ialdN (8) dX8_ways_21 rfl rfl (by decide) (by decide) ?_
  refine G_topi hb ?_
  refine G_istore_n (L' := [_, _, _, _, _]) dX8_ways_22 (Nat.le_of_ble_eq_true rfl) rfl ?_
  refine G_aload_n dX8_ways_23 rfl ?_
  refine G_get (f := 1) kc9 dX8_ways_24 fX8_145 (by decide) rfl rfl ?_
  refine G_iload_n dX8_ways_27 rfl ?_
  refine G_ialdN (g) dX8_ways_28 rfl rfl (by omega) (by decide) ?_
  refine G_iload_n dX8_ways_29 rfl ?_
  have no : ¬ (nb = nb' ∧ nt = nt') → G ab_x0 mX8_ways (d + 3) 0 0 (fun w' v => ∃ r', w' = w8 r' ∧ (((¬ (nb = nb' ∧ nt = nt')) ∧ r' = ((((((r.bl, r.co), (r.po, r.ha)), ((r.nw, r.gr), r.go)), (((r.tr, r.rw), r.nm), ((r.fm, r.oc), r.ds))), ((((r.ms, r.wd), (r.sc, r.sd)), ((r.ke, r.ro), r.hs)), (((r.gc, r.nb), r.fc), ((r.de, r.si), 0)))) : R8) ∧ v = some (.int 0)) ∨ ((nb = nb' ∧ nt = nt') ∧ ∃ t, r' = ((((((r.bl, r.co), (r.po, r.ha)), ((r.nw, r.gr), r.go)), (((t, r.rw), r.nm), ((r.fm, r.oc), r.ds))), ((((r.ms, r.wd), (r.sc, r.sd)), ((r.ke, r.ro), r.hs)), (((r.gc, r.nb), r.fc), ((r.de, r.si), 0)))) : R8) ∧ v = some (.int (nI (nP nb (Bc q nt q' nt') (9 ^ nb))))))) 49 [some (.ref 100), some (.int (nI g)), some (.int (nI nb)), none, none] [] (w8 ((((((r.bl, r.co), (r.po, r.ha)), ((r.nw, r.gr), r.go)), (((r.tr, r.rw), r.nm), ((r.fm, r.oc), r.ds))), ((((r.ms, r.wd), (r.sc, r.sd)), ((r.ke, r.ro), r.hs)), (((r.gc, r.nb), r.fc), ((r.de, r.si), 0)))) : R8)) := by
    intro h
    refine G_iconst (v := 0) dX8_ways_49 (by decide) ?_
    exact G_ret (v := some (.int _)) ⟨dX8_ways_50, _, rfl, rfl⟩ ⟨_, rfl, Or.inl ⟨h, rfl, rfl⟩⟩
  refine G_icmp_neN (tgt := 49) nb' nb dX8_ways_30 (by decide) hb' rfl (by omega) (by omega) (fun h => no (fun q => h q.1.symm)) (fun hbb => ?_)
  refine G_aload_n dX8_ways_33 rfl ?_
  refine G_get (f := 2) kc9 dX8_ways_34 fX8_149 (by decide) rfl rfl ?_
  refine G_iload_n dX8_ways_37 rfl ?_
  refine G_ialdN (g) dX8_ways_38 rfl rfl (by omega) (by decide) ?_
  refine G_aload_n dX8_ways_39 rfl ?_
  refine G_get (f := 2) kc9 dX8_ways_40 fX8_149 (by decide) rfl rfl ?_
  refine G_bipush (v := 8) dX8_ways_43 (by decide) ?_
  refine G_ialdN (8) dX8_ways_45 rfl rfl (by decide) (by decide) ?_
  refine G_icmp_eqN (tgt := 51) nt' nt dX8_ways_46 (by decide) hc' hc (by omega) (by omega) (fun htt => ?_) (fun h => no (fun q => h q.2.symm))
  refine G_iconst (v := 0) dX8_ways_51 (by decide) ?_
  refine G_istore_n (L' := [_, _, _, _, _]) dX8_ways_52 (Nat.le_of_ble_eq_true rfl) rfl ?_
  refine G_aload_n dX8_ways_53 rfl ?_
  refine G_iload_n dX8_ways_54 rfl ?_
  refine G_V8 (as := [.int (nI nb)]) (st := []) cX8_ways_55 (con8_begin _ nb ((((((r.bl, r.co), (r.po, r.ha)), ((r.nw, r.gr), r.go)), (((r.tr, r.rw), r.nm), ((r.fm, r.oc), r.ds))), ((((r.ms, r.wd), (r.sc, r.sd)), ((r.ke, r.ro), r.hs)), (((r.gc, r.nb), r.fc), ((r.de, r.si), 0)))) : R8) hnb) rfl rfl rfl rfl rfl (Nat.le_of_ble_eq_true rfl) dX8_ways_55 (fun r2 v2 hq => ?_)
  obtain ⟨rfl, t0, rfl, ht0⟩ := hq
  refine G_w (st' := []) (w' := w8 ((((((r.bl, r.co), (r.po, r.ha)), ((r.nw, r.gr), r.go)), (((t0, r.rw), r.nm), ((r.fm, r.oc), r.ds))), ((((r.ms, r.wd), (r.sc, r.sd)), ((r.ke, r.ro), r.hs)), (((r.gc, r.nb), r.fc), ((r.de, r.si), 0)))) : R8)) rfl rfl ?_
  refine G_iconst (v := 1) dX8_ways_58 (by decide) ?_
  refine G_istore (L' := [_, _, _, _, _]) dX8_ways_59 (Nat.le_of_ble_eq_true rfl) rfl ?_
  have loop : ∀ (k : Nat) (h : Nat → Nat) (t : Nat → Int32), 9 ^ nb - enc h nb = k → PermH nb h → TR t nb h → G ab_x0 mX8_ways (d + 3) 0 0 (fun w' v => ∃ r', w' = w8 r' ∧ (((¬ (nb = nb' ∧ nt = nt')) ∧ r' = ((((((r.bl, r.co), (r.po, r.ha)), ((r.nw, r.gr), r.go)), (((r.tr, r.rw), r.nm), ((r.fm, r.oc), r.ds))), ((((r.ms, r.wd), (r.sc, r.sd)), ((r.ke, r.ro), r.hs)), (((r.gc, r.nb), r.fc), ((r.de, r.si), 0)))) : R8) ∧ v = some (.int 0)) ∨ ((nb = nb' ∧ nt = nt') ∧ ∃ t, r' = ((((((r.bl, r.co), (r.po, r.ha)), ((r.nw, r.gr), r.go)), (((t, r.rw), r.nm), ((r.fm, r.oc), r.ds))), ((((r.ms, r.wd), (r.sc, r.sd)), ((r.ke, r.ro), r.hs)), (((r.gc, r.nb), r.fc), ((r.de, r.si), 0)))) : R8) ∧ v = some (.int (nI (nP nb (Bc q nt q' nt') (9 ^ nb))))))) 61 [some (.ref 100), some (.int (nI g)), some (.int (nI nb)), some (.int (nI (nP nb (Bc q nt q' nt') (enc h nb)))), some (.int 1)] [] (w8 ((((((r.bl, r.co), (r.po, r.ha)), ((r.nw, r.gr), r.go)), (((t, r.rw), r.nm), ((r.fm, r.oc), r.ds))), ((((r.ms, r.wd), (r.sc, r.sd)), ((r.ke, r.ro), r.hs)), (((r.gc, r.nb), r.fc), ((r.de, r.si), 0)))) : R8)) := by
    intro k
    induction k using Nat.strongRecOn with
    | ind k ih =>
      intro h t hk2 hph hT
      have h9 := enc_bd (perm8 hnb hph)
      have b1 := bound (enc h nb) (by omega)
      have b2 := bound (enc h nb + 1) (by omega)
      refine G_iload dX8_ways_61 rfl ?_
      refine G_if_eq (tgt := 92) dX8_ways_63 (by decide) (fun h => absurd h (by decide)) (fun _ => ?_)
      refine G_iload_n dX8_ways_66 rfl ?_
      refine G_aload_n dX8_ways_67 rfl ?_
      refine G_iload_n dX8_ways_68 rfl ?_
      refine G_V8 (as := [.int (nI g)]) (st := [.int (nI (nP nb (Bc q nt q' nt') (enc h nb)))]) cX8_ways_69 (con8_becomes _ g nb nt nt' ((((((r.bl, r.co), (r.po, r.ha)), ((r.nw, r.gr), r.go)), (((t, r.rw), r.nm), ((r.fm, r.oc), r.ds))), ((((r.ms, r.wd), (r.sc, r.sd)), ((r.ke, r.ro), r.hs)), (((r.gc, r.nb), r.fc), ((r.de, r.si), 0)))) : R8) (by omega) hc hnt hc' hnt' q q' h nb' hp hp' (fun c hc2 => ⟨hT c hc2, perm8 hnb hph c hc2⟩)) rfl rfl rfl rfl rfl (Nat.le_of_ble_eq_true rfl) dX8_ways_69 (fun r2 v2 hq => ?_)
      obtain ⟨rfl, hq⟩ := hq
      have rest : G ab_x0 mX8_ways (d + 3) 0 0 (fun w' v => ∃ r', w' = w8 r' ∧ (((¬ (nb = nb' ∧ nt = nt')) ∧ r' = ((((((r.bl, r.co), (r.po, r.ha)), ((r.nw, r.gr), r.go)), (((r.tr, r.rw), r.nm), ((r.fm, r.oc), r.ds))), ((((r.ms, r.wd), (r.sc, r.sd)), ((r.ke, r.ro), r.hs)), (((r.gc, r.nb), r.fc), ((r.de, r.si), 0)))) : R8) ∧ v = some (.int 0)) ∨ ((nb = nb' ∧ nt = nt') ∧ ∃ t, r' = ((((((r.bl, r.co), (r.po, r.ha)), ((r.nw, r.gr), r.go)), (((t, r.rw), r.nm), ((r.fm, r.oc), r.ds))), ((((r.ms, r.wd), (r.sc, r.sd)), ((r.ke, r.ro), r.hs)), (((r.gc, r.nb), r.fc), ((r.de, r.si), 0)))) : R8) ∧ v = some (.int (nI (nP nb (Bc q nt q' nt') (9 ^ nb))))))) 82 [some (.ref 100), some (.int (nI g)), some (.int (nI nb)), some (.int (nI (nP nb (Bc q nt q' nt') (enc h nb + 1)))), some (.int 1)] [] (w8 ((((((r.bl, r.co), (r.po, r.ha)), ((r.nw, r.gr), r.go)), (((t, r.rw), r.nm), ((r.fm, r.oc), r.ds))), ((((r.ms, r.wd), (r.sc, r.sd)), ((r.ke, r.ro), r.hs)), (((r.gc, r.nb), r.fc), ((r.de, r.si), 0)))) : R8)) := by
        refine G_aload_n dX8_ways_82 rfl ?_
        refine G_iload_n dX8_ways_83 rfl ?_
        refine G_V8 (as := [.int (nI nb)]) (st := []) cX8_ways_84 (con8_turn _ nb hnb ((((((r.bl, r.co), (r.po, r.ha)), ((r.nw, r.gr), r.go)), (((t, r.rw), r.nm), ((r.fm, r.oc), r.ds))), ((((r.ms, r.wd), (r.sc, r.sd)), ((r.ke, r.ro), r.hs)), (((r.gc, r.nb), r.fc), ((r.de, r.si), 0)))) : R8) h hT hph) rfl rfl rfl rfl rfl (Nat.le_of_ble_eq_true rfl) dX8_ways_84 (fun r2 v2 hq => ?_)
        rcases hq with ⟨rfl, rfl, hmax⟩ | ⟨rfl, t2, h2, rfl, hT2, hp2, hlt, hnx⟩
        · refine G_w (st' := [.int 0]) (w' := w8 ((((((r.bl, r.co), (r.po, r.ha)), ((r.nw, r.gr), r.go)), (((t, r.rw), r.nm), ((r.fm, r.oc), r.ds))), ((((r.ms, r.wd), (r.sc, r.sd)), ((r.ke, r.ro), r.hs)), (((r.gc, r.nb), r.fc), ((r.de, r.si), 0)))) : R8)) rfl rfl ?_
          refine G_istore (L' := [_, _, _, _, _]) dX8_ways_87 (Nat.le_of_ble_eq_true rfl) rfl ?_
          refine G_goto (tgt := 61) dX8_ways_89 (by decide) ?_
          refine G_iload dX8_ways_61 rfl ?_
          refine G_if_eq (tgt := 92) dX8_ways_63 (by decide) (fun _ => ?_) (fun h => absurd rfl h)
          refine G_iload_n dX8_ways_92 rfl ?_
          exact G_ret (v := some (.int _)) ⟨dX8_ways_93, _, rfl, rfl⟩ ⟨_, rfl, Or.inr ⟨⟨hbb.symm, htt.symm⟩, t, rfl, by rw [nP_end hnb hph hmax]⟩⟩
        · refine G_w (st' := [.int 1]) (w' := w8 ((((((r.bl, r.co), (r.po, r.ha)), ((r.nw, r.gr), r.go)), (((t2, r.rw), r.nm), ((r.fm, r.oc), r.ds))), ((((r.ms, r.wd), (r.sc, r.sd)), ((r.ke, r.ro), r.hs)), (((r.gc, r.nb), r.fc), ((r.de, r.si), 0)))) : R8)) rfl rfl ?_
          refine G_istore (L' := [_, _, _, _, _]) dX8_ways_87 (Nat.le_of_ble_eq_true rfl) rfl ?_
          refine G_goto (tgt := 61) dX8_ways_89 (by decide) ?_
          have := enc_bd (perm8 hnb hp2)
          rw [← nP_step hnb hp2 hlt hnx]
          exact ih (9 ^ nb - enc h2 nb) (by omega) h2 t2 rfl hp2 hT2
      rcases hq with ⟨hy, rfl⟩ | ⟨hn, rfl⟩
      · refine G_w (st' := [.int 1, .int (nI (nP nb (Bc q nt q' nt') (enc h nb)))]) (w' := w8 ((((((r.bl, r.co), (r.po, r.ha)), ((r.nw, r.gr), r.go)), (((t, r.rw), r.nm), ((r.fm, r.oc), r.ds))), ((((r.ms, r.wd), (r.sc, r.sd)), ((r.ke, r.ro), r.hs)), (((r.gc, r.nb), r.fc), ((r.de, r.si), 0)))) : R8)) rfl rfl ?_
        refine G_if_eq (tgt := 79) dX8_ways_72 (by decide) (fun h => absurd h (by decide)) (fun _ => ?_)
        refine G_iconst (v := 1) dX8_ways_75 (by decide) ?_
        refine G_goto (tgt := 80) dX8_ways_76 (by decide) ?_
        refine G_iadd dX8_ways_80 ?_
        refine G_topi (y := nI (nP nb (Bc q nt q' nt') (enc h nb + 1))) (by rw [nP_yes hnb (Bc_loc (pts_key hp)) hph hy]; exact nI_1 _) ?_
        refine G_istore_n (L' := [_, _, _, _, _]) dX8_ways_81 (Nat.le_of_ble_eq_true rfl) rfl ?_
        exact rest
      · refine G_w (st' := [.int 0, .int (nI (nP nb (Bc q nt q' nt') (enc h nb)))]) (w' := w8 ((((((r.bl, r.co), (r.po, r.ha)), ((r.nw, r.gr), r.go)), (((t, r.rw), r.nm), ((r.fm, r.oc), r.ds))), ((((r.ms, r.wd), (r.sc, r.sd)), ((r.ke, r.ro), r.hs)), (((r.gc, r.nb), r.fc), ((r.de, r.si), 0)))) : R8)) rfl rfl ?_
        refine G_if_eq (tgt := 79) dX8_ways_72 (by decide) (fun _ => ?_) (fun h => absurd rfl h)
        refine G_iconst (v := 0) dX8_ways_79 (by decide) ?_
        refine G_iadd dX8_ways_80 ?_
        refine G_topi (y := nI (nP nb (Bc q nt q' nt') (enc h nb + 1))) (by rw [nP_no hnb (Bc_loc (pts_key hp)) hph hn]; exact nI_add _ 0) ?_
        refine G_istore_n (L' := [_, _, _, _, _]) dX8_ways_81 (Nat.le_of_ble_eq_true rfl) rfl ?_
        exact rest
  have := loop _ (fun c => c + 1) t0 rfl (id_perm nb) (fun c hc2 => ht0 (c + 1) (by omega) (by omega))
  rw [nP_0 hnb] at this
  exact this
set_option maxRecDepth 20000 in
set_option maxHeartbeats 1000000 in
theorem con8_isomorphic (d kc g nb nt nb' nt' : Nat) (hkc : kc ≤ 8) (hg : g < kc) (hnb : nb ≤ 8) (hnt : nt ≤ 40) (hnb' : nb' ≤ 8) (hnt' : nt' ≤ 40) (r : R8) (hk : r.ke = nI kc) (hb : r.bl 8 = nI nb) (hc : r.co 8 = nI nt) (hb' : r.bl g = nI nb') (hc' : r.co g = nI nt') (q q' : Nat → Nat) (hp : pts r.po 960 q nt nb) (hp' : pts r.po (120 * g) q' nt' nb') : Con mX8_isomorphic (d + 4) 0 0 (w8 r) [.ref 100, .int (nI g)] (fun w' v => ∃ r', w' = w8 r' ∧ (((¬ (nb = nb' ∧ nt = nt')) ∧ r' = ((((((r.bl, r.co), (r.po, r.ha)), ((r.nw, r.gr), r.go)), (((r.tr, r.rw), r.nm), ((r.fm, r.oc), r.ds))), ((((r.ms, r.wd), (r.sc, r.sd)), ((r.ke, r.ro), r.hs)), (((r.gc, r.nb), r.fc), ((r.de, r.si), 0)))) : R8) ∧ v = some (.int 0)) ∨ ((nb = nb' ∧ nt = nt') ∧ ∃ t, r' = ((((((r.bl, r.co), (r.po, r.ha)), ((r.nw, r.gr), r.go)), (((t, r.rw), r.nm), ((r.fm, r.oc), r.ds))), ((((r.ms, r.wd), (r.sc, r.sd)), ((r.ke, r.ro), r.hs)), (((r.gc, r.nb), r.fc), ((r.de, r.si), 0)))) : R8) ∧ v = some (.int (if 0 < nP nb (Bc q nt q' nt') (9 ^ nb) then 1 else 0))))) := by
  refine Con.of (ab_okc rfl (by decide)) (Nat.le_of_ble_eq_true rfl) ?_
  show G ab_x0 mX8_isomorphic (d + 4) 0 0 _ 0 [some (.ref 100), some (.int (nI g)), none] [] _
  have bound : nP nb (Bc q nt q' nt') (9 ^ nb) < 2 ^ 30 := by
    have h1 := nP_le nb (Bc q nt q' nt') (9 ^ nb)
    have h2 : 9 ^ nb ≤ 9 ^ 8 := Nat.pow_le_pow_right (by decide) hnb
    omega
  refine G_aload_n dX8_isomorphic_0 rfl ?_
  refine G_iconst (v := 0) dX8_isomorphic_1 (by decide) ?_
  refine G_put (w' := w8 ((((((r.bl, r.co), (r.po, r.ha)), ((r.nw, r.gr), r.go)), (((r.tr, r.rw), r.nm), ((r.fm, r.oc), r.ds))), ((((r.ms, r.wd), (r.sc, r.sd)), ((r.ke, r.ro), r.hs)), (((r.gc, r.nb), r.fc), ((r.de, r.si), 0)))) : R8)) (f := 25) kc9 dX8_isomorphic_2 fX8_1 (by decide) rfl rfl rfl rfl (Nat.le_of_ble_eq_true rfl) rfl ?_
  refine G_aload_n dX8_isomorphic_5 rfl ?_
  refine G_iload_n dX8_isomorphic_6 rfl ?_
  refine G_V8 (as := [.int (nI g)]) (st := []) cX8_isomorphic_7 (con8_ways d kc g nb nt nb' nt' hkc hg hnb hnt hnb' hnt' ((((((r.bl, r.co), (r.po, r.ha)), ((r.nw, r.gr), r.go)), (((r.tr, r.rw), r.nm), ((r.fm, r.oc), r.ds))), ((((r.ms, r.wd), (r.sc, r.sd)), ((r.ke, r.ro), r.hs)), (((r.gc, r.nb), r.fc), ((r.de, r.si), 0)))) : R8) hk hb hc hb' hc' q q' hp hp') rfl rfl rfl rfl rfl (Nat.le_of_ble_eq_true rfl) dX8_isomorphic_7 (fun r2 v2 hq => ?_)
  rcases hq with ⟨hne, rfl, rfl⟩ | ⟨heq, t, rfl, rfl⟩
  · refine G_w (st' := [.int 0]) (w' := w8 ((((((r.bl, r.co), (r.po, r.ha)), ((r.nw, r.gr), r.go)), (((r.tr, r.rw), r.nm), ((r.fm, r.oc), r.ds))), ((((r.ms, r.wd), (r.sc, r.sd)), ((r.ke, r.ro), r.hs)), (((r.gc, r.nb), r.fc), ((r.de, r.si), 0)))) : R8)) rfl rfl ?_
    refine G_istore_n (L' := [_, _, _]) dX8_isomorphic_10 (Nat.le_of_ble_eq_true rfl) rfl ?_
    refine G_iload_n dX8_isomorphic_11 rfl ?_
    refine G_if_le (tgt := 19) dX8_isomorphic_12 (by decide) (fun _ => ?_) (fun h => absurd (by decide) h)
    refine G_iload_n dX8_isomorphic_19 rfl ?_
    exact G_ret (v := some (.int _)) ⟨dX8_isomorphic_20, _, rfl, rfl⟩ ⟨_, rfl, Or.inl ⟨hne, rfl, rfl⟩⟩
  refine G_w (st' := [.int (nI (nP nb (Bc q nt q' nt') (9 ^ nb)))]) (w' := w8 ((((((r.bl, r.co), (r.po, r.ha)), ((r.nw, r.gr), r.go)), (((t, r.rw), r.nm), ((r.fm, r.oc), r.ds))), ((((r.ms, r.wd), (r.sc, r.sd)), ((r.ke, r.ro), r.hs)), (((r.gc, r.nb), r.fc), ((r.de, r.si), 0)))) : R8)) rfl rfl ?_
  refine G_istore_n (L' := [_, _, _]) dX8_isomorphic_10 (Nat.le_of_ble_eq_true rfl) rfl ?_
  refine G_iload_n dX8_isomorphic_11 rfl ?_
  by_cases h0 : 0 < nP nb (Bc q nt q' nt') (9 ^ nb)
  · refine G_if_le (tgt := 19) dX8_isomorphic_12 (by decide) (fun h => absurd h (nI_nle h0 (by omega))) (fun _ => ?_)
    refine G_iconst (v := 1) dX8_isomorphic_15 (by decide) ?_
    refine G_goto (tgt := 20) dX8_isomorphic_16 (by decide) ?_
    exact G_ret (v := some (.int _)) ⟨dX8_isomorphic_20, _, rfl, rfl⟩ ⟨_, rfl, Or.inr ⟨heq, t, rfl, by rw [if_pos h0]⟩⟩
  · have e0 : nP nb (Bc q nt q' nt') (9 ^ nb) = 0 := by omega
    rw [e0]
    refine G_if_le (tgt := 19) dX8_isomorphic_12 (by decide) (fun _ => ?_) (fun h => absurd (by decide) h)
    refine G_iload_n dX8_isomorphic_19 rfl ?_
    exact G_ret (v := some (.int _)) ⟨dX8_isomorphic_20, _, rfl, rfl⟩ ⟨_, rfl, Or.inr ⟨heq, t, rfl, rfl⟩⟩
set_option maxRecDepth 20000 in
set_option maxHeartbeats 1000000 in
theorem con8_equal (d kc g nb nt nb' nt' : Nat) (hkc : kc ≤ 8) (hg : g < kc) (hnb : nb ≤ 8) (hnt : nt ≤ 40) (hnb' : nb' ≤ 8) (hnt' : nt' ≤ 40) (r : R8) (hk : r.ke = nI kc) (hb : r.bl 8 = nI nb) (hc : r.co 8 = nI nt) (hb' : r.bl g = nI nb') (hc' : r.co g = nI nt') (q q' : Nat → Nat) (hp : pts r.po 960 q nt nb) (hp' : pts r.po (120 * g) q' nt' nb') : Con mX8_equal (d + 3) 0 0 (w8 r) [.ref 100, .int (nI g)] (fun w' v => ∃ r', w' = w8 r' ∧ (((¬ (nb = nb' ∧ nt = nt')) ∧ r' = ((((((r.bl, r.co), (r.po, r.ha)), ((r.nw, r.gr), r.go)), (((r.tr, r.rw), r.nm), ((r.fm, r.oc), r.ds))), ((((r.ms, r.wd), (r.sc, r.sd)), ((r.ke, r.ro), r.hs)), (((r.gc, r.nb), r.fc), ((r.de, r.si), 0)))) : R8) ∧ v = some (.int 0)) ∨ ((nb = nb' ∧ nt = nt') ∧ ∃ t, r' = ((((((r.bl, r.co), (r.po, r.ha)), ((r.nw, r.gr), r.go)), (((t, r.rw), r.nm), ((r.fm, r.oc), r.ds))), ((((r.ms, r.wd), (r.sc, r.sd)), ((r.ke, r.ro), r.hs)), (((r.gc, r.nb), r.fc), ((r.de, r.si), 0)))) : R8) ∧ ((Bc q nt q' nt' (fun c => c + 1) ∧ v = some (.int 1)) ∨ ((¬ Bc q nt q' nt' (fun c => c + 1)) ∧ v = some (.int 0)))))) := by
  refine Con.of (ab_okc rfl (by decide)) (Nat.le_of_ble_eq_true rfl) ?_
  show G ab_x0 mX8_equal (d + 3) 0 0 _ 0 [some (.ref 100), some (.int (nI g))] [] _
  refine G_aload_n dX8_equal_0 rfl ?_
  refine G_iconst (v := 0) dX8_equal_1 (by decide) ?_
  refine G_put (w' := w8 ((((((r.bl, r.co), (r.po, r.ha)), ((r.nw, r.gr), r.go)), (((r.tr, r.rw), r.nm), ((r.fm, r.oc), r.ds))), ((((r.ms, r.wd), (r.sc, r.sd)), ((r.ke, r.ro), r.hs)), (((r.gc, r.nb), r.fc), ((r.de, r.si), 0)))) : R8)) (f := 25) kc9 dX8_equal_2 fX8_1 (by decide) rfl rfl rfl rfl (Nat.le_of_ble_eq_true rfl) rfl ?_
  refine G_aload_n dX8_equal_5 rfl ?_
  refine G_iload_n dX8_equal_6 rfl ?_
  refine G_V8 (as := [.int (nI g)]) (st := []) cX8_equal_7 (con8_isKept _ ((((((r.bl, r.co), (r.po, r.ha)), ((r.nw, r.gr), r.go)), (((r.tr, r.rw), r.nm), ((r.fm, r.oc), r.ds))), ((((r.ms, r.wd), (r.sc, r.sd)), ((r.ke, r.ro), r.hs)), (((r.gc, r.nb), r.fc), ((r.de, r.si), 0)))) : R8) (nI g)) rfl rfl rfl rfl rfl (Nat.le_of_ble_eq_true rfl) dX8_equal_7 (fun r2 v2 hq => ?_)
  obtain ⟨rfl, hq⟩ := hq
  have hke : (R8.ke ((((((r.bl, r.co), (r.po, r.ha)), ((r.nw, r.gr), r.go)), (((r.tr, r.rw), r.nm), ((r.fm, r.oc), r.ds))), ((((r.ms, r.wd), (r.sc, r.sd)), ((r.ke, r.ro), r.hs)), (((r.gc, r.nb), r.fc), ((r.de, r.si), 0)))) : R8)).toInt = kc := by show r.ke.toInt = kc; rw [hk]; exact nI_toInt (by omega)
  rw [hke, nI_toInt (by omega)] at hq
  rcases hq with ⟨h1, rfl⟩ | ⟨h1, rfl⟩
  rotate_left
  · exact absurd ⟨by omega, by omega⟩ h1
  refine G_w (st' := [.int 1]) (w' := w8 ((((((r.bl, r.co), (r.po, r.ha)), ((r.nw, r.gr), r.go)), (((r.tr, r.rw), r.nm), ((r.fm, r.oc), r.ds))), ((((r.ms, r.wd), (r.sc, r.sd)), ((r.ke, r.ro), r.hs)), (((r.gc, r.nb), r.fc), ((r.de, r.si), 0)))) : R8)) rfl rfl ?_
  refine G_if_ne (tgt := 15) dX8_equal_10 (by decide) (fun _ => ?_) (fun h => absurd h (by decide))
  refine G_aload_n dX8_equal_15 rfl ?_
  refine G_get (f := 1) kc9 dX8_equal_16 fX8_145 (by decide) rfl rfl ?_
  refine G_iload_n dX8_equal_19 rfl ?_
  refine G_ialdN (g) dX8_equal_20 rfl rfl (by omega) (by decide) ?_
  refine G_aload_n dX8_equal_21 rfl ?_
  refine G_get (f := 1) kc9 dX8_equal_22 fX8_145 (by decide) rfl rfl ?_
  refine G_bipush (v := 8) dX8_equal_25 (by decide) ?_
  refine G_ialdN (8) dX8_equal_27 rfl rfl (by decide) (by decide) ?_
  have no : ¬ (nb = nb' ∧ nt = nt') → G ab_x0 mX8_equal (d + 3) 0 0 (fun w' v => ∃ r', w' = w8 r' ∧ (((¬ (nb = nb' ∧ nt = nt')) ∧ r' = ((((((r.bl, r.co), (r.po, r.ha)), ((r.nw, r.gr), r.go)), (((r.tr, r.rw), r.nm), ((r.fm, r.oc), r.ds))), ((((r.ms, r.wd), (r.sc, r.sd)), ((r.ke, r.ro), r.hs)), (((r.gc, r.nb), r.fc), ((r.de, r.si), 0)))) : R8) ∧ v = some (.int 0)) ∨ ((nb = nb' ∧ nt = nt') ∧ ∃ t, r' = ((((((r.bl, r.co), (r.po, r.ha)), ((r.nw, r.gr), r.go)), (((t, r.rw), r.nm), ((r.fm, r.oc), r.ds))), ((((r.ms, r.wd), (r.sc, r.sd)), ((r.ke, r.ro), r.hs)), (((r.gc, r.nb), r.fc), ((r.de, r.si), 0)))) : R8) ∧ ((Bc q nt q' nt' (fun c => c + 1) ∧ v = some (.int 1)) ∨ ((¬ Bc q nt q' nt' (fun c => c + 1)) ∧ v = some (.int 0)))))) 47 [some (.ref 100), some (.int (nI g))] [] (w8 ((((((r.bl, r.co), (r.po, r.ha)), ((r.nw, r.gr), r.go)), (((r.tr, r.rw), r.nm), ((r.fm, r.oc), r.ds))), ((((r.ms, r.wd), (r.sc, r.sd)), ((r.ke, r.ro), r.hs)), (((r.gc, r.nb), r.fc), ((r.de, r.si), 0)))) : R8)) := by
    intro h
    refine G_iconst (v := 0) dX8_equal_47 (by decide) ?_
    exact G_ret (v := some (.int _)) ⟨dX8_equal_48, _, rfl, rfl⟩ ⟨_, rfl, Or.inl ⟨h, rfl, rfl⟩⟩
  refine G_icmp_neN (tgt := 47) nb' nb dX8_equal_28 (by decide) hb' hb (by omega) (by omega) (fun h => no (fun q => h q.1.symm)) (fun hbb => ?_)
  refine G_aload_n dX8_equal_31 rfl ?_
  refine G_get (f := 2) kc9 dX8_equal_32 fX8_149 (by decide) rfl rfl ?_
  refine G_iload_n dX8_equal_35 rfl ?_
  refine G_ialdN (g) dX8_equal_36 rfl rfl (by omega) (by decide) ?_
  refine G_aload_n dX8_equal_37 rfl ?_
  refine G_get (f := 2) kc9 dX8_equal_38 fX8_149 (by decide) rfl rfl ?_
  refine G_bipush (v := 8) dX8_equal_41 (by decide) ?_
  refine G_ialdN (8) dX8_equal_43 rfl rfl (by decide) (by decide) ?_
  refine G_icmp_eqN (tgt := 49) nt' nt dX8_equal_44 (by decide) hc' hc (by omega) (by omega) (fun htt => ?_) (fun h => no (fun q => h q.2.symm))
  refine G_aload_n dX8_equal_49 rfl ?_
  refine G_aload_n dX8_equal_50 rfl ?_
  refine G_get (f := 1) kc9 dX8_equal_51 fX8_145 (by decide) rfl rfl ?_
  refine G_bipush (v := 8) dX8_equal_54 (by decide) ?_
  refine G_ialdN (8) dX8_equal_56 rfl rfl (by decide) (by decide) ?_
  refine G_topi hb ?_
  refine G_V8 (as := [.int (nI nb)]) (st := []) cX8_equal_57 (con8_begin _ nb ((((((r.bl, r.co), (r.po, r.ha)), ((r.nw, r.gr), r.go)), (((r.tr, r.rw), r.nm), ((r.fm, r.oc), r.ds))), ((((r.ms, r.wd), (r.sc, r.sd)), ((r.ke, r.ro), r.hs)), (((r.gc, r.nb), r.fc), ((r.de, r.si), 0)))) : R8) hnb) rfl rfl rfl rfl rfl (Nat.le_of_ble_eq_true rfl) dX8_equal_57 (fun r2 v2 hq => ?_)
  obtain ⟨rfl, t0, rfl, ht0⟩ := hq
  refine G_w (st' := []) (w' := w8 ((((((r.bl, r.co), (r.po, r.ha)), ((r.nw, r.gr), r.go)), (((t0, r.rw), r.nm), ((r.fm, r.oc), r.ds))), ((((r.ms, r.wd), (r.sc, r.sd)), ((r.ke, r.ro), r.hs)), (((r.gc, r.nb), r.fc), ((r.de, r.si), 0)))) : R8)) rfl rfl ?_
  refine G_aload_n dX8_equal_60 rfl ?_
  refine G_iload_n dX8_equal_61 rfl ?_
  refine G_V8 (as := [.int (nI g)]) (st := []) cX8_equal_62 (con8_becomes _ g nb nt nt' ((((((r.bl, r.co), (r.po, r.ha)), ((r.nw, r.gr), r.go)), (((t0, r.rw), r.nm), ((r.fm, r.oc), r.ds))), ((((r.ms, r.wd), (r.sc, r.sd)), ((r.ke, r.ro), r.hs)), (((r.gc, r.nb), r.fc), ((r.de, r.si), 0)))) : R8) (by omega) hc hnt hc' hnt' q q' (fun c => c + 1) nb' hp hp' (fun c hc2 => ⟨ht0 (c + 1) (by omega) (by omega), by show c + 1 ≤ 8; omega⟩)) rfl rfl rfl rfl rfl (Nat.le_of_ble_eq_true rfl) dX8_equal_62 (fun r2 v2 hq => ?_)
  obtain ⟨rfl, hq⟩ := hq
  rcases hq with ⟨hy, rfl⟩ | ⟨hn, rfl⟩
  · refine G_w (st' := [.int 1]) (w' := w8 ((((((r.bl, r.co), (r.po, r.ha)), ((r.nw, r.gr), r.go)), (((t0, r.rw), r.nm), ((r.fm, r.oc), r.ds))), ((((r.ms, r.wd), (r.sc, r.sd)), ((r.ke, r.ro), r.hs)), (((r.gc, r.nb), r.fc), ((r.de, r.si), 0)))) : R8)) rfl rfl ?_
    refine G_if_eq (tgt := 72) dX8_equal_65 (by decide) (fun h => absurd h (by decide)) (fun _ => ?_)
    refine G_iconst (v := 1) dX8_equal_68 (by decide) ?_
    refine G_goto (tgt := 73) dX8_equal_69 (by decide) ?_
    exact G_ret (v := some (.int _)) ⟨dX8_equal_73, _, rfl, rfl⟩ ⟨_, rfl, Or.inr ⟨⟨hbb.symm, htt.symm⟩, t0, rfl, Or.inl ⟨hy, rfl⟩⟩⟩
  · refine G_w (st' := [.int 0]) (w' := w8 ((((((r.bl, r.co), (r.po, r.ha)), ((r.nw, r.gr), r.go)), (((t0, r.rw), r.nm), ((r.fm, r.oc), r.ds))), ((((r.ms, r.wd), (r.sc, r.sd)), ((r.ke, r.ro), r.hs)), (((r.gc, r.nb), r.fc), ((r.de, r.si), 0)))) : R8)) rfl rfl ?_
    refine G_if_eq (tgt := 72) dX8_equal_65 (by decide) (fun _ => ?_) (fun h => absurd rfl h)
    refine G_iconst (v := 0) dX8_equal_72 (by decide) ?_
    exact G_ret (v := some (.int _)) ⟨dX8_equal_73, _, rfl, rfl⟩ ⟨_, rfl, Or.inr ⟨⟨hbb.symm, htt.symm⟩, t0, rfl, Or.inr ⟨hn, rfl⟩⟩⟩
