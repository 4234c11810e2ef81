/-! The reference: hash, rounds, first, change, isNaming, compareTriples, compareForm. -/
theorem gp_idx {H o rk st : Nat → Nat} {n cn b : Nat} (h : GP H n o rk st cn) (hb : b < n) : o (st (rk b) + cntP (fun c => rk c = rk b) 0 b) = b := by
  obtain ⟨j, hj, rfl⟩ := gp_sur h hb
  have hp := gp_pos h hj
  have hr := h.2.2.2.1 _ (h.1 j hj)
  have e : ∀ m, m ≤ n → cntP (fun c => LX H c (o j)) 0 m = cntP (fun c => rk c < rk (o j)) 0 m + cntP (fun c => rk c = rk (o j)) 0 (min m (o j)) := by
    intro m
    induction m with
    | zero => intro _; rw [Nat.zero_min]; rfl
    | succ m ih =>
      intro hm
      have ih := ih (by omega)
      have hk := gp_rkH h (b := m) (c := o j) (by omega) (h.1 j hj)
      rcases Nat.lt_trichotomy (rk m) (rk (o j)) with q | q | q
      · rw [cntP_yes (P := fun c => LX H c (o j)) ⟨by omega, Or.inl (hk.2.mp q)⟩, cntP_yes (P := fun c => rk c < rk (o j)) ⟨by omega, q⟩]
        have : cntP (fun c => rk c = rk (o j)) 0 (min (m + 1) (o j)) = cntP (fun c => rk c = rk (o j)) 0 (min m (o j)) := by
          rcases Nat.lt_or_ge m (o j) with a | a
          · rw [Nat.min_eq_left (by omega), Nat.min_eq_left (by omega), cntP_no (P := fun c => rk c = rk (o j)) (by omega)]
          · rw [Nat.min_eq_right (by omega), Nat.min_eq_right (by omega)]
        omega
      · rw [cntP_no (P := fun c => rk c < rk (o j)) (by omega)]
        have hH := hk.1.mp q
        rcases Nat.lt_or_ge m (o j) with a | a
        · rw [cntP_yes (P := fun c => LX H c (o j)) ⟨by omega, Or.inr ⟨hH, a⟩⟩, Nat.min_eq_left (by omega), cntP_yes (P := fun c => rk c = rk (o j)) ⟨by omega, q⟩]
          rw [Nat.min_eq_left (by omega)] at ih
          omega
        · rw [cntP_no (P := fun c => LX H c (o j)) (fun z => by have := z.2; unfold LX at this; omega), Nat.min_eq_right (by omega)]
          rw [Nat.min_eq_right (by omega)] at ih
          omega
      · rw [cntP_no (P := fun c => LX H c (o j)) (fun z => by have := z.2; unfold LX at this; have := hk.2; omega), cntP_no (P := fun c => rk c < rk (o j)) (by omega)]
        have : cntP (fun c => rk c = rk (o j)) 0 (min (m + 1) (o j)) = cntP (fun c => rk c = rk (o j)) 0 (min m (o j)) := by
          rcases Nat.lt_or_ge m (o j) with a | a
          · rw [Nat.min_eq_left (by omega), Nat.min_eq_left (by omega), cntP_no (P := fun c => rk c = rk (o j)) (by omega)]
          · rw [Nat.min_eq_right (by omega), Nat.min_eq_right (by omega)]
        omega
  have e1 := e n (Nat.le_refl _)
  rw [hp, ← gp_st h (by omega), Nat.min_eq_right (by have := h.1 j hj; omega)] at e1
  rw [← e1]
set_option maxRecDepth 20000 in
set_option maxHeartbeats 1000000 in
theorem con8_rounds (d nb nt : Nat) (hnb : nb ≤ 8) (hnt : nt ≤ 40) (r : R8) (hb : r.bl 8 = nI nb) (hc : r.co 8 = nI nt) (q : Nat → Nat) (hp : pts r.po 960 q nt nb) (hs : HS8 r q nb nt) : Con mX8_rounds (d + 5) 0 0 (w8 r) [.ref 100] (fun w' v => ∃ r', w' = w8 r' ∧ Sm ((((((r.bl, r.co), (r.po, r.ha)), ((r.nw, r.gr), r.go)), (((r.tr, r.rw), r.nm), ((r.fm, r.oc), r.ds))), ((((r.ms, r.wd), (r.sc, r.sd)), ((r.ke, r.ro), r.hs)), (((r.gc, r.nb), r.fc), ((r.de, r.si), 0)))) : R8) r' ∧ r'.hs = 1 ∧ ∃ F R o rk st cn, Hd r' q nb nt F R o rk st cn ∧ v = some (.int (nI R))) := by
  refine Con.of (ab_okc rfl (by decide)) (Nat.le_of_ble_eq_true rfl) ?_
  show G ab_x0 mX8_rounds (d + 5) 0 0 _ 0 [some (.ref 100)] [] _
  refine G_aload_n dX8_rounds_0 rfl ?_
  refine G_iconst (v := 0) dX8_rounds_1 (by decide) ?_
  refine G_put (w' := w8 ((((((r.bl, r.co), (r.po, r.ha)), ((r.nw, r.gr), r.go)), (((r.tr, r.rw), r.nm), ((r.fm, r.oc), r.ds))), ((((r.ms, r.wd), (r.sc, r.sd)), ((r.ke, r.ro), r.hs)), (((r.gc, r.nb), r.fc), ((r.de, r.si), 0)))) : R8)) (f := 25) kc9 dX8_rounds_2 fX8_1 (by decide) rfl rfl rfl rfl (Nat.le_of_ble_eq_true rfl) rfl ?_
  refine G_aload_n dX8_rounds_5 rfl ?_
  refine G_V8 (as := []) (st := []) cX8_rounds_6 (con8_makeHashes d nb nt hnb hnt ((((((r.bl, r.co), (r.po, r.ha)), ((r.nw, r.gr), r.go)), (((r.tr, r.rw), r.nm), ((r.fm, r.oc), r.ds))), ((((r.ms, r.wd), (r.sc, r.sd)), ((r.ke, r.ro), r.hs)), (((r.gc, r.nb), r.fc), ((r.de, r.si), 0)))) : R8) hb hc q hp hs) rfl rfl rfl rfl rfl (Nat.le_of_ble_eq_true rfl) dX8_rounds_6 (fun r2 v2 hq => ?_)
  obtain ⟨rfl, hSm, hs2, F, R, o, rk, st, cn, hH⟩ := hq
  refine G_w (st' := []) (w' := w8 r2) rfl rfl ?_
  refine G_aload_n dX8_rounds_9 rfl ?_
  refine G_get (f := 7) kc9 dX8_rounds_10 fX8_278 (by decide) rfl rfl ?_
  refine G_topi hH.2.2.2.1 ?_
  exact G_ret (v := some (.int _)) ⟨dX8_rounds_13, _, rfl, rfl⟩ ⟨r2, rfl, hSm, hs2, F, R, o, rk, st, cn, hH, rfl⟩
set_option maxRecDepth 20000 in
set_option maxHeartbeats 1000000 in
theorem con8_hash (d nb nt : Nat) (hnb : nb ≤ 8) (hnt : nt ≤ 40) (r : R8) (hb : r.bl 8 = nI nb) (hc : r.co 8 = nI nt) (q : Nat → Nat) (hp : pts r.po 960 q nt nb) (hs : HS8 r q nb nt) (x i : Int32) : Con mX8_hash (d + 5) 0 0 (w8 r) [.ref 100, .int x, .int i] (fun w' v => ∃ r', w' = w8 r' ∧ Sm ((((((r.bl, r.co), (r.po, r.ha)), ((r.nw, r.gr), r.go)), (((r.tr, r.rw), r.nm), ((r.fm, r.oc), r.ds))), ((((r.ms, r.wd), (r.sc, r.sd)), ((r.ke, r.ro), r.hs)), (((r.gc, r.nb), r.fc), ((r.de, r.si), 0)))) : R8) r' ∧ r'.hs = 1 ∧ ∃ F R o rk st cn, Hd r' q nb nt F R o rk st cn ∧ (((1 ≤ x.toInt ∧ x.toInt ≤ nb ∧ 0 ≤ i.toInt ∧ i.toInt < 8) ∧ v = some (.int (F ((x.toInt.toNat - 1) * 8 + i.toInt.toNat)))) ∨ ((¬ (1 ≤ x.toInt ∧ x.toInt ≤ nb ∧ 0 ≤ i.toInt ∧ i.toInt < 8)) ∧ v = some (.int 0)))) := by
  refine Con.of (ab_okc rfl (by decide)) (Nat.le_of_ble_eq_true rfl) ?_
  show G ab_x0 mX8_hash (d + 5) 0 0 _ 0 [some (.ref 100), some (.int x), some (.int i)] [] _
  refine G_aload_n dX8_hash_0 rfl ?_
  refine G_iconst (v := 0) dX8_hash_1 (by decide) ?_
  refine G_put (w' := w8 ((((((r.bl, r.co), (r.po, r.ha)), ((r.nw, r.gr), r.go)), (((r.tr, r.rw), r.nm), ((r.fm, r.oc), r.ds))), ((((r.ms, r.wd), (r.sc, r.sd)), ((r.ke, r.ro), r.hs)), (((r.gc, r.nb), r.fc), ((r.de, r.si), 0)))) : R8)) (f := 25) kc9 dX8_hash_2 fX8_1 (by decide) rfl rfl rfl rfl (Nat.le_of_ble_eq_true rfl) rfl ?_
  refine G_aload_n dX8_hash_5 rfl ?_
  refine G_V8 (as := []) (st := []) cX8_hash_6 (con8_makeHashes d nb nt hnb hnt ((((((r.bl, r.co), (r.po, r.ha)), ((r.nw, r.gr), r.go)), (((r.tr, r.rw), r.nm), ((r.fm, r.oc), r.ds))), ((((r.ms, r.wd), (r.sc, r.sd)), ((r.ke, r.ro), r.hs)), (((r.gc, r.nb), r.fc), ((r.de, r.si), 0)))) : R8) hb hc q hp hs) rfl rfl rfl rfl rfl (Nat.le_of_ble_eq_true rfl) dX8_hash_6 (fun r2 v2 hq => ?_)
  obtain ⟨rfl, hSm, hs2, F, R, o, rk, st, cn, hH⟩ := hq
  refine G_w (st' := []) (w' := w8 r2) rfl rfl ?_
  have h0 : (0 : Int32).toInt = 0 := rfl
  have h1 : (1 : Int32).toInt = 1 := rfl
  have h7 : (7 : Int32).toInt = 7 := rfl
  have hb2 : r2.bl 8 = nI nb := by rw [hSm.1]; exact hb
  have hbn : (r2.bl 8).toInt = nb := by rw [hb2]; exact nI_toInt (by omega)
  have no : ¬ (1 ≤ x.toInt ∧ x.toInt ≤ nb ∧ 0 ≤ i.toInt ∧ i.toInt < 8) → G ab_x0 mX8_hash (d + 5) 0 0 (fun w' v => ∃ r', w' = w8 r' ∧ Sm ((((((r.bl, r.co), (r.po, r.ha)), ((r.nw, r.gr), r.go)), (((r.tr, r.rw), r.nm), ((r.fm, r.oc), r.ds))), ((((r.ms, r.wd), (r.sc, r.sd)), ((r.ke, r.ro), r.hs)), (((r.gc, r.nb), r.fc), ((r.de, r.si), 0)))) : R8) r' ∧ r'.hs = 1 ∧ ∃ F R o rk st cn, Hd r' q nb nt F R o rk st cn ∧ (((1 ≤ x.toInt ∧ x.toInt ≤ nb ∧ 0 ≤ i.toInt ∧ i.toInt < 8) ∧ v = some (.int (F ((x.toInt.toNat - 1) * 8 + i.toInt.toNat)))) ∨ ((¬ (1 ≤ x.toInt ∧ x.toInt ≤ nb ∧ 0 ≤ i.toInt ∧ i.toInt < 8)) ∧ v = some (.int 0)))) 35 [some (.ref 100), some (.int x), some (.int i)] [] (w8 r2) := by
    intro h
    refine G_iconst (v := 0) dX8_hash_35 (by decide) ?_
    refine G_goto (tgt := 51) dX8_hash_36 (by decide) ?_
    exact G_ret (v := some (.int _)) ⟨dX8_hash_51, _, rfl, rfl⟩ ⟨r2, rfl, hSm, hs2, F, R, o, rk, st, cn, hH, Or.inr ⟨h, rfl⟩⟩
  refine G_iload_n dX8_hash_9 rfl ?_
  refine G_iconst (v := 1) dX8_hash_10 (by decide) ?_
  refine G_icmp_lt (tgt := 35) dX8_hash_11 (by decide) (fun h => no (by rw [lt_toI, h1] at h; omega)) (fun h3 => ?_)
  rw [lt_toI, h1] at h3
  refine G_iload_n dX8_hash_14 rfl ?_
  refine G_aload_n dX8_hash_15 rfl ?_
  refine G_get (f := 1) kc9 dX8_hash_16 fX8_145 (by decide) rfl rfl ?_
  refine G_bipush (v := 8) dX8_hash_19 (by decide) ?_
  refine G_ialdN (8) dX8_hash_21 rfl rfl (by decide) (by decide) ?_
  refine G_icmp_gt (tgt := 35) dX8_hash_22 (by decide) (fun h => no (by rw [lt_toI, hbn] at h; omega)) (fun h4 => ?_)
  rw [lt_toI, hbn] at h4
  refine G_iload_n dX8_hash_25 rfl ?_
  refine G_if_lt (tgt := 35) dX8_hash_26 (by decide) (fun h => no (by rw [lt_toI, h0] at h; omega)) (fun h5 => ?_)
  rw [lt_toI, h0] at h5
  refine G_iload_n dX8_hash_29 rfl ?_
  refine G_bipush (v := 7) dX8_hash_30 (by decide) ?_
  refine G_icmp_le (tgt := 39) dX8_hash_32 (by decide) (fun h6 => ?_) (fun h => no (by rw [le_toI, h7] at h; omega))
  rw [le_toI, h7] at h6
  have ex : x = nI (x.toInt.toNat - 1 + 1) := by rw [show x.toInt.toNat - 1 + 1 = x.toInt.toNat by omega]; exact nI_rng (by omega)
  have ei : i = nI i.toInt.toNat := nI_rng (by omega)
  refine G_aload_n dX8_hash_39 rfl ?_
  refine G_get (f := 5) kc9 dX8_hash_40 fX8_155 (by decide) rfl rfl ?_
  refine G_bipush (v := 8) dX8_hash_43 (by decide) ?_
  refine G_iload_n dX8_hash_45 rfl ?_
  refine G_imul dX8_hash_46 ?_
  refine G_topi (y := nI (8 * (x.toInt.toNat - 1 + 1))) ((congrArg (fun z => (8 : Int32) * z) ex).trans (pk_mul 8 _)) ?_
  refine G_iload_n dX8_hash_47 rfl ?_
  refine G_iadd dX8_hash_48 ?_
  refine G_laldN (8 * (x.toInt.toNat - 1 + 1) + i.toInt.toNat) dX8_hash_49 rfl ((congrArg (fun z => nI (8 * (x.toInt.toNat - 1 + 1)) + z) ei).trans (nI_add _ _)) (by omega) (by decide) ?_
  refine G_topl (hH.2.1 (x.toInt.toNat - 1) i.toInt.toNat (by omega) (by omega)) ?_
  refine G_l2i dX8_hash_50 ?_
  refine G_topi (zx_t _) ?_
  exact G_ret (v := some (.int _)) ⟨dX8_hash_51, _, rfl, rfl⟩ ⟨r2, rfl, hSm, hs2, F, R, o, rk, st, cn, hH, Or.inl ⟨by omega, rfl⟩⟩
set_option maxRecDepth 20000 in
set_option maxHeartbeats 2000000 in
theorem con8_first (d nb nt : Nat) (hnb : nb ≤ 8) (hnt : nt ≤ 40) (r : R8) (hb : r.bl 8 = nI nb) (hc : r.co 8 = nI nt) (q : Nat → Nat) (hp : pts r.po 960 q nt nb) (hs : HS8 r q nb nt) (g i : Int32) : Con mX8_first (d + 5) 0 0 (w8 r) [.ref 100, .int g, .int i] (fun w' v => ∃ r', w' = w8 r' ∧ Sm ((((((r.bl, r.co), (r.po, r.ha)), ((r.nw, r.gr), r.go)), (((r.tr, r.rw), r.nm), ((r.fm, r.oc), r.ds))), ((((r.ms, r.wd), (r.sc, r.sd)), ((r.ke, r.ro), r.hs)), (((r.gc, r.nb), r.fc), ((r.de, r.si), 0)))) : R8) r' ∧ r'.hs = 1 ∧ ∃ F R o rk st cn, Hd r' q nb nt F R o rk st cn ∧ v = some (.int (if (0 ≤ g.toInt ∧ g.toInt < cn ∧ 0 ≤ i.toInt ∧ i.toInt < (st (g.toInt.toNat + 1) - st g.toInt.toNat : Nat)) then nI (o (st g.toInt.toNat + i.toInt.toNat) + 1) else -1))) := by
  refine Con.of (ab_okc rfl (by decide)) (Nat.le_of_ble_eq_true rfl) ?_
  show G ab_x0 mX8_first (d + 5) 0 0 _ 0 [some (.ref 100), some (.int g), some (.int i), none, none] [] _
  refine G_aload_n dX8_first_0 rfl ?_
  refine G_iconst (v := 0) dX8_first_1 (by decide) ?_
  refine G_put (w' := w8 ((((((r.bl, r.co), (r.po, r.ha)), ((r.nw, r.gr), r.go)), (((r.tr, r.rw), r.nm), ((r.fm, r.oc), r.ds))), ((((r.ms, r.wd), (r.sc, r.sd)), ((r.ke, r.ro), r.hs)), (((r.gc, r.nb), r.fc), ((r.de, r.si), 0)))) : R8)) (f := 25) kc9 dX8_first_2 fX8_1 (by decide) rfl rfl rfl rfl (Nat.le_of_ble_eq_true rfl) rfl ?_
  refine G_aload_n dX8_first_5 rfl ?_
  refine G_V8 (as := []) (st := []) cX8_first_6 (con8_makeHashes d nb nt hnb hnt ((((((r.bl, r.co), (r.po, r.ha)), ((r.nw, r.gr), r.go)), (((r.tr, r.rw), r.nm), ((r.fm, r.oc), r.ds))), ((((r.ms, r.wd), (r.sc, r.sd)), ((r.ke, r.ro), r.hs)), (((r.gc, r.nb), r.fc), ((r.de, r.si), 0)))) : R8) hb hc q hp hs) rfl rfl rfl rfl rfl (Nat.le_of_ble_eq_true rfl) dX8_first_6 (fun r2 v2 hq => ?_)
  obtain ⟨rfl, hSm, hs2, F, R, o, rk, st, cn, hH⟩ := hq
  refine G_w (st' := []) (w' := w8 r2) rfl rfl ?_
  have h0 : (0 : Int32).toInt = 0 := rfl
  have hb2 : r2.bl 8 = nI nb := by rw [hSm.1]; exact hb
  obtain ⟨hH1, hHa, hG, hro, hgc, hgr, hgo⟩ := id hH
  have hcn : cn ≤ nb := hG.2.2.2.2.2.2.2.1
  have hgcI : r2.gc.toInt = cn := by rw [hgc]; exact nI_toInt (by omega)
  have bad : ¬ (0 ≤ g.toInt ∧ g.toInt < cn ∧ 0 ≤ i.toInt ∧ i.toInt < (st (g.toInt.toNat + 1) - st g.toInt.toNat : Nat)) → ∀ pc (L : List (Option Value)), (pc = 25 ∨ pc = 74) → G ab_x0 mX8_first (d + 5) 0 0 (fun w' v => ∃ r', w' = w8 r' ∧ Sm ((((((r.bl, r.co), (r.po, r.ha)), ((r.nw, r.gr), r.go)), (((r.tr, r.rw), r.nm), ((r.fm, r.oc), r.ds))), ((((r.ms, r.wd), (r.sc, r.sd)), ((r.ke, r.ro), r.hs)), (((r.gc, r.nb), r.fc), ((r.de, r.si), 0)))) : R8) r' ∧ r'.hs = 1 ∧ ∃ F R o rk st cn, Hd r' q nb nt F R o rk st cn ∧ v = some (.int (if (0 ≤ g.toInt ∧ g.toInt < cn ∧ 0 ≤ i.toInt ∧ i.toInt < (st (g.toInt.toNat + 1) - st g.toInt.toNat : Nat)) then nI (o (st g.toInt.toNat + i.toInt.toNat) + 1) else -1))) pc L [] (w8 r2) := by
    rintro h pc L (rfl | rfl)
    · refine G_iconst (v := -1) dX8_first_25 (by decide) ?_
      exact G_ret (v := some (.int _)) ⟨dX8_first_26, _, rfl, rfl⟩ ⟨r2, rfl, hSm, hs2, F, R, o, rk, st, cn, hH, by rw [if_neg h]⟩
    · refine G_iconst (v := -1) dX8_first_74 (by decide) ?_
      exact G_ret (v := some (.int _)) ⟨dX8_first_75, _, rfl, rfl⟩ ⟨r2, rfl, hSm, hs2, F, R, o, rk, st, cn, hH, by rw [if_neg h]⟩
  refine G_iload_n dX8_first_9 rfl ?_
  refine G_if_lt (tgt := 25) dX8_first_10 (by decide) (fun h => bad (by rw [lt_toI, h0] at h; omega) 25 _ (Or.inl rfl)) (fun h3 => ?_)
  rw [lt_toI, h0] at h3
  refine G_iload_n dX8_first_13 rfl ?_
  refine G_aload_n dX8_first_14 rfl ?_
  refine G_get (f := 11) kc9 dX8_first_15 fX8_291 (by decide) rfl rfl ?_
  refine G_icmp_ge (tgt := 25) dX8_first_18 (by decide) (fun h => bad (by rw [le_toI, hgcI] at h; omega) 25 _ (Or.inl rfl)) (fun h4 => ?_)
  rw [le_toI, hgcI] at h4
  refine G_iload_n dX8_first_21 rfl ?_
  refine G_if_ge (tgt := 27) dX8_first_22 (by decide) (fun h5 => ?_) (fun h => bad (by rw [le_toI, h0] at h; omega) 25 _ (Or.inl rfl))
  rw [le_toI, h0] at h5
  obtain ⟨g', hg', rfl⟩ : ∃ g', g' < cn ∧ g = nI g' := ⟨g.toInt.toNat, by omega, nI_rng (by omega)⟩
  have eg : (nI g').toInt.toNat = g' := by rw [nI_toInt (by omega)]; rfl
  obtain ⟨i', hi', rfl⟩ : ∃ i', i' < 2 ^ 31 ∧ i = nI i' := by
    refine ⟨i.toInt.toNat, ?_, nI_rng (by omega)⟩
    have := Int32.toInt_lt i
    omega
  have ei : (nI i').toInt.toNat = i' := by rw [nI_toInt (by omega)]; rfl
  have eiI : (nI i').toInt = i' := nI_toInt (by omega)
  have hsz := gp_size hG hg'
  refine G_iload_n dX8_first_27 rfl ?_
  refine G_istore_n (L' := [_, _, _, _, _]) dX8_first_28 (Nat.le_of_ble_eq_true rfl) rfl ?_
  refine G_iconst (v := 1) dX8_first_29 (by decide) ?_
  refine G_istore (L' := [_, _, _, _, _]) dX8_first_30 (Nat.le_of_ble_eq_true rfl) rfl ?_
  have loop : ∀ (k b : Nat), nb - b = k → b ≤ nb → cntP (fun c => rk c = g') 0 b ≤ i' → G ab_x0 mX8_first (d + 5) 0 0 (fun w' v => ∃ r', w' = w8 r' ∧ Sm ((((((r.bl, r.co), (r.po, r.ha)), ((r.nw, r.gr), r.go)), (((r.tr, r.rw), r.nm), ((r.fm, r.oc), r.ds))), ((((r.ms, r.wd), (r.sc, r.sd)), ((r.ke, r.ro), r.hs)), (((r.gc, r.nb), r.fc), ((r.de, r.si), 0)))) : R8) r' ∧ r'.hs = 1 ∧ ∃ F R o rk st cn, Hd r' q nb nt F R o rk st cn ∧ v = some (.int (if (0 ≤ (nI g').toInt ∧ (nI g').toInt < cn ∧ 0 ≤ (nI i').toInt ∧ (nI i').toInt < (st ((nI g').toInt.toNat + 1) - st (nI g').toInt.toNat : Nat)) then nI (o (st (nI g').toInt.toNat + (nI i').toInt.toNat) + 1) else -1))) 32 [some (.ref 100), some (.int (nI g')), some (.int (nI i')), some (.int (nI (i' - cntP (fun c => rk c = g') 0 b))), some (.int (nI (b + 1)))] [] (w8 r2) := by
    intro k
    induction k using Nat.strongRecOn with
    | ind k ih =>
      intro b hk hbn hci
      refine G_iload dX8_first_32 rfl ?_
      refine G_aload_n dX8_first_34 rfl ?_
      refine G_get (f := 1) kc9 dX8_first_35 fX8_145 (by decide) rfl rfl ?_
      refine G_bipush (v := 8) dX8_first_38 (by decide) ?_
      refine G_ialdN (8) dX8_first_40 rfl rfl (by decide) (by decide) ?_
      refine G_icmp_gtN (tgt := 74) (b + 1) nb dX8_first_41 (by decide) rfl hb2 (by omega) (by omega) (fun hgt => ?_) (fun hle => ?_)
      · have eb : b = nb := by omega
        subst eb
        exact bad (by rw [eg, eiI]; omega) 74 _ (Or.inr rfl)
      refine G_aload_n dX8_first_44 rfl ?_
      refine G_get (f := 9) kc9 dX8_first_45 fX8_161 (by decide) rfl rfl ?_
      refine G_iload dX8_first_48 rfl ?_
      refine G_ialdN (b + 1) dX8_first_50 rfl rfl (by omega) (by decide) ?_
      refine G_iload_n dX8_first_51 rfl ?_
      have hrb := hG.2.2.2.1 b (by omega)
      refine G_icmp_eqN (tgt := 58) (rk b) g' dX8_first_52 (by decide) (hgr b (by omega)) rfl (by omega) (by omega) (fun he => ?_) (fun hne => ?_)
      · have e1 : cntP (fun c => rk c = g') 0 (b + 1) = cntP (fun c => rk c = g') 0 b + 1 := cntP_yes ⟨by omega, he⟩
        refine G_iload_n dX8_first_58 rfl ?_
        by_cases hz : i' = cntP (fun c => rk c = g') 0 b
        · refine G_if_ne (tgt := 65) dX8_first_59 (by decide) (fun h => absurd (by rw [hz, Nat.sub_self]; rfl) h) (fun _ => ?_)
          refine G_iload dX8_first_62 rfl ?_
          refine G_ret (v := some (.int _)) ⟨dX8_first_64, _, rfl, rfl⟩ ⟨r2, rfl, hSm, hs2, F, R, o, rk, st, cn, hH, ?_⟩
          have hup := cntP_up (P := fun c => rk c = g') (a := 0) (m := b + 1) (n := nb) (by omega)
          have hid := gp_idx hG (b := b) (by omega)
          rw [he, ← hz] at hid
          rw [if_pos (by rw [eg, eiI, nI_toInt (by omega)]; omega), eg, ei, hid]
        · refine G_if_ne (tgt := 65) dX8_first_59 (by decide) (fun _ => ?_) (fun h => ?_)
          rotate_left
          · exfalso
            have := (nI_eq (a := i' - cntP (fun c => rk c = g') 0 b) (b := 0) (by omega) (by omega)).mp (by first | exact h | exact Decidable.not_not.mp h)
            omega
          refine G_iinc (L' := [_, _, _, _, _]) (v := nI (i' - cntP (fun c => rk c = g') 0 (b + 1))) dX8_first_65 rfl ?_ rfl ?_
          · rw [show i' - cntP (fun c => rk c = g') 0 b = i' - cntP (fun c => rk c = g') 0 (b + 1) + 1 by omega]
            exact pk_m1 _
          refine G_iinc (L' := [_, _, _, _, _]) (v := nI (b + 1 + 1)) dX8_first_68 rfl (nI_1 _) rfl ?_
          refine G_goto (tgt := 32) dX8_first_71 (by decide) ?_
          exact ih (nb - (b + 1)) (by omega) (b + 1) rfl (by omega) (by omega)
      · have e1 : cntP (fun c => rk c = g') 0 (b + 1) = cntP (fun c => rk c = g') 0 b := cntP_no (fun q => hne q.2)
        refine G_goto (tgt := 68) dX8_first_55 (by decide) ?_
        refine G_iinc (L' := [_, _, _, _, _]) (v := nI (b + 1 + 1)) dX8_first_68 rfl (nI_1 _) rfl ?_
        refine G_goto (tgt := 32) dX8_first_71 (by decide) ?_
        have := ih (nb - (b + 1)) (by omega) (b + 1) rfl (by omega) (by omega)
        rw [e1] at this
        exact this
  exact loop nb 0 rfl (by omega) (Nat.zero_le _)
set_option maxRecDepth 20000 in
set_option maxHeartbeats 1000000 in
theorem con8_change (d i j : Nat) (hi : i < 10) (hj : j < 10) (r : R8) : Con mX8_change (d) 0 0 (w8 r) [.ref 100, .int (nI i), .int (nI j)] (fun w' v => ∃ r', w' = w8 r' ∧ v = none ∧ r' = ((((((r.bl, r.co), (r.po, r.ha)), ((r.nw, r.gr), r.go)), (((upd (upd r.tr i (r.tr j)) j (r.tr i), r.rw), r.nm), ((r.fm, r.oc), r.ds))), ((((r.ms, r.wd), (r.sc, r.sd)), ((r.ke, r.ro), r.hs)), (((r.gc, r.nb), r.fc), ((r.de, r.si), r.th)))) : R8)) := by
  refine Con.of (ab_okc rfl (by decide)) (Nat.le_of_ble_eq_true rfl) ?_
  show G ab_x0 mX8_change (d) 0 0 _ 0 [some (.ref 100), some (.int (nI i)), some (.int (nI j)), none] [] _
  refine G_aload_n dX8_change_0 rfl ?_
  refine G_get (f := 12) kc9 dX8_change_1 fX8_167 (by decide) rfl rfl ?_
  refine G_iload_n dX8_change_4 rfl ?_
  refine G_ialdN (i) dX8_change_5 rfl rfl (by omega) (by decide) ?_
  refine G_istore_n (L' := [_, _, _, _]) dX8_change_6 (Nat.le_of_ble_eq_true rfl) rfl ?_
  refine G_aload_n dX8_change_7 rfl ?_
  refine G_get (f := 12) kc9 dX8_change_8 fX8_167 (by decide) rfl rfl ?_
  refine G_iload_n dX8_change_11 rfl ?_
  refine G_aload_n dX8_change_12 rfl ?_
  refine G_get (f := 12) kc9 dX8_change_13 fX8_167 (by decide) rfl rfl ?_
  refine G_iload_n dX8_change_16 rfl ?_
  refine G_ialdN (j) dX8_change_17 rfl rfl (by omega) (by decide) ?_
  refine G_iastN (w' := w8 ((((((r.bl, r.co), (r.po, r.ha)), ((r.nw, r.gr), r.go)), (((upd r.tr i (r.tr j), r.rw), r.nm), ((r.fm, r.oc), r.ds))), ((((r.ms, r.wd), (r.sc, r.sd)), ((r.ke, r.ro), r.hs)), (((r.gc, r.nb), r.fc), ((r.de, r.si), r.th)))) : R8)) (i) dX8_change_18 rfl rfl (by omega) (by decide) rfl ?_
  refine G_aload_n dX8_change_19 rfl ?_
  refine G_get (f := 12) kc9 dX8_change_20 fX8_167 (by decide) rfl rfl ?_
  refine G_iload_n dX8_change_23 rfl ?_
  refine G_iload_n dX8_change_24 rfl ?_
  refine G_iastN (w' := w8 ((((((r.bl, r.co), (r.po, r.ha)), ((r.nw, r.gr), r.go)), (((upd (upd r.tr i (r.tr j)) j (r.tr i), r.rw), r.nm), ((r.fm, r.oc), r.ds))), ((((r.ms, r.wd), (r.sc, r.sd)), ((r.ke, r.ro), r.hs)), (((r.gc, r.nb), r.fc), ((r.de, r.si), r.th)))) : R8)) (j) dX8_change_25 rfl rfl (by omega) (by decide) rfl ?_
  exact G_ret (v := none) ⟨dX8_change_26, rfl⟩ ⟨_, rfl, rfl, rfl⟩
set_option maxRecDepth 20000 in
set_option maxHeartbeats 1000000 in
theorem con8_isNaming (d n : Nat) (hn : n ≤ 8) (r : R8) (h o rk : Nat → Nat) (ht : ∀ c, c < n → r.tr (c + 1) = nI (h c) ∧ 1 ≤ h c ∧ h c ≤ n) (hgr : ∀ b, b < n → r.gr (b + 1) = nI (rk b)) (hgo : ∀ j, j < n → r.go (j + 1) = nI (rk (o j))) (hrk : ∀ b, b < n → rk b < 8) (ho : ∀ j, j < n → o j < n) : Con mX8_isNaming (d) 0 0 (w8 r) [.ref 100, .int (nI n)] (fun w' v => ∃ r', w' = w8 r' ∧ r' = r ∧ (((∀ c, c < n → rk (o (h c - 1)) = rk c) ∧ v = some (.int 1)) ∨ ((¬ (∀ c, c < n → rk (o (h c - 1)) = rk c)) ∧ v = some (.int 0)))) := by
  refine Con.of (ab_okc rfl (by decide)) (Nat.le_of_ble_eq_true rfl) ?_
  show G ab_x0 mX8_isNaming (d) 0 0 _ 0 [some (.ref 100), some (.int (nI n)), none, none] [] _
  refine G_iconst (v := 1) dX8_isNaming_0 (by decide) ?_
  refine G_istore_n (L' := [_, _, _, _]) dX8_isNaming_1 (Nat.le_of_ble_eq_true rfl) rfl ?_
  refine G_iconst (v := 1) dX8_isNaming_2 (by decide) ?_
  refine G_istore_n (L' := [_, _, _, _]) dX8_isNaming_3 (Nat.le_of_ble_eq_true rfl) rfl ?_
  have loop : ∀ (k b : Nat), n - b = k → b ≤ n → (∀ c, c < b → rk (o (h c - 1)) = rk c) → G ab_x0 mX8_isNaming d 0 0 (fun w' v => ∃ r', w' = w8 r' ∧ r' = r ∧ (((∀ c, c < n → rk (o (h c - 1)) = rk c) ∧ v = some (.int 1)) ∨ ((¬ (∀ c, c < n → rk (o (h c - 1)) = rk c)) ∧ v = some (.int 0)))) 4 [some (.ref 100), some (.int (nI n)), some (.int 1), some (.int (nI (b + 1)))] [] (w8 r) := by
    intro k
    induction k using Nat.strongRecOn with
    | ind k ih =>
      intro b hk hb hall
      refine G_iload_n dX8_isNaming_4 rfl ?_
      refine G_iload_n dX8_isNaming_5 rfl ?_
      refine G_icmp_gtN (tgt := 45) (b + 1) n dX8_isNaming_6 (by decide) rfl rfl (by omega) (by omega) (fun hgt => ?_) (fun hle => ?_)
      · refine G_iload_n dX8_isNaming_45 rfl ?_
        exact G_ret (v := some (.int _)) ⟨dX8_isNaming_46, _, rfl, rfl⟩ ⟨r, rfl, rfl, Or.inl ⟨fun c hc => hall c (by omega), rfl⟩⟩
      obtain ⟨t1, t2, t3⟩ := ht b (by omega)
      refine G_iload_n dX8_isNaming_9 rfl ?_
      refine G_if_eq (tgt := 45) dX8_isNaming_10 (by decide) (fun h => absurd h (by decide)) (fun _ => ?_)
      refine G_aload_n dX8_isNaming_13 rfl ?_
      refine G_get (f := 10) kc9 dX8_isNaming_14 fX8_164 (by decide) rfl rfl ?_
      refine G_aload_n dX8_isNaming_17 rfl ?_
      refine G_get (f := 12) kc9 dX8_isNaming_18 fX8_167 (by decide) rfl rfl ?_
      refine G_iload_n dX8_isNaming_21 rfl ?_
      refine G_ialdN (b + 1) dX8_isNaming_22 rfl rfl (by omega) (by decide) ?_
      refine G_ialdN (h b - 1 + 1) dX8_isNaming_23 rfl (t1.trans (congrArg nI (by omega))) (by omega) (by decide) ?_
      refine G_aload_n dX8_isNaming_24 rfl ?_
      refine G_get (f := 9) kc9 dX8_isNaming_25 fX8_161 (by decide) rfl rfl ?_
      refine G_iload_n dX8_isNaming_28 rfl ?_
      refine G_ialdN (b + 1) dX8_isNaming_29 rfl rfl (by omega) (by decide) ?_
      have hr1 := hrk b (by omega)
      have hr2 := hrk (o (h b - 1)) (ho _ (by omega))
      refine G_icmp_neN (tgt := 37) (rk (o (h b - 1))) (rk b) dX8_isNaming_30 (by decide) (hgo _ (by omega)) (hgr b (by omega)) (by omega) (by omega) (fun hne => ?_) (fun heq => ?_)
      · refine G_iconst (v := 0) dX8_isNaming_37 (by decide) ?_
        refine G_istore_n (L' := [_, _, _, _]) dX8_isNaming_38 (Nat.le_of_ble_eq_true rfl) rfl ?_
        refine G_iinc (L' := [_, _, _, _]) (v := nI (b + 1 + 1)) dX8_isNaming_39 rfl (nI_1 _) rfl ?_
        refine G_goto (tgt := 4) dX8_isNaming_42 (by decide) ?_
        have fin : G ab_x0 mX8_isNaming d 0 0 (fun w' v => ∃ r', w' = w8 r' ∧ r' = r ∧ (((∀ c, c < n → rk (o (h c - 1)) = rk c) ∧ v = some (.int 1)) ∨ ((¬ (∀ c, c < n → rk (o (h c - 1)) = rk c)) ∧ v = some (.int 0)))) 45 [some (.ref 100), some (.int (nI n)), some (.int 0), some (.int (nI (b + 1 + 1)))] [] (w8 r) := by
          refine G_iload_n dX8_isNaming_45 rfl ?_
          exact G_ret (v := some (.int _)) ⟨dX8_isNaming_46, _, rfl, rfl⟩ ⟨r, rfl, rfl, Or.inr ⟨fun q => hne (q b (by omega)), rfl⟩⟩
        refine G_iload_n dX8_isNaming_4 rfl ?_
        refine G_iload_n dX8_isNaming_5 rfl ?_
        refine G_icmp_gtN (tgt := 45) (b + 1 + 1) n dX8_isNaming_6 (by decide) rfl rfl (by omega) (by omega) (fun _ => fin) (fun _ => ?_)
        refine G_iload_n dX8_isNaming_9 rfl ?_
        refine G_if_eq (tgt := 45) dX8_isNaming_10 (by decide) (fun _ => fin) (fun h => absurd rfl h)
      · refine G_iconst (v := 1) dX8_isNaming_33 (by decide) ?_
        refine G_goto (tgt := 38) dX8_isNaming_34 (by decide) ?_
        refine G_istore_n (L' := [_, _, _, _]) dX8_isNaming_38 (Nat.le_of_ble_eq_true rfl) rfl ?_
        refine G_iinc (L' := [_, _, _, _]) (v := nI (b + 1 + 1)) dX8_isNaming_39 rfl (nI_1 _) rfl ?_
        refine G_goto (tgt := 4) dX8_isNaming_42 (by decide) ?_
        refine ih (n - (b + 1)) (by omega) (b + 1) rfl (by omega) (fun c hc => ?_)
        by_cases e : c = b
        · rw [e]; exact heq
        · exact hall c (by omega)
  exact loop n 0 rfl (by omega) (fun c hc => by omega)
theorem cmp_kp {A B i : Nat} (hA : A < 2 ^ 30) (hB : B < 2 ^ 30) (hs : ∀ p, p < i → kp A p = kp B p) (hi : i < 3) (hl : kp A i < kp B i) : A < B := by
  unfold kp at *
  match i, hi with
  | 0, _ => simp at hl; omega
  | 1, _ => have := hs 0 (by omega); simp at hl this; omega
  | 2, _ => have := hs 0 (by omega); have := hs 1 (by omega); simp at *; omega
set_option maxRecDepth 20000 in
theorem con8_compareTriplesS (d a b A B : Nat) (ha : a < 40) (hb : b < 40) (f : Nat → Int32) (hA30 : A < 2 ^ 30) (hB30 : B < 2 ^ 30) (hA : ∀ p, p < 3 → f (3 * a + p) = pt A p) (hB : ∀ p, p < 3 → f (3 * b + p) = pt B p) : Con mX8_compareTriples d 0 0 [cI 120 f] [.ref 100, .int (nI a), .ref 100, .int (nI b)] (fun w' v => w' = [cI 120 f] ∧ v = some (.int (cmpN A B))) := by
  refine Con.of (ab_okc rfl (by decide)) (Nat.le_of_ble_eq_true rfl) ?_
  show G ab_x0 mX8_compareTriples d 0 0 _ 0 [some (.ref 100), some (.int (nI a)), some (.ref 100), some (.int (nI b)), none] [] _
  refine G_iconst (v := 0) dX8_compareTriples_0 (by decide) ?_
  refine G_istore (L' := [_, _, _, _, _]) dX8_compareTriples_1 (Nat.le_of_ble_eq_true rfl) rfl ?_
  have loop : ∀ (n i : Nat), 3 - i = n → i ≤ 3 → (∀ p, p < i → kp A p = kp B p) → G ab_x0 mX8_compareTriples d 0 0 (fun w' v => w' = [cI 120 f] ∧ v = some (.int (cmpN A B))) 3 [some (.ref 100), some (.int (nI a)), some (.ref 100), some (.int (nI b)), some (.int (nI i))] [] [cI 120 f] := by
    intro n
    induction n using Nat.strongRecOn with
    | ind n ih =>
      intro i hn hi hs
      refine G_iload dX8_compareTriples_3 rfl ?_
      refine G_iconst (v := 3) dX8_compareTriples_5 (by decide) ?_
      refine G_icmp_geN (tgt := 59) i 3 dX8_compareTriples_6 (by decide) rfl rfl (by omega) (by omega) (fun hge => ?_) (fun hlt => ?_)
      · refine G_iconst (v := 0) dX8_compareTriples_59 (by decide) ?_
        refine G_ret (v := some (.int _)) ⟨dX8_compareTriples_60, _, rfl, rfl⟩ ⟨rfl, ?_⟩
        rw [kp_ext hA30 hB30 (fun p hp => hs p (by omega))]
        simp [cmpN]
      have hAI := pt_toInt (kp_lt A i)
      have hBI := pt_toInt (kp_lt B i)
      refine G_aload_n dX8_compareTriples_9 rfl ?_
      refine G_iconst (v := 3) dX8_compareTriples_10 (by decide) ?_
      refine G_iload_n dX8_compareTriples_11 rfl ?_
      refine G_imul dX8_compareTriples_12 ?_
      refine G_topi (y := nI (3 * a)) (pk_mul 3 a) ?_
      refine G_iload dX8_compareTriples_13 rfl ?_
      refine G_iadd dX8_compareTriples_15 ?_
      refine G_ialdN (3 * a + i) dX8_compareTriples_16 rfl (nI_add _ _) (by omega) (by decide) ?_
      refine G_topi (hA i hlt) ?_
      refine G_aload_n dX8_compareTriples_17 rfl ?_
      refine G_iconst (v := 3) dX8_compareTriples_18 (by decide) ?_
      refine G_iload_n dX8_compareTriples_19 rfl ?_
      refine G_imul dX8_compareTriples_20 ?_
      refine G_topi (y := nI (3 * b)) (pk_mul 3 b) ?_
      refine G_iload dX8_compareTriples_21 rfl ?_
      refine G_iadd dX8_compareTriples_23 ?_
      refine G_ialdN (3 * b + i) dX8_compareTriples_24 rfl (nI_add _ _) (by omega) (by decide) ?_
      refine G_topi (hB i hlt) ?_
      refine G_icmp_eq (tgt := 53) dX8_compareTriples_25 (by decide) (fun he => ?_) (fun he => ?_)
      · refine G_iinc (L' := [_, _, _, _, _]) (v := nI (i + 1)) dX8_compareTriples_53 rfl (nI_1 i) rfl ?_
        refine G_goto (tgt := 3) dX8_compareTriples_56 (by decide) ?_
        refine ih (3 - (i + 1)) (by omega) (i + 1) rfl (by omega) (fun p hp => ?_)
        by_cases e : p = i
        · rw [e]; exact (pt_inj (kp_lt _ _) (kp_lt _ _)).mp he
        · exact hs p (by omega)
      have hne : kp A i ≠ kp B i := fun q => he (congrArg (fun z => nI z - 8) q)
      refine G_aload_n dX8_compareTriples_28 rfl ?_
      refine G_iconst (v := 3) dX8_compareTriples_29 (by decide) ?_
      refine G_iload_n dX8_compareTriples_30 rfl ?_
      refine G_imul dX8_compareTriples_31 ?_
      refine G_topi (y := nI (3 * a)) (pk_mul 3 a) ?_
      refine G_iload dX8_compareTriples_32 rfl ?_
      refine G_iadd dX8_compareTriples_34 ?_
      refine G_ialdN (3 * a + i) dX8_compareTriples_35 rfl (nI_add _ _) (by omega) (by decide) ?_
      refine G_topi (hA i hlt) ?_
      refine G_aload_n dX8_compareTriples_36 rfl ?_
      refine G_iconst (v := 3) dX8_compareTriples_37 (by decide) ?_
      refine G_iload_n dX8_compareTriples_38 rfl ?_
      refine G_imul dX8_compareTriples_39 ?_
      refine G_topi (y := nI (3 * b)) (pk_mul 3 b) ?_
      refine G_iload dX8_compareTriples_40 rfl ?_
      refine G_iadd dX8_compareTriples_42 ?_
      refine G_ialdN (3 * b + i) dX8_compareTriples_43 rfl (nI_add _ _) (by omega) (by decide) ?_
      refine G_topi (hB i hlt) ?_
      refine G_icmp_ge (tgt := 51) dX8_compareTriples_44 (by decide) (fun h2 => ?_) (fun h2 => ?_)
      · refine G_iconst (v := 1) dX8_compareTriples_51 (by decide) ?_
        refine G_ret (v := some (.int _)) ⟨dX8_compareTriples_52, _, rfl, rfl⟩ ⟨rfl, ?_⟩
        rw [le_toI] at h2
        replace h2 : (nI (kp B i) - 8).toInt ≤ (nI (kp A i) - 8).toInt := h2
        rw [hAI, hBI] at h2
        have := cmp_kp hB30 hA30 (fun p hp => (hs p hp).symm) hlt (by omega)
        unfold cmpN
        rw [if_neg (by omega), if_neg (by omega)]
      · refine G_iconst (v := -1) dX8_compareTriples_47 (by decide) ?_
        refine G_goto (tgt := 52) dX8_compareTriples_48 (by decide) ?_
        refine G_ret (v := some (.int _)) ⟨dX8_compareTriples_52, _, rfl, rfl⟩ ⟨rfl, ?_⟩
        rw [le_toI] at h2
        replace h2 : ¬ (nI (kp B i) - 8).toInt ≤ (nI (kp A i) - 8).toInt := h2
        rw [hAI, hBI] at h2
        have := cmp_kp hA30 hB30 hs hlt (by omega)
        unfold cmpN
        rw [if_pos this]
  exact loop 3 0 rfl (by omega) (fun p hp => by omega)
set_option maxRecDepth 20000 in
theorem con8_compareTriplesD (d a b A B : Nat) (ha : a < 40) (hb : b < 40) (f : Nat → Int32) (g : Nat → Int32) (hA30 : A < 2 ^ 30) (hB30 : B < 2 ^ 30) (hA : ∀ p, p < 3 → f (3 * a + p) = pt A p) (hB : ∀ p, p < 3 → g (3 * b + p) = pt B p) : Con mX8_compareTriples d 0 0 [cI 120 f, cI 120 g] [.ref 100, .int (nI a), .ref 101, .int (nI b)] (fun w' v => w' = [cI 120 f, cI 120 g] ∧ v = some (.int (cmpN A B))) := by
  refine Con.of (ab_okc rfl (by decide)) (Nat.le_of_ble_eq_true rfl) ?_
  show G ab_x0 mX8_compareTriples d 0 0 _ 0 [some (.ref 100), some (.int (nI a)), some (.ref 101), some (.int (nI b)), none] [] _
  refine G_iconst (v := 0) dX8_compareTriples_0 (by decide) ?_
  refine G_istore (L' := [_, _, _, _, _]) dX8_compareTriples_1 (Nat.le_of_ble_eq_true rfl) rfl ?_
  have loop : ∀ (n i : Nat), 3 - i = n → i ≤ 3 → (∀ p, p < i → kp A p = kp B p) → G ab_x0 mX8_compareTriples d 0 0 (fun w' v => w' = [cI 120 f, cI 120 g] ∧ v = some (.int (cmpN A B))) 3 [some (.ref 100), some (.int (nI a)), some (.ref 101), some (.int (nI b)), some (.int (nI i))] [] [cI 120 f, cI 120 g] := by
    intro n
    induction n using Nat.strongRecOn with
    | ind n ih =>
      intro i hn hi hs
      refine G_iload dX8_compareTriples_3 rfl ?_
      refine G_iconst (v := 3) dX8_compareTriples_5 (by decide) ?_
      refine G_icmp_geN (tgt := 59) i 3 dX8_compareTriples_6 (by decide) rfl rfl (by omega) (by omega) (fun hge => ?_) (fun hlt => ?_)
      · refine G_iconst (v := 0) dX8_compareTriples_59 (by decide) ?_
        refine G_ret (v := some (.int _)) ⟨dX8_compareTriples_60, _, rfl, rfl⟩ ⟨rfl, ?_⟩
        rw [kp_ext hA30 hB30 (fun p hp => hs p (by omega))]
        simp [cmpN]
      have hAI := pt_toInt (kp_lt A i)
      have hBI := pt_toInt (kp_lt B i)
      refine G_aload_n dX8_compareTriples_9 rfl ?_
      refine G_iconst (v := 3) dX8_compareTriples_10 (by decide) ?_
      refine G_iload_n dX8_compareTriples_11 rfl ?_
      refine G_imul dX8_compareTriples_12 ?_
      refine G_topi (y := nI (3 * a)) (pk_mul 3 a) ?_
      refine G_iload dX8_compareTriples_13 rfl ?_
      refine G_iadd dX8_compareTriples_15 ?_
      refine G_ialdN (3 * a + i) dX8_compareTriples_16 rfl (nI_add _ _) (by omega) (by decide) ?_
      refine G_topi (hA i hlt) ?_
      refine G_aload_n dX8_compareTriples_17 rfl ?_
      refine G_iconst (v := 3) dX8_compareTriples_18 (by decide) ?_
      refine G_iload_n dX8_compareTriples_19 rfl ?_
      refine G_imul dX8_compareTriples_20 ?_
      refine G_topi (y := nI (3 * b)) (pk_mul 3 b) ?_
      refine G_iload dX8_compareTriples_21 rfl ?_
      refine G_iadd dX8_compareTriples_23 ?_
      refine G_ialdN (3 * b + i) dX8_compareTriples_24 rfl (nI_add _ _) (by omega) (by decide) ?_
      refine G_topi (hB i hlt) ?_
      refine G_icmp_eq (tgt := 53) dX8_compareTriples_25 (by decide) (fun he => ?_) (fun he => ?_)
      · refine G_iinc (L' := [_, _, _, _, _]) (v := nI (i + 1)) dX8_compareTriples_53 rfl (nI_1 i) rfl ?_
        refine G_goto (tgt := 3) dX8_compareTriples_56 (by decide) ?_
        refine ih (3 - (i + 1)) (by omega) (i + 1) rfl (by omega) (fun p hp => ?_)
        by_cases e : p = i
        · rw [e]; exact (pt_inj (kp_lt _ _) (kp_lt _ _)).mp he
        · exact hs p (by omega)
      have hne : kp A i ≠ kp B i := fun q => he (congrArg (fun z => nI z - 8) q)
      refine G_aload_n dX8_compareTriples_28 rfl ?_
      refine G_iconst (v := 3) dX8_compareTriples_29 (by decide) ?_
      refine G_iload_n dX8_compareTriples_30 rfl ?_
      refine G_imul dX8_compareTriples_31 ?_
      refine G_topi (y := nI (3 * a)) (pk_mul 3 a) ?_
      refine G_iload dX8_compareTriples_32 rfl ?_
      refine G_iadd dX8_compareTriples_34 ?_
      refine G_ialdN (3 * a + i) dX8_compareTriples_35 rfl (nI_add _ _) (by omega) (by decide) ?_
      refine G_topi (hA i hlt) ?_
      refine G_aload_n dX8_compareTriples_36 rfl ?_
      refine G_iconst (v := 3) dX8_compareTriples_37 (by decide) ?_
      refine G_iload_n dX8_compareTriples_38 rfl ?_
      refine G_imul dX8_compareTriples_39 ?_
      refine G_topi (y := nI (3 * b)) (pk_mul 3 b) ?_
      refine G_iload dX8_compareTriples_40 rfl ?_
      refine G_iadd dX8_compareTriples_42 ?_
      refine G_ialdN (3 * b + i) dX8_compareTriples_43 rfl (nI_add _ _) (by omega) (by decide) ?_
      refine G_topi (hB i hlt) ?_
      refine G_icmp_ge (tgt := 51) dX8_compareTriples_44 (by decide) (fun h2 => ?_) (fun h2 => ?_)
      · refine G_iconst (v := 1) dX8_compareTriples_51 (by decide) ?_
        refine G_ret (v := some (.int _)) ⟨dX8_compareTriples_52, _, rfl, rfl⟩ ⟨rfl, ?_⟩
        rw [le_toI] at h2
        replace h2 : (nI (kp B i) - 8).toInt ≤ (nI (kp A i) - 8).toInt := h2
        rw [hAI, hBI] at h2
        have := cmp_kp hB30 hA30 (fun p hp => (hs p hp).symm) hlt (by omega)
        unfold cmpN
        rw [if_neg (by omega), if_neg (by omega)]
      · refine G_iconst (v := -1) dX8_compareTriples_47 (by decide) ?_
        refine G_goto (tgt := 52) dX8_compareTriples_48 (by decide) ?_
        refine G_ret (v := some (.int _)) ⟨dX8_compareTriples_52, _, rfl, rfl⟩ ⟨rfl, ?_⟩
        rw [le_toI] at h2
        replace h2 : ¬ (nI (kp B i) - 8).toInt ≤ (nI (kp A i) - 8).toInt := h2
        rw [hAI, hBI] at h2
        have := cmp_kp hA30 hB30 hs hlt (by omega)
        unfold cmpN
        rw [if_pos this]
  exact loop 3 0 rfl (by omega) (fun p hp => by omega)
/-- a row of keys in an array of points -/
def hR (f : Nat → Int32) (L : Nat → Nat) (n : Nat) : Prop := ∀ i, i < n → L i < 2 ^ 30 ∧ ∀ p, p < 3 → f (3 * i + p) = pt (L i) p
/-- one row is before another -/
def LtR (a b : Nat → Nat) (n : Nat) : Prop := ∃ k, k < n ∧ (∀ j, j < k → a j = b j) ∧ a k < b k
set_option maxRecDepth 20000 in
set_option maxHeartbeats 1000000 in
theorem con8_compareForm (d nt : Nat) (hnt : nt ≤ 40) (r : R8) (hc : r.co 8 = nI nt) (A B : Nat → Nat) (hA : hR r.rw A nt) (hB : hR r.fm B nt) : Con mX8_compareForm (d + 1) 0 0 (w8 r) [.ref 100] (fun w' v => ∃ r', w' = w8 r' ∧ r' = r ∧ ((LtR A B nt ∧ v = some (.int (-1))) ∨ (LtR B A nt ∧ v = some (.int 1)) ∨ ((∀ k, k < nt → A k = B k) ∧ v = some (.int 0)))) := by
  refine Con.of (ab_okc rfl (by decide)) (Nat.le_of_ble_eq_true rfl) ?_
  show G ab_x0 mX8_compareForm (d + 1) 0 0 _ 0 [some (.ref 100), none, none] [] _
  refine G_iconst (v := 0) dX8_compareForm_0 (by decide) ?_
  refine G_istore_n (L' := [_, _, _]) dX8_compareForm_1 (Nat.le_of_ble_eq_true rfl) rfl ?_
  have loop : ∀ (n k : Nat) (z : Option Value), nt - k = n → k ≤ nt → (∀ j, j < k → A j = B j) → G ab_x0 mX8_compareForm (d + 1) 0 0 (fun w' v => ∃ r', w' = w8 r' ∧ r' = r ∧ ((LtR A B nt ∧ v = some (.int (-1))) ∨ (LtR B A nt ∧ v = some (.int 1)) ∨ ((∀ k, k < nt → A k = B k) ∧ v = some (.int 0)))) 2 [some (.ref 100), some (.int (nI k)), z] [] (w8 r) := by
    intro n
    induction n using Nat.strongRecOn with
    | ind n ih =>
      intro k z hn hk hs
      refine G_iload_n dX8_compareForm_2 rfl ?_
      refine G_aload_n dX8_compareForm_3 rfl ?_
      refine G_get (f := 2) kc9 dX8_compareForm_4 fX8_149 (by decide) rfl rfl ?_
      refine G_bipush (v := 8) dX8_compareForm_7 (by decide) ?_
      refine G_ialdN (8) dX8_compareForm_9 rfl rfl (by decide) (by decide) ?_
      refine G_icmp_geN (tgt := 39) k nt dX8_compareForm_10 (by decide) rfl hc (by omega) (by omega) (fun hge => ?_) (fun hlt => ?_)
      · refine G_iconst (v := 0) dX8_compareForm_39 (by decide) ?_
        exact G_ret (v := some (.int _)) ⟨dX8_compareForm_40, _, rfl, rfl⟩ ⟨r, rfl, rfl, Or.inr (Or.inr ⟨fun j hj => hs j (by omega), rfl⟩)⟩
      refine G_aload_n dX8_compareForm_13 rfl ?_
      refine G_get (f := 13) kc9 dX8_compareForm_14 fX8_170 (by decide) rfl rfl ?_
      refine G_iload_n dX8_compareForm_17 rfl ?_
      refine G_aload_n dX8_compareForm_18 rfl ?_
      refine G_get (f := 16) kc9 dX8_compareForm_19 fX8_176 (by decide) rfl rfl ?_
      refine G_iload_n dX8_compareForm_22 rfl ?_
      refine G_S (is := [10, 12]) (fo := []) (as := [.ref 100, .int (nI k), .ref 101, .int (nI k)]) (as' := [.ref 110, .int (nI k), .ref 112, .int (nI k)]) (st := []) (k := 0) (n := 0) cX8_compareForm_23 (con8_compareTriplesD d k k (A k) (B k) (by omega) (by omega) r.rw r.fm (hA k hlt).1 (hB k hlt).1 (hA k hlt).2 (hB k hlt).2) ab_pfx rfl (by decide) rfl rfl rfl rfl (Nat.le_of_ble_eq_true rfl) dX8_compareForm_23 (fun w' v h => by rw [h.1]) (fun w2 v2 hq => ?_)
      obtain ⟨rfl, rfl⟩ := hq
      refine G_w (st' := [.int (cmpN (A k) (B k))]) (w' := w8 r) rfl rfl ?_
      refine G_istore_n (L' := [_, _, _]) dX8_compareForm_26 (Nat.le_of_ble_eq_true rfl) rfl ?_
      refine G_iload_n dX8_compareForm_27 rfl ?_
      refine G_if_eq (tgt := 33) dX8_compareForm_28 (by decide) (fun he => ?_) (fun he => ?_)
      · refine G_iinc (L' := [_, _, _]) (v := nI (k + 1)) dX8_compareForm_33 rfl (nI_1 _) rfl ?_
        refine G_goto (tgt := 2) dX8_compareForm_36 (by decide) ?_
        refine ih (nt - (k + 1)) (by omega) (k + 1) _ rfl (by omega) (fun j hj => ?_)
        by_cases e : j = k
        · rw [e]; exact cmpN_0.mp he
        · exact hs j (by omega)
      refine G_iload_n dX8_compareForm_31 rfl ?_
      refine G_ret (v := some (.int _)) ⟨dX8_compareForm_32, _, rfl, rfl⟩ ⟨r, rfl, rfl, ?_⟩
      rcases Nat.lt_trichotomy (A k) (B k) with q | q | q
      · exact Or.inl ⟨⟨k, hlt, hs, q⟩, by unfold cmpN; rw [if_pos q]⟩
      · exact absurd (cmpN_0.mpr q) he
      · exact Or.inr (Or.inl ⟨⟨k, hlt, fun j hj => (hs j hj).symm, q⟩, by unfold cmpN; rw [if_neg (by omega), if_neg (by omega)]⟩)
  exact loop nt 0 none rfl (by omega) (fun j hj => by omega)
