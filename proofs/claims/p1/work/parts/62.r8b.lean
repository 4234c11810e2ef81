/-! The reference: drop, named, form, octet, keep, numbered, begin, becomes, equal. -/
def shl3 (f : Nat → Int32) (a b : Nat) : Nat → Int32 := fun i => if a ≤ i ∧ i < b then f (i + 3) else f i
theorem shl3_0 (f : Nat → Int32) (a : Nat) : shl3 f a a = f := by funext i; unfold shl3; rw [if_neg (by omega)]
theorem shl3_s (f : Nat → Int32) {a t : Nat} (h : a ≤ t) : upd (shl3 f a t) t (shl3 f a t (t + 3)) = shl3 f a (t + 1) := by
  funext i
  unfold shl3 upd
  by_cases e : i = t
  · subst e; rw [if_pos rfl, if_neg (by omega), if_pos (by omega)]
  · rw [if_neg e]
    dsimp only
    by_cases h2 : a ≤ i ∧ i < t
    · rw [if_pos h2, if_pos (by omega)]
    · rw [if_neg h2, if_neg (by omega)]
def cpk (f : Nat → Int32) (g t : Nat) : Nat → Int32 := fun i => if 120 * g ≤ i ∧ i < 120 * g + t then f (960 + (i - 120 * g)) else f i
theorem cpk_0 (f : Nat → Int32) (g : Nat) : cpk f g 0 = f := by funext i; unfold cpk; rw [if_neg (by omega)]
theorem cpk_s (f : Nat → Int32) {g t : Nat} (hg : g < 8) (ht : t < 120) : upd (cpk f g t) (120 * g + t) (cpk f g t (960 + t)) = cpk f g (t + 1) := by
  funext i
  unfold cpk upd
  by_cases e : i = 120 * g + t
  · subst e; rw [if_pos rfl, if_neg (by omega), if_pos (by omega), show 120 * g + t - 120 * g = t by omega]
  · rw [if_neg e]
    dsimp only
    by_cases h2 : 120 * g ≤ i ∧ i < 120 * g + t
    · rw [if_pos h2, if_pos (by omega)]
    · rw [if_neg h2, if_neg (by omega)]
set_option maxRecDepth 20000 in
set_option maxHeartbeats 1000000 in
theorem con8_drop (d nt : Nat) (r : R8) (hc : r.co 8 = nI nt) (hnt : nt ≤ 40) (s p o : Int32) : Con mX8_drop (d + 2) 0 0 (w8 r) [.ref 100, .int s, .int p, .int o] (fun w' v => ∃ r', w' = w8 r' ∧ (((∃ j, j < nt ∧ tri r.po (960 + 3 * j) s p o ∧ r' = ((((((r.bl, upd r.co 8 (nI (nt - 1))), (shl3 r.po (960 + 3 * j) (960 + 3 * (nt - 1)), r.ha)), ((r.nw, r.gr), r.go)), (((r.tr, r.rw), r.nm), ((r.fm, r.oc), r.ds))), ((((r.ms, r.wd), (r.sc, r.sd)), ((r.ke, r.ro), 0)), (((r.gc, r.nb), r.fc), ((r.de, r.si), 0)))) : R8)) ∧ v = some (.int 1)) ∨ ((∀ j, j < nt → ¬ tri r.po (960 + 3 * j) s p o) ∧ r' = ((((((r.bl, r.co), (r.po, r.ha)), ((r.nw, r.gr), r.go)), (((r.tr, r.rw), r.nm), ((r.fm, r.oc), r.ds))), ((((r.ms, r.wd), (r.sc, r.sd)), ((r.ke, r.ro), r.hs)), (((r.gc, r.nb), r.fc), ((r.de, r.si), 0)))) : R8) ∧ v = some (.int 0)))) := by
  refine Con.of (ab_okc rfl (by decide)) (Nat.le_of_ble_eq_true rfl) ?_
  show G ab_x0 mX8_drop (d + 2) 0 0 _ 0 [some (.ref 100), some (.int s), some (.int p), some (.int o), none, none] [] _
  refine G_aload_n dX8_drop_0 rfl ?_
  refine G_iconst (v := 0) dX8_drop_1 (by decide) ?_
  refine G_put (w' := w8 ((((((r.bl, r.co), (r.po, r.ha)), ((r.nw, r.gr), r.go)), (((r.tr, r.rw), r.nm), ((r.fm, r.oc), r.ds))), ((((r.ms, r.wd), (r.sc, r.sd)), ((r.ke, r.ro), r.hs)), (((r.gc, r.nb), r.fc), ((r.de, r.si), 0)))) : R8)) (f := 25) kc9 dX8_drop_2 fX8_1 (by decide) rfl rfl rfl rfl (Nat.le_of_ble_eq_true rfl) rfl ?_
  refine G_aload_n dX8_drop_5 rfl ?_
  refine G_bipush (v := 8) dX8_drop_6 (by decide) ?_
  refine G_iload_n dX8_drop_8 rfl ?_
  refine G_iload_n dX8_drop_9 rfl ?_
  refine G_iload_n dX8_drop_10 rfl ?_
  refine G_V8 (as := [.int (nI 8), .int s, .int p, .int o]) (st := []) cX8_drop_11 (con8_find d 8 nt ((((((r.bl, r.co), (r.po, r.ha)), ((r.nw, r.gr), r.go)), (((r.tr, r.rw), r.nm), ((r.fm, r.oc), r.ds))), ((((r.ms, r.wd), (r.sc, r.sd)), ((r.ke, r.ro), r.hs)), (((r.gc, r.nb), r.fc), ((r.de, r.si), 0)))) : R8) (by omega) hc hnt s p o) rfl rfl rfl rfl rfl (Nat.le_of_ble_eq_true rfl) dX8_drop_11 (fun r2 v2 hq => ?_)
  obtain ⟨rfl, hq⟩ := hq
  rcases hq with ⟨j, hj, htri, rfl⟩ | ⟨hno, rfl⟩
  rotate_left
  · refine G_w (st' := [.int (-1)]) (w' := w8 ((((((r.bl, r.co), (r.po, r.ha)), ((r.nw, r.gr), r.go)), (((r.tr, r.rw), r.nm), ((r.fm, r.oc), r.ds))), ((((r.ms, r.wd), (r.sc, r.sd)), ((r.ke, r.ro), r.hs)), (((r.gc, r.nb), r.fc), ((r.de, r.si), 0)))) : R8)) rfl rfl ?_
    refine G_istore (L' := [_, _, _, _, _, _]) dX8_drop_14 (Nat.le_of_ble_eq_true rfl) rfl ?_
    refine G_iload dX8_drop_16 rfl ?_
    refine G_if_ge (tgt := 23) dX8_drop_18 (by decide) (fun h => absurd h (by decide)) (fun _ => ?_)
    refine G_iconst (v := 0) dX8_drop_21 (by decide) ?_
    exact G_ret (v := some (.int _)) ⟨dX8_drop_22, _, rfl, rfl⟩ ⟨_, rfl, Or.inr ⟨hno, rfl, rfl⟩⟩
  refine G_w (st' := [.int (nI j)]) (w' := w8 ((((((r.bl, r.co), (r.po, r.ha)), ((r.nw, r.gr), r.go)), (((r.tr, r.rw), r.nm), ((r.fm, r.oc), r.ds))), ((((r.ms, r.wd), (r.sc, r.sd)), ((r.ke, r.ro), r.hs)), (((r.gc, r.nb), r.fc), ((r.de, r.si), 0)))) : R8)) rfl rfl ?_
  refine G_istore (L' := [_, _, _, _, _, _]) dX8_drop_14 (Nat.le_of_ble_eq_true rfl) rfl ?_
  refine G_iload dX8_drop_16 rfl ?_
  refine G_if_ge (tgt := 23) dX8_drop_18 (by decide) (fun _ => ?_) (fun h => absurd (nI_pos' (by omega)) h)
  refine G_aload_n dX8_drop_23 rfl ?_
  refine G_get (f := 2) kc9 dX8_drop_24 fX8_149 (by decide) rfl rfl ?_
  refine G_bipush (v := 8) dX8_drop_27 (by decide) ?_
  refine G_dup2 dX8_drop_29 rfl rfl ?_
  refine G_ialdN (8) dX8_drop_30 rfl rfl (by decide) (by decide) ?_
  refine G_iconst (v := 1) dX8_drop_31 (by decide) ?_
  refine G_isub dX8_drop_32 ?_
  refine G_topi (y := nI (nt - 1)) ((congrArg (· - 1) hc).trans (pk_sub (b := 1) (by omega))) ?_
  refine G_iastN (w' := w8 ((((((r.bl, upd r.co 8 (nI (nt - 1))), (r.po, r.ha)), ((r.nw, r.gr), r.go)), (((r.tr, r.rw), r.nm), ((r.fm, r.oc), r.ds))), ((((r.ms, r.wd), (r.sc, r.sd)), ((r.ke, r.ro), r.hs)), (((r.gc, r.nb), r.fc), ((r.de, r.si), 0)))) : R8)) (8) dX8_drop_33 rfl rfl (by decide) (by decide) rfl ?_
  refine G_bipush (v := 8) dX8_drop_34 (by decide) ?_
  refine G_iload dX8_drop_36 rfl ?_
  refine G_S (is := []) (fo := []) (as := [.int (nI 8), .int (nI j)]) (as' := [.int (nI 8), .int (nI j)]) (st := []) (k := 0) (n := 0) cX8_drop_38 (con8_at _ 8 j (by omega) (by omega)) ab_pfx rfl (by decide) rfl rfl rfl rfl (Nat.le_of_ble_eq_true rfl) dX8_drop_38 (fun w' v h => by rw [h.1]) (fun w2 v2 hq => ?_)
  obtain ⟨rfl, rfl⟩ := hq
  refine G_w (st' := [.int (nI (960 + 3 * j))]) (w' := w8 ((((((r.bl, upd r.co 8 (nI (nt - 1))), (r.po, r.ha)), ((r.nw, r.gr), r.go)), (((r.tr, r.rw), r.nm), ((r.fm, r.oc), r.ds))), ((((r.ms, r.wd), (r.sc, r.sd)), ((r.ke, r.ro), r.hs)), (((r.gc, r.nb), r.fc), ((r.de, r.si), 0)))) : R8)) rfl rfl ?_
  refine G_istore (L' := [_, _, _, _, _, _]) dX8_drop_41 (Nat.le_of_ble_eq_true rfl) rfl ?_
  have loop : ∀ (n i : Nat), 960 + 3 * (nt - 1) - i = n → 960 + 3 * j ≤ i → i ≤ 960 + 3 * (nt - 1) → G ab_x0 mX8_drop (d + 2) 0 0 (fun w' v => ∃ r', w' = w8 r' ∧ (((∃ j, j < nt ∧ tri r.po (960 + 3 * j) s p o ∧ r' = ((((((r.bl, upd r.co 8 (nI (nt - 1))), (shl3 r.po (960 + 3 * j) (960 + 3 * (nt - 1)), r.ha)), ((r.nw, r.gr), r.go)), (((r.tr, r.rw), r.nm), ((r.fm, r.oc), r.ds))), ((((r.ms, r.wd), (r.sc, r.sd)), ((r.ke, r.ro), 0)), (((r.gc, r.nb), r.fc), ((r.de, r.si), 0)))) : R8)) ∧ v = some (.int 1)) ∨ ((∀ j, j < nt → ¬ tri r.po (960 + 3 * j) s p o) ∧ r' = ((((((r.bl, r.co), (r.po, r.ha)), ((r.nw, r.gr), r.go)), (((r.tr, r.rw), r.nm), ((r.fm, r.oc), r.ds))), ((((r.ms, r.wd), (r.sc, r.sd)), ((r.ke, r.ro), r.hs)), (((r.gc, r.nb), r.fc), ((r.de, r.si), 0)))) : R8) ∧ v = some (.int 0)))) 43 [some (.ref 100), some (.int s), some (.int p), some (.int o), some (.int (nI j)), some (.int (nI i))] [] (w8 ((((((r.bl, upd r.co 8 (nI (nt - 1))), (shl3 r.po (960 + 3 * j) i, r.ha)), ((r.nw, r.gr), r.go)), (((r.tr, r.rw), r.nm), ((r.fm, r.oc), r.ds))), ((((r.ms, r.wd), (r.sc, r.sd)), ((r.ke, r.ro), r.hs)), (((r.gc, r.nb), r.fc), ((r.de, r.si), 0)))) : R8)) := by
    intro n
    induction n using Nat.strongRecOn with
    | ind n ih =>
      intro i hn hi hi2
      refine G_iload dX8_drop_43 rfl ?_
      refine G_bipush (v := 8) dX8_drop_45 (by decide) ?_
      refine G_aload_n dX8_drop_47 rfl ?_
      refine G_get (f := 2) kc9 dX8_drop_48 fX8_149 (by decide) rfl rfl ?_
      refine G_bipush (v := 8) dX8_drop_51 (by decide) ?_
      refine G_ialdN (8) dX8_drop_53 rfl rfl (by decide) (by decide) ?_
      refine G_topi (y := nI (nt - 1)) (show upd r.co 8 (nI (nt - 1)) 8 = _ from pk_us) ?_
      refine G_S (is := []) (fo := []) (as := [.int (nI 8), .int (nI (nt - 1))]) (as' := [.int (nI 8), .int (nI (nt - 1))]) (st := [.int (nI i)]) (k := 0) (n := 0) cX8_drop_54 (con8_at _ 8 (nt - 1) (by omega) (by omega)) ab_pfx rfl (by decide) rfl rfl rfl rfl (Nat.le_of_ble_eq_true rfl) dX8_drop_54 (fun w' v h => by rw [h.1]) (fun w2 v2 hq => ?_)
      obtain ⟨rfl, rfl⟩ := hq
      refine G_w (st' := [.int (nI (960 + 3 * (nt - 1))), .int (nI i)]) (w' := w8 ((((((r.bl, upd r.co 8 (nI (nt - 1))), (shl3 r.po (960 + 3 * j) i, r.ha)), ((r.nw, r.gr), r.go)), (((r.tr, r.rw), r.nm), ((r.fm, r.oc), r.ds))), ((((r.ms, r.wd), (r.sc, r.sd)), ((r.ke, r.ro), r.hs)), (((r.gc, r.nb), r.fc), ((r.de, r.si), 0)))) : R8)) rfl rfl ?_
      refine G_icmp_geN (tgt := 82) i (960 + 3 * (nt - 1)) dX8_drop_57 (by decide) rfl rfl (by omega) (by omega) (fun h => ?_) (fun h => ?_)
      · have e : i = 960 + 3 * (nt - 1) := by omega
        subst e
        refine G_aload_n dX8_drop_82 rfl ?_
        refine G_iconst (v := 0) dX8_drop_83 (by decide) ?_
        refine G_put (w' := w8 ((((((r.bl, upd r.co 8 (nI (nt - 1))), (shl3 r.po (960 + 3 * j) (960 + 3 * (nt - 1)), r.ha)), ((r.nw, r.gr), r.go)), (((r.tr, r.rw), r.nm), ((r.fm, r.oc), r.ds))), ((((r.ms, r.wd), (r.sc, r.sd)), ((r.ke, r.ro), 0)), (((r.gc, r.nb), r.fc), ((r.de, r.si), 0)))) : R8)) (f := 8) kc9 dX8_drop_84 fX8_241 (by decide) rfl (by decide) (by decide) rfl (Nat.le_of_ble_eq_true rfl) rfl ?_
        refine G_iconst (v := 1) dX8_drop_87 (by decide) ?_
        exact G_ret (v := some (.int _)) ⟨dX8_drop_88, _, rfl, rfl⟩ ⟨_, rfl, Or.inl ⟨⟨j, hj, htri, rfl⟩, rfl⟩⟩
      refine G_aload_n dX8_drop_60 rfl ?_
      refine G_get (f := 3) kc9 dX8_drop_61 fX8_152 (by decide) rfl rfl ?_
      refine G_iload dX8_drop_64 rfl ?_
      refine G_aload_n dX8_drop_66 rfl ?_
      refine G_get (f := 3) kc9 dX8_drop_67 fX8_152 (by decide) rfl rfl ?_
      refine G_iload dX8_drop_70 rfl ?_
      refine G_iconst (v := 3) dX8_drop_72 (by decide) ?_
      refine G_iadd dX8_drop_73 ?_
      refine G_ialdN (i + 3) dX8_drop_74 rfl (nI_add i 3) (by omega) (by decide) ?_
      refine G_iastN (w' := w8 ((((((r.bl, upd r.co 8 (nI (nt - 1))), (upd (shl3 r.po (960 + 3 * j) i) i (shl3 r.po (960 + 3 * j) i (i + 3)), r.ha)), ((r.nw, r.gr), r.go)), (((r.tr, r.rw), r.nm), ((r.fm, r.oc), r.ds))), ((((r.ms, r.wd), (r.sc, r.sd)), ((r.ke, r.ro), r.hs)), (((r.gc, r.nb), r.fc), ((r.de, r.si), 0)))) : R8)) (i) dX8_drop_75 rfl rfl (by omega) (by decide) rfl ?_
      refine G_w (st' := []) (w' := w8 ((((((r.bl, upd r.co 8 (nI (nt - 1))), (shl3 r.po (960 + 3 * j) (i + 1), r.ha)), ((r.nw, r.gr), r.go)), (((r.tr, r.rw), r.nm), ((r.fm, r.oc), r.ds))), ((((r.ms, r.wd), (r.sc, r.sd)), ((r.ke, r.ro), r.hs)), (((r.gc, r.nb), r.fc), ((r.de, r.si), 0)))) : R8)) rfl (by rw [shl3_s _ hi]) ?_
      refine G_iinc (L' := [_, _, _, _, _, _]) (v := nI (i + 1)) dX8_drop_76 rfl (nI_1 i) rfl ?_
      refine G_goto (tgt := 43) dX8_drop_79 (by decide) ?_
      exact ih (960 + 3 * (nt - 1) - (i + 1)) (by omega) (i + 1) rfl (by omega) (by omega)
  refine G_w (st' := []) (w' := w8 ((((((r.bl, upd r.co 8 (nI (nt - 1))), (shl3 r.po (960 + 3 * j) (960 + 3 * j), r.ha)), ((r.nw, r.gr), r.go)), (((r.tr, r.rw), r.nm), ((r.fm, r.oc), r.ds))), ((((r.ms, r.wd), (r.sc, r.sd)), ((r.ke, r.ro), r.hs)), (((r.gc, r.nb), r.fc), ((r.de, r.si), 0)))) : R8)) rfl (by rw [shl3_0]) ?_
  exact loop _ _ rfl (by omega) (by omega)
set_option maxRecDepth 20000 in
set_option maxHeartbeats 1000000 in
theorem con8_named (d n : Nat) (r : R8) (hn : r.nb = nI n) (hn8 : n ≤ 8) (x : Int32) : Con mX8_named (d) 0 0 (w8 r) [.ref 100, .int x] (fun w' v => ∃ r', w' = w8 r' ∧ r' = ((((((r.bl, r.co), (r.po, r.ha)), ((r.nw, r.gr), r.go)), (((r.tr, r.rw), r.nm), ((r.fm, r.oc), r.ds))), ((((r.ms, r.wd), (r.sc, r.sd)), ((r.ke, r.ro), r.hs)), (((r.gc, r.nb), r.fc), ((r.de, r.si), 0)))) : R8) ∧ (((1 ≤ x.toInt ∧ x.toInt ≤ n) ∧ v = some (.int (r.nm x.toInt.toNat))) ∨ ((¬ (1 ≤ x.toInt ∧ x.toInt ≤ n)) ∧ v = some (.int (-1))))) := by
  refine Con.of (ab_okc rfl (by decide)) (Nat.le_of_ble_eq_true rfl) ?_
  show G ab_x0 mX8_named (d) 0 0 _ 0 [some (.ref 100), some (.int x)] [] _
  have h1 : (1 : Int32).toInt = 1 := rfl
  have hn' : r.nb.toInt = n := by rw [hn]; exact nI_toInt (by omega)
  have no : ¬ (1 ≤ x.toInt ∧ x.toInt ≤ n) → G ab_x0 mX8_named d 0 0 (fun w' v => ∃ r', w' = w8 r' ∧ r' = ((((((r.bl, r.co), (r.po, r.ha)), ((r.nw, r.gr), r.go)), (((r.tr, r.rw), r.nm), ((r.fm, r.oc), r.ds))), ((((r.ms, r.wd), (r.sc, r.sd)), ((r.ke, r.ro), r.hs)), (((r.gc, r.nb), r.fc), ((r.de, r.si), 0)))) : R8) ∧ (((1 ≤ x.toInt ∧ x.toInt ≤ n) ∧ v = some (.int (r.nm x.toInt.toNat))) ∨ ((¬ (1 ≤ x.toInt ∧ x.toInt ≤ n)) ∧ v = some (.int (-1))))) 27 [some (.ref 100), some (.int x)] [] (w8 ((((((r.bl, r.co), (r.po, r.ha)), ((r.nw, r.gr), r.go)), (((r.tr, r.rw), r.nm), ((r.fm, r.oc), r.ds))), ((((r.ms, r.wd), (r.sc, r.sd)), ((r.ke, r.ro), r.hs)), (((r.gc, r.nb), r.fc), ((r.de, r.si), 0)))) : R8)) := by
    intro h
    refine G_iconst (v := -1) dX8_named_27 (by decide) ?_
    exact G_ret (v := some (.int _)) ⟨dX8_named_28, _, rfl, rfl⟩ ⟨_, rfl, rfl, Or.inr ⟨h, rfl⟩⟩
  refine G_aload_n dX8_named_0 rfl ?_
  refine G_iconst (v := 0) dX8_named_1 (by decide) ?_
  refine G_put (w' := w8 ((((((r.bl, r.co), (r.po, r.ha)), ((r.nw, r.gr), r.go)), (((r.tr, r.rw), r.nm), ((r.fm, r.oc), r.ds))), ((((r.ms, r.wd), (r.sc, r.sd)), ((r.ke, r.ro), r.hs)), (((r.gc, r.nb), r.fc), ((r.de, r.si), 0)))) : R8)) (f := 25) kc9 dX8_named_2 fX8_1 (by decide) rfl rfl rfl rfl (Nat.le_of_ble_eq_true rfl) rfl ?_
  refine G_iload_n dX8_named_5 rfl ?_
  refine G_iconst (v := 1) dX8_named_6 (by decide) ?_
  refine G_icmp_lt (tgt := 27) dX8_named_7 (by decide) (fun h => no (by rw [lt_toI, h1] at h; omega)) (fun h => ?_)
  rw [lt_toI, h1] at h
  refine G_iload_n dX8_named_10 rfl ?_
  refine G_aload_n dX8_named_11 rfl ?_
  refine G_get (f := 15) kc9 dX8_named_12 fX8_331 (by decide) rfl rfl ?_
  refine G_icmp_gt (tgt := 27) dX8_named_15 (by decide) (fun h2 => no (by rw [lt_toI] at h2; replace h2 : r.nb.toInt < x.toInt := h2; omega)) (fun h2 => ?_)
  rw [lt_toI] at h2
  replace h2 : ¬ r.nb.toInt < x.toInt := h2
  refine G_aload_n dX8_named_18 rfl ?_
  refine G_get (f := 14) kc9 dX8_named_19 fX8_173 (by decide) rfl rfl ?_
  refine G_iload_n dX8_named_22 rfl ?_
  refine G_ialdN (x.toInt.toNat) dX8_named_23 rfl (nI_rng (by omega)) (by omega) (by decide) ?_
  refine G_goto (tgt := 28) dX8_named_24 (by decide) ?_
  exact G_ret (v := some (.int _)) ⟨dX8_named_28, _, rfl, rfl⟩ ⟨_, rfl, rfl, Or.inl ⟨by omega, rfl⟩⟩
set_option maxRecDepth 20000 in
set_option maxHeartbeats 1000000 in
theorem con8_form (d n : Nat) (r : R8) (hn : r.fc = nI n) (hn8 : n ≤ 40) (i k : Int32) : Con mX8_form (d) 0 0 (w8 r) [.ref 100, .int i, .int k] (fun w' v => ∃ r', w' = w8 r' ∧ r' = ((((((r.bl, r.co), (r.po, r.ha)), ((r.nw, r.gr), r.go)), (((r.tr, r.rw), r.nm), ((r.fm, r.oc), r.ds))), ((((r.ms, r.wd), (r.sc, r.sd)), ((r.ke, r.ro), r.hs)), (((r.gc, r.nb), r.fc), ((r.de, r.si), 0)))) : R8) ∧ (((0 ≤ i.toInt ∧ i.toInt < n ∧ 0 ≤ k.toInt ∧ k.toInt ≤ 2) ∧ v = some (.int (r.fm (3 * i.toInt.toNat + k.toInt.toNat)))) ∨ ((¬ (0 ≤ i.toInt ∧ i.toInt < n ∧ 0 ≤ k.toInt ∧ k.toInt ≤ 2)) ∧ v = some (.int 0)))) := by
  refine Con.of (ab_okc rfl (by decide)) (Nat.le_of_ble_eq_true rfl) ?_
  show G ab_x0 mX8_form (d) 0 0 _ 0 [some (.ref 100), some (.int i), some (.int k)] [] _
  have h0 : (0 : Int32).toInt = 0 := rfl
  have h2' : (2 : Int32).toInt = 2 := rfl
  have hn' : r.fc.toInt = n := by rw [hn]; exact nI_toInt (by omega)
  have no : ¬ (0 ≤ i.toInt ∧ i.toInt < n ∧ 0 ≤ k.toInt ∧ k.toInt ≤ 2) → G ab_x0 mX8_form d 0 0 (fun w' v => ∃ r', w' = w8 r' ∧ r' = ((((((r.bl, r.co), (r.po, r.ha)), ((r.nw, r.gr), r.go)), (((r.tr, r.rw), r.nm), ((r.fm, r.oc), r.ds))), ((((r.ms, r.wd), (r.sc, r.sd)), ((r.ke, r.ro), r.hs)), (((r.gc, r.nb), r.fc), ((r.de, r.si), 0)))) : R8) ∧ (((0 ≤ i.toInt ∧ i.toInt < n ∧ 0 ≤ k.toInt ∧ k.toInt ≤ 2) ∧ v = some (.int (r.fm (3 * i.toInt.toNat + k.toInt.toNat)))) ∨ ((¬ (0 ≤ i.toInt ∧ i.toInt < n ∧ 0 ≤ k.toInt ∧ k.toInt ≤ 2)) ∧ v = some (.int 0)))) 26 [some (.ref 100), some (.int i), some (.int k)] [] (w8 ((((((r.bl, r.co), (r.po, r.ha)), ((r.nw, r.gr), r.go)), (((r.tr, r.rw), r.nm), ((r.fm, r.oc), r.ds))), ((((r.ms, r.wd), (r.sc, r.sd)), ((r.ke, r.ro), r.hs)), (((r.gc, r.nb), r.fc), ((r.de, r.si), 0)))) : R8)) := by
    intro h
    refine G_iconst (v := 0) dX8_form_26 (by decide) ?_
    refine G_goto (tgt := 40) dX8_form_27 (by decide) ?_
    exact G_ret (v := some (.int _)) ⟨dX8_form_40, _, rfl, rfl⟩ ⟨_, rfl, rfl, Or.inr ⟨h, rfl⟩⟩
  refine G_aload_n dX8_form_0 rfl ?_
  refine G_iconst (v := 0) dX8_form_1 (by decide) ?_
  refine G_put (w' := w8 ((((((r.bl, r.co), (r.po, r.ha)), ((r.nw, r.gr), r.go)), (((r.tr, r.rw), r.nm), ((r.fm, r.oc), r.ds))), ((((r.ms, r.wd), (r.sc, r.sd)), ((r.ke, r.ro), r.hs)), (((r.gc, r.nb), r.fc), ((r.de, r.si), 0)))) : R8)) (f := 25) kc9 dX8_form_2 fX8_1 (by decide) rfl rfl rfl rfl (Nat.le_of_ble_eq_true rfl) rfl ?_
  refine G_iload_n dX8_form_5 rfl ?_
  refine G_if_lt (tgt := 26) dX8_form_6 (by decide) (fun h => no (by rw [lt_toI, h0] at h; omega)) (fun h => ?_)
  rw [lt_toI, h0] at h
  refine G_iload_n dX8_form_9 rfl ?_
  refine G_aload_n dX8_form_10 rfl ?_
  refine G_get (f := 17) kc9 dX8_form_11 fX8_334 (by decide) rfl rfl ?_
  refine G_icmp_ge (tgt := 26) dX8_form_14 (by decide) (fun h3 => no (by rw [le_toI] at h3; replace h3 : r.fc.toInt ≤ i.toInt := h3; omega)) (fun h3 => ?_)
  rw [le_toI] at h3
  replace h3 : ¬ r.fc.toInt ≤ i.toInt := h3
  refine G_iload_n dX8_form_17 rfl ?_
  refine G_if_lt (tgt := 26) dX8_form_18 (by decide) (fun h4 => no (by rw [lt_toI, h0] at h4; omega)) (fun h4 => ?_)
  rw [lt_toI, h0] at h4
  refine G_iload_n dX8_form_21 rfl ?_
  refine G_iconst (v := 2) dX8_form_22 (by decide) ?_
  refine G_icmp_le (tgt := 30) dX8_form_23 (by decide) (fun h5 => ?_) (fun h5 => no (by rw [le_toI, h2'] at h5; omega))
  rw [le_toI, h2'] at h5
  have ei : i = nI i.toInt.toNat := nI_rng (by omega)
  have ek : k = nI k.toInt.toNat := nI_rng (by omega)
  refine G_aload_n dX8_form_30 rfl ?_
  refine G_get (f := 16) kc9 dX8_form_31 fX8_176 (by decide) rfl rfl ?_
  refine G_iconst (v := 3) dX8_form_34 (by decide) ?_
  refine G_iload_n dX8_form_35 rfl ?_
  refine G_imul dX8_form_36 ?_
  refine G_topi (y := nI (3 * i.toInt.toNat)) ((congrArg (fun z => (3 : Int32) * z) ei).trans (pk_mul 3 _)) ?_
  refine G_iload_n dX8_form_37 rfl ?_
  refine G_iadd dX8_form_38 ?_
  refine G_ialdN (3 * i.toInt.toNat + k.toInt.toNat) dX8_form_39 rfl ((congrArg (fun z => nI (3 * i.toInt.toNat) + z) ek).trans (nI_add _ _)) (by omega) (by decide) ?_
  exact G_ret (v := some (.int _)) ⟨dX8_form_40, _, rfl, rfl⟩ ⟨_, rfl, rfl, Or.inl ⟨by omega, rfl⟩⟩
set_option maxRecDepth 20000 in
set_option maxHeartbeats 1000000 in
theorem con8_octet (d : Nat) (r : R8) (hoc : ∀ j, j < 32 → narrow .byte (.int (r.oc j)) = .int (r.oc j)) (i : Int32) : Con mX8_octet (d) 0 0 (w8 r) [.ref 100, .int i] (fun w' v => ∃ r', w' = w8 r' ∧ (((0 ≤ i.toInt ∧ i.toInt < 32) ∧ r' = ((((((r.bl, r.co), (r.po, r.ha)), ((r.nw, r.gr), r.go)), (((r.tr, r.rw), r.nm), ((r.fm, r.oc), r.ds))), ((((r.ms, r.wd), (r.sc, r.sd)), ((r.ke, r.ro), r.hs)), (((r.gc, r.nb), r.fc), ((r.de, r.si), 0)))) : R8) ∧ v = some (.int (r.oc i.toInt.toNat))) ∨ ((¬ (0 ≤ i.toInt ∧ i.toInt < 32)) ∧ r' = ((((((r.bl, r.co), (r.po, r.ha)), ((r.nw, r.gr), r.go)), (((r.tr, r.rw), r.nm), ((r.fm, r.oc), r.ds))), ((((r.ms, r.wd), (r.sc, r.sd)), ((r.ke, r.ro), r.hs)), (((r.gc, r.nb), r.fc), ((r.de, r.si), 1)))) : R8) ∧ v = some (.int 0)))) := by
  refine Con.of (ab_okc rfl (by decide)) (Nat.le_of_ble_eq_true rfl) ?_
  show G ab_x0 mX8_octet (d) 0 0 _ 0 [some (.ref 100), some (.int i)] [] _
  have h0 : (0 : Int32).toInt = 0 := rfl
  have h32 : (32 : Int32).toInt = 32 := rfl
  have no : ¬ (0 ≤ i.toInt ∧ i.toInt < 32) → G ab_x0 mX8_octet d 0 0 (fun w' v => ∃ r', w' = w8 r' ∧ (((0 ≤ i.toInt ∧ i.toInt < 32) ∧ r' = ((((((r.bl, r.co), (r.po, r.ha)), ((r.nw, r.gr), r.go)), (((r.tr, r.rw), r.nm), ((r.fm, r.oc), r.ds))), ((((r.ms, r.wd), (r.sc, r.sd)), ((r.ke, r.ro), r.hs)), (((r.gc, r.nb), r.fc), ((r.de, r.si), 0)))) : R8) ∧ v = some (.int (r.oc i.toInt.toNat))) ∨ ((¬ (0 ≤ i.toInt ∧ i.toInt < 32)) ∧ r' = ((((((r.bl, r.co), (r.po, r.ha)), ((r.nw, r.gr), r.go)), (((r.tr, r.rw), r.nm), ((r.fm, r.oc), r.ds))), ((((r.ms, r.wd), (r.sc, r.sd)), ((r.ke, r.ro), r.hs)), (((r.gc, r.nb), r.fc), ((r.de, r.si), 1)))) : R8) ∧ v = some (.int 0)))) 15 [some (.ref 100), some (.int i)] [.ref 100] (w8 r) := by
    intro h
    refine G_iconst (v := 1) dX8_octet_15 (by decide) ?_
    refine G_put (w' := w8 ((((((r.bl, r.co), (r.po, r.ha)), ((r.nw, r.gr), r.go)), (((r.tr, r.rw), r.nm), ((r.fm, r.oc), r.ds))), ((((r.ms, r.wd), (r.sc, r.sd)), ((r.ke, r.ro), r.hs)), (((r.gc, r.nb), r.fc), ((r.de, r.si), 1)))) : R8)) (f := 25) kc9 dX8_octet_16 fX8_1 (by decide) rfl rfl rfl rfl (Nat.le_of_ble_eq_true rfl) rfl ?_
    refine G_aload_n dX8_octet_19 rfl ?_
    refine G_get (f := 25) kc9 dX8_octet_20 fX8_1 (by decide) rfl rfl ?_
    refine G_if_ne (tgt := 35) dX8_octet_23 (by decide) (fun _ => ?_) (fun h => absurd (show (1 : Int32) = 0 from h) (by decide))
    refine G_iconst (v := 0) dX8_octet_35 (by decide) ?_
    exact G_ret (v := some (.int _)) ⟨dX8_octet_36, _, rfl, rfl⟩ ⟨_, rfl, Or.inr ⟨h, rfl, rfl⟩⟩
  refine G_aload_n dX8_octet_0 rfl ?_
  refine G_iload_n dX8_octet_1 rfl ?_
  refine G_if_lt (tgt := 15) dX8_octet_2 (by decide) (fun h => no (by rw [lt_toI, h0] at h; omega)) (fun h => ?_)
  rw [lt_toI, h0] at h
  refine G_iload_n dX8_octet_5 rfl ?_
  refine G_bipush (v := 32) dX8_octet_6 (by decide) ?_
  refine G_icmp_ge (tgt := 15) dX8_octet_8 (by decide) (fun h3 => no (by rw [le_toI, h32] at h3; omega)) (fun h3 => ?_)
  rw [le_toI, h32] at h3
  refine G_iconst (v := 0) dX8_octet_11 (by decide) ?_
  refine G_goto (tgt := 16) dX8_octet_12 (by decide) ?_
  refine G_put (w' := w8 ((((((r.bl, r.co), (r.po, r.ha)), ((r.nw, r.gr), r.go)), (((r.tr, r.rw), r.nm), ((r.fm, r.oc), r.ds))), ((((r.ms, r.wd), (r.sc, r.sd)), ((r.ke, r.ro), r.hs)), (((r.gc, r.nb), r.fc), ((r.de, r.si), 0)))) : R8)) (f := 25) kc9 dX8_octet_16 fX8_1 (by decide) rfl rfl rfl rfl (Nat.le_of_ble_eq_true rfl) rfl ?_
  refine G_aload_n dX8_octet_19 rfl ?_
  refine G_get (f := 25) kc9 dX8_octet_20 fX8_1 (by decide) rfl rfl ?_
  refine G_if_ne (tgt := 35) dX8_octet_23 (by decide) (fun h => absurd rfl h) (fun _ => ?_)
  refine G_aload_n dX8_octet_26 rfl ?_
  refine G_get (f := 18) kc9 dX8_octet_27 fX8_179 (by decide) rfl rfl ?_
  refine G_iload_n dX8_octet_30 rfl ?_
  refine G_baldN (i.toInt.toNat) dX8_octet_31 rfl (nI_rng (by omega)) (by omega) (by decide) ?_
  refine G_goto (tgt := 36) dX8_octet_32 (by decide) ?_
  exact G_ret (v := some (.int _)) ⟨dX8_octet_36, _, rfl, hoc _ (by omega)⟩ ⟨_, rfl, Or.inl ⟨by omega, rfl, rfl⟩⟩
set_option maxRecDepth 20000 in
set_option maxHeartbeats 1000000 in
theorem con8_keep (d kc : Nat) (r : R8) (hk : r.ke = nI kc) (hkc : kc ≤ 8) : Con mX8_keep (d) 0 0 (w8 r) [.ref 100] (fun w' v => ∃ r', w' = w8 r' ∧ ((kc = 8 ∧ r' = ((((((r.bl, r.co), (r.po, r.ha)), ((r.nw, r.gr), r.go)), (((r.tr, r.rw), r.nm), ((r.fm, r.oc), r.ds))), ((((r.ms, r.wd), (r.sc, r.sd)), ((r.ke, r.ro), r.hs)), (((r.gc, r.nb), r.fc), ((r.de, r.si), 0)))) : R8) ∧ v = some (.int (-2))) ∨ (kc < 8 ∧ r' = ((((((upd (upd r.bl kc (r.bl 8)) 8 0, upd (upd r.co kc (r.co 8)) 8 0), (cpk r.po kc 120, r.ha)), ((r.nw, r.gr), r.go)), (((r.tr, r.rw), r.nm), ((r.fm, r.oc), r.ds))), ((((r.ms, r.wd), (r.sc, r.sd)), ((nI (kc + 1), r.ro), 0)), (((r.gc, r.nb), r.fc), ((r.de, r.si), 0)))) : R8) ∧ v = some (.int (nI kc))))) := by
  refine Con.of (ab_okc rfl (by decide)) (Nat.le_of_ble_eq_true rfl) ?_
  show G ab_x0 mX8_keep (d) 0 0 _ 0 [some (.ref 100), none] [] _
  refine G_aload_n dX8_keep_0 rfl ?_
  refine G_iconst (v := 0) dX8_keep_1 (by decide) ?_
  refine G_put (w' := w8 ((((((r.bl, r.co), (r.po, r.ha)), ((r.nw, r.gr), r.go)), (((r.tr, r.rw), r.nm), ((r.fm, r.oc), r.ds))), ((((r.ms, r.wd), (r.sc, r.sd)), ((r.ke, r.ro), r.hs)), (((r.gc, r.nb), r.fc), ((r.de, r.si), 0)))) : R8)) (f := 25) kc9 dX8_keep_2 fX8_1 (by decide) rfl rfl rfl rfl (Nat.le_of_ble_eq_true rfl) rfl ?_
  refine G_aload_n dX8_keep_5 rfl ?_
  refine G_get (f := 4) kc9 dX8_keep_6 fX8_337 (by decide) rfl rfl ?_
  refine G_bipush (v := 8) dX8_keep_9 (by decide) ?_
  refine G_icmp_neN (tgt := 17) kc 8 dX8_keep_11 (by decide) hk rfl (by omega) (by omega) (fun h => ?_) (fun h => ?_)
  rotate_left
  · refine G_bipush (v := -2) dX8_keep_14 (by decide) ?_
    exact G_ret (v := some (.int _)) ⟨dX8_keep_16, _, rfl, rfl⟩ ⟨_, rfl, Or.inl ⟨h, rfl, rfl⟩⟩
  refine G_aload_n dX8_keep_17 rfl ?_
  refine G_get (f := 1) kc9 dX8_keep_18 fX8_145 (by decide) rfl rfl ?_
  refine G_aload_n dX8_keep_21 rfl ?_
  refine G_get (f := 4) kc9 dX8_keep_22 fX8_337 (by decide) rfl rfl ?_
  refine G_aload_n dX8_keep_25 rfl ?_
  refine G_get (f := 1) kc9 dX8_keep_26 fX8_145 (by decide) rfl rfl ?_
  refine G_bipush (v := 8) dX8_keep_29 (by decide) ?_
  refine G_ialdN (8) dX8_keep_31 rfl rfl (by decide) (by decide) ?_
  refine G_iastN (w' := w8 ((((((upd r.bl kc (r.bl 8), r.co), (r.po, r.ha)), ((r.nw, r.gr), r.go)), (((r.tr, r.rw), r.nm), ((r.fm, r.oc), r.ds))), ((((r.ms, r.wd), (r.sc, r.sd)), ((r.ke, r.ro), r.hs)), (((r.gc, r.nb), r.fc), ((r.de, r.si), 0)))) : R8)) (kc) dX8_keep_32 rfl hk (by omega) (by decide) rfl ?_
  refine G_aload_n dX8_keep_33 rfl ?_
  refine G_get (f := 2) kc9 dX8_keep_34 fX8_149 (by decide) rfl rfl ?_
  refine G_aload_n dX8_keep_37 rfl ?_
  refine G_get (f := 4) kc9 dX8_keep_38 fX8_337 (by decide) rfl rfl ?_
  refine G_aload_n dX8_keep_41 rfl ?_
  refine G_get (f := 2) kc9 dX8_keep_42 fX8_149 (by decide) rfl rfl ?_
  refine G_bipush (v := 8) dX8_keep_45 (by decide) ?_
  refine G_ialdN (8) dX8_keep_47 rfl rfl (by decide) (by decide) ?_
  refine G_iastN (w' := w8 ((((((upd r.bl kc (r.bl 8), upd r.co kc (r.co 8)), (r.po, r.ha)), ((r.nw, r.gr), r.go)), (((r.tr, r.rw), r.nm), ((r.fm, r.oc), r.ds))), ((((r.ms, r.wd), (r.sc, r.sd)), ((r.ke, r.ro), r.hs)), (((r.gc, r.nb), r.fc), ((r.de, r.si), 0)))) : R8)) (kc) dX8_keep_48 rfl hk (by omega) (by decide) rfl ?_
  refine G_iconst (v := 0) dX8_keep_49 (by decide) ?_
  refine G_istore_n (L' := [_, _]) dX8_keep_50 (Nat.le_of_ble_eq_true rfl) rfl ?_
  have loop : ∀ (n t : Nat), 120 - t = n → t ≤ 120 → G ab_x0 mX8_keep d 0 0 (fun w' v => ∃ r', w' = w8 r' ∧ ((kc = 8 ∧ r' = ((((((r.bl, r.co), (r.po, r.ha)), ((r.nw, r.gr), r.go)), (((r.tr, r.rw), r.nm), ((r.fm, r.oc), r.ds))), ((((r.ms, r.wd), (r.sc, r.sd)), ((r.ke, r.ro), r.hs)), (((r.gc, r.nb), r.fc), ((r.de, r.si), 0)))) : R8) ∧ v = some (.int (-2))) ∨ (kc < 8 ∧ r' = ((((((upd (upd r.bl kc (r.bl 8)) 8 0, upd (upd r.co kc (r.co 8)) 8 0), (cpk r.po kc 120, r.ha)), ((r.nw, r.gr), r.go)), (((r.tr, r.rw), r.nm), ((r.fm, r.oc), r.ds))), ((((r.ms, r.wd), (r.sc, r.sd)), ((nI (kc + 1), r.ro), 0)), (((r.gc, r.nb), r.fc), ((r.de, r.si), 0)))) : R8) ∧ v = some (.int (nI kc))))) 51 [some (.ref 100), some (.int (nI t))] [] (w8 ((((((upd r.bl kc (r.bl 8), upd r.co kc (r.co 8)), (cpk r.po kc t, r.ha)), ((r.nw, r.gr), r.go)), (((r.tr, r.rw), r.nm), ((r.fm, r.oc), r.ds))), ((((r.ms, r.wd), (r.sc, r.sd)), ((r.ke, r.ro), r.hs)), (((r.gc, r.nb), r.fc), ((r.de, r.si), 0)))) : R8)) := by
    intro n
    induction n using Nat.strongRecOn with
    | ind n ih =>
      intro t hn ht
      refine G_iload_n dX8_keep_51 rfl ?_
      refine G_bipush (v := 120) dX8_keep_52 (by decide) ?_
      refine G_icmp_geN (tgt := 87) t 120 dX8_keep_54 (by decide) rfl rfl (by omega) (by omega) (fun h2 => ?_) (fun h2 => ?_)
      · have e : t = 120 := by omega
        subst e
        refine G_aload_n dX8_keep_87 rfl ?_
        refine G_dup dX8_keep_88 rfl ?_
        refine G_get (f := 4) kc9 dX8_keep_89 fX8_337 (by decide) rfl rfl ?_
        refine G_iconst (v := 1) dX8_keep_92 (by decide) ?_
        refine G_iadd dX8_keep_93 ?_
        refine G_topi (y := nI (kc + 1)) ((congrArg (· + 1) hk).trans (nI_1 kc)) ?_
        refine G_put (w' := w8 ((((((upd r.bl kc (r.bl 8), upd r.co kc (r.co 8)), (cpk r.po kc 120, r.ha)), ((r.nw, r.gr), r.go)), (((r.tr, r.rw), r.nm), ((r.fm, r.oc), r.ds))), ((((r.ms, r.wd), (r.sc, r.sd)), ((nI (kc + 1), r.ro), r.hs)), (((r.gc, r.nb), r.fc), ((r.de, r.si), 0)))) : R8)) (f := 4) kc9 dX8_keep_94 fX8_337 (by decide) rfl rfl rfl rfl (Nat.le_of_ble_eq_true rfl) rfl ?_
        refine G_aload_n dX8_keep_97 rfl ?_
        refine G_get (f := 1) kc9 dX8_keep_98 fX8_145 (by decide) rfl rfl ?_
        refine G_bipush (v := 8) dX8_keep_101 (by decide) ?_
        refine G_iconst (v := 0) dX8_keep_103 (by decide) ?_
        refine G_iastN (w' := w8 ((((((upd (upd r.bl kc (r.bl 8)) 8 0, upd r.co kc (r.co 8)), (cpk r.po kc 120, r.ha)), ((r.nw, r.gr), r.go)), (((r.tr, r.rw), r.nm), ((r.fm, r.oc), r.ds))), ((((r.ms, r.wd), (r.sc, r.sd)), ((nI (kc + 1), r.ro), r.hs)), (((r.gc, r.nb), r.fc), ((r.de, r.si), 0)))) : R8)) (8) dX8_keep_104 rfl rfl (by decide) (by decide) rfl ?_
        refine G_aload_n dX8_keep_105 rfl ?_
        refine G_get (f := 2) kc9 dX8_keep_106 fX8_149 (by decide) rfl rfl ?_
        refine G_bipush (v := 8) dX8_keep_109 (by decide) ?_
        refine G_iconst (v := 0) dX8_keep_111 (by decide) ?_
        refine G_iastN (w' := w8 ((((((upd (upd r.bl kc (r.bl 8)) 8 0, upd (upd r.co kc (r.co 8)) 8 0), (cpk r.po kc 120, r.ha)), ((r.nw, r.gr), r.go)), (((r.tr, r.rw), r.nm), ((r.fm, r.oc), r.ds))), ((((r.ms, r.wd), (r.sc, r.sd)), ((nI (kc + 1), r.ro), r.hs)), (((r.gc, r.nb), r.fc), ((r.de, r.si), 0)))) : R8)) (8) dX8_keep_112 rfl rfl (by decide) (by decide) rfl ?_
        refine G_aload_n dX8_keep_113 rfl ?_
        refine G_iconst (v := 0) dX8_keep_114 (by decide) ?_
        refine G_put (w' := w8 ((((((upd (upd r.bl kc (r.bl 8)) 8 0, upd (upd r.co kc (r.co 8)) 8 0), (cpk r.po kc 120, r.ha)), ((r.nw, r.gr), r.go)), (((r.tr, r.rw), r.nm), ((r.fm, r.oc), r.ds))), ((((r.ms, r.wd), (r.sc, r.sd)), ((nI (kc + 1), r.ro), 0)), (((r.gc, r.nb), r.fc), ((r.de, r.si), 0)))) : R8)) (f := 8) kc9 dX8_keep_115 fX8_241 (by decide) rfl (by decide) (by decide) rfl (Nat.le_of_ble_eq_true rfl) rfl ?_
        refine G_aload_n dX8_keep_118 rfl ?_
        refine G_get (f := 4) kc9 dX8_keep_119 fX8_337 (by decide) rfl rfl ?_
        refine G_iconst (v := 1) dX8_keep_122 (by decide) ?_
        refine G_isub dX8_keep_123 ?_
        refine G_topi (y := nI kc) (nI_pred kc) ?_
        exact G_ret (v := some (.int _)) ⟨dX8_keep_124, _, rfl, rfl⟩ ⟨_, rfl, Or.inr ⟨by omega, rfl, rfl⟩⟩
      refine G_aload_n dX8_keep_57 rfl ?_
      refine G_get (f := 3) kc9 dX8_keep_58 fX8_152 (by decide) rfl rfl ?_
      refine G_bipush (v := 120) dX8_keep_61 (by decide) ?_
      refine G_aload_n dX8_keep_63 rfl ?_
      refine G_get (f := 4) kc9 dX8_keep_64 fX8_337 (by decide) rfl rfl ?_
      refine G_imul dX8_keep_67 ?_
      refine G_topi (y := nI (120 * kc)) ((congrArg (fun z => (120 : Int32) * z) hk).trans (pk_mul 120 kc)) ?_
      refine G_iload_n dX8_keep_68 rfl ?_
      refine G_iadd dX8_keep_69 ?_
      refine G_topi (y := nI (120 * kc + t)) (nI_add _ _) ?_
      refine G_aload_n dX8_keep_70 rfl ?_
      refine G_get (f := 3) kc9 dX8_keep_71 fX8_152 (by decide) rfl rfl ?_
      refine G_sipush (v := 960) dX8_keep_74 (by decide) ?_
      refine G_iload_n dX8_keep_77 rfl ?_
      refine G_iadd dX8_keep_78 ?_
      refine G_ialdN (960 + t) dX8_keep_79 rfl (nI_add 960 t) (by omega) (by decide) ?_
      refine G_iastN (w' := w8 ((((((upd r.bl kc (r.bl 8), upd r.co kc (r.co 8)), (upd (cpk r.po kc t) (120 * kc + t) (cpk r.po kc t (960 + t)), r.ha)), ((r.nw, r.gr), r.go)), (((r.tr, r.rw), r.nm), ((r.fm, r.oc), r.ds))), ((((r.ms, r.wd), (r.sc, r.sd)), ((r.ke, r.ro), r.hs)), (((r.gc, r.nb), r.fc), ((r.de, r.si), 0)))) : R8)) (120 * kc + t) dX8_keep_80 rfl rfl (by omega) (by decide) rfl ?_
      refine G_w (st' := []) (w' := w8 ((((((upd r.bl kc (r.bl 8), upd r.co kc (r.co 8)), (cpk r.po kc (t + 1), r.ha)), ((r.nw, r.gr), r.go)), (((r.tr, r.rw), r.nm), ((r.fm, r.oc), r.ds))), ((((r.ms, r.wd), (r.sc, r.sd)), ((r.ke, r.ro), r.hs)), (((r.gc, r.nb), r.fc), ((r.de, r.si), 0)))) : R8)) rfl (by rw [cpk_s _ (by omega) (by omega)]) ?_
      refine G_iinc (L' := [_, _]) (v := nI (t + 1)) dX8_keep_81 rfl (nI_1 t) rfl ?_
      refine G_goto (tgt := 51) dX8_keep_84 (by decide) ?_
      exact ih (120 - (t + 1)) (by omega) (t + 1) rfl (by omega)
  refine G_w (st' := []) (w' := w8 ((((((upd r.bl kc (r.bl 8), upd r.co kc (r.co 8)), (cpk r.po kc 0, r.ha)), ((r.nw, r.gr), r.go)), (((r.tr, r.rw), r.nm), ((r.fm, r.oc), r.ds))), ((((r.ms, r.wd), (r.sc, r.sd)), ((r.ke, r.ro), r.hs)), (((r.gc, r.nb), r.fc), ((r.de, r.si), 0)))) : R8)) rfl (by rw [cpk_0]) ?_
  exact loop _ 0 rfl (by omega)
/-- the points of a key -/
def pt (K p : Nat) : Int32 := nI (kp K p) - 8
def pts (f : Nat → Int32) (base : Nat) (q : Nat → Nat) (nt nb : Nat) : Prop := ∀ i, i < nt → q i < 2 ^ 30 ∧ ∀ p, p < 3 → f (base + 3 * i + p) = pt (q i) p ∧ kp (q i) p ≠ 8 ∧ kp (q i) p < 1009 ∧ (kp (q i) p < 8 → 7 - kp (q i) p < nb)
theorem pt_toInt {P : Nat} (h : P < 1024) : (nI P - 8).toInt = (P : Int) - 8 := pk_sub_toInt (b := 8) (by omega) (by omega)
theorem pt_inj {P P' : Nat} (h : P < 1024) (h' : P' < 1024) : nI P - 8 = nI P' - 8 ↔ P = P' := by
  constructor
  · intro e
    have := congrArg Int32.toInt e
    rw [pt_toInt h, pt_toInt h'] at this
    omega
  · rintro rfl; rfl
theorem kp_ext {K K' : Nat} (h : K < 2 ^ 30) (h' : K' < 2 ^ 30) (e : ∀ p, p < 3 → kp K p = kp K' p) : K = K' := by
  have e0 := e 0 (by omega)
  have e1 := e 1 (by omega)
  have e2 := e 2 (by omega)
  unfold kp at e0 e1 e2
  simp at e0 e1 e2
  omega
theorem kp_rnK (g : Nat → Nat) (K : Nat) : ∀ p, p < 3 → kp (rnK g K) p = rn g (kp K p) := by
  have h0 : rn g (kp K 0) < 1024 := rn_lt (kp_lt K 0)
  have h1 : rn g (kp K 1) < 1024 := rn_lt (kp_lt K 1)
  have h2 : rn g (kp K 2) < 1024 := rn_lt (kp_lt K 2)
  intro p hp
  unfold rnK
  match p, hp with
  | 0, _ => rw [kp]; simp; omega
  | 1, _ => rw [kp]; simp; omega
  | 2, _ => rw [kp]; simp; omega
theorem tri_key {f : Nat → Int32} {base nt nb : Nat} {q : Nat → Nat} (h : pts f base q nt nb) {j : Nat} (hj : j < nt) {K : Nat} (hK : K < 2 ^ 30) : tri f (base + 3 * j) (pt K 0) (pt K 1) (pt K 2) ↔ q j = K := by
  obtain ⟨h1, h2⟩ := h j hj
  unfold tri
  rw [show base + 3 * j = base + 3 * j + 0 by omega, (h2 0 (by omega)).1, (h2 1 (by omega)).1, (h2 2 (by omega)).1]
  unfold pt
  rw [pt_inj (kp_lt _ _) (kp_lt _ _), pt_inj (kp_lt _ _) (kp_lt _ _), pt_inj (kp_lt _ _) (kp_lt _ _)]
  constructor
  · rintro ⟨a, b, c⟩
    exact kp_ext h1 hK (fun p hp => by match p, hp with | 0, _ => exact a | 1, _ => exact b | 2, _ => exact c)
  · rintro rfl; exact ⟨rfl, rfl, rfl⟩
set_option maxRecDepth 20000 in
set_option maxHeartbeats 1000000 in
theorem con8_numbered (d nb P : Nat) (hP : P < 1024) (hP8 : P ≠ 8) (hPn : P < 8 → 7 - P < nb) (r : R8) (h : Nat → Nat) (ht : ∀ c, c < nb → r.tr (c + 1) = nI (h c) ∧ h c ≤ 8) : Con mX8_numbered (d) 0 0 (w8 r) [.ref 100, .int (nI P - 8)] (fun w' v => ∃ r', w' = w8 r' ∧ r' = r ∧ v = some (.int (nI (rn h P) - 8))) := by
  refine Con.of (ab_okc rfl (by decide)) (Nat.le_of_ble_eq_true rfl) ?_
  show G ab_x0 mX8_numbered (d) 0 0 _ 0 [some (.ref 100), some (.int (nI P - 8))] [] _
  have h0 : (0 : Int32).toInt = 0 := rfl
  refine G_iload_n dX8_numbered_0 rfl ?_
  refine G_if_le (tgt := 8) dX8_numbered_1 (by decide) (fun hl => ?_) (fun hl => ?_)
  rotate_left
  · rw [le_toI, h0, pt_toInt hP] at hl
    refine G_iload_n dX8_numbered_4 rfl ?_
    refine G_goto (tgt := 16) dX8_numbered_5 (by decide) ?_
    exact G_ret (v := some (.int _)) ⟨dX8_numbered_16, _, rfl, rfl⟩ ⟨r, rfl, rfl, by unfold rn; rw [if_neg (by omega)]⟩
  rw [le_toI, h0, pt_toInt hP] at hl
  obtain ⟨e1, e2⟩ := ht (7 - P) (hPn (by omega))
  have e3 : -(nI P - 8) = nI (7 - P + 1) := by
    apply Int32.toInt_inj.mp
    rw [Int32.toInt_neg, pt_toInt hP, nI_toInt (by omega), Int.bmod_eq_of_le (by omega) (by omega)]
    omega
  have e4 : -(r.tr (7 - P + 1)) = nI (rn h P) - 8 := by
    rw [e1]
    apply Int32.toInt_inj.mp
    rw [Int32.toInt_neg, nI_toInt (by omega), Int.bmod_eq_of_le (by omega) (by omega), pt_toInt (by unfold rn; rw [if_pos (by omega)]; omega)]
    unfold rn
    rw [if_pos (by omega)]
    omega
  refine G_aload_n dX8_numbered_8 rfl ?_
  refine G_get (f := 12) kc9 dX8_numbered_9 fX8_167 (by decide) rfl rfl ?_
  refine G_iload_n dX8_numbered_12 rfl ?_
  refine G_ineg dX8_numbered_13 ?_
  refine G_ialdN (7 - P + 1) dX8_numbered_14 rfl e3 (by omega) (by decide) ?_
  refine G_ineg dX8_numbered_15 ?_
  exact G_ret (v := some (.int _)) ⟨dX8_numbered_16, _, rfl, rfl⟩ ⟨r, rfl, rfl, by rw [e4]⟩
set_option maxRecDepth 20000 in
set_option maxHeartbeats 1000000 in
theorem con8_begin (d n : Nat) (r : R8) (hn : n ≤ 8) : Con mX8_begin (d) 0 0 (w8 r) [.ref 100, .int (nI n)] (fun w' v => ∃ r', w' = w8 r' ∧ v = none ∧ ∃ t, r' = ((((((r.bl, r.co), (r.po, r.ha)), ((r.nw, r.gr), r.go)), (((t, r.rw), r.nm), ((r.fm, r.oc), r.ds))), ((((r.ms, r.wd), (r.sc, r.sd)), ((r.ke, r.ro), r.hs)), (((r.gc, r.nb), r.fc), ((r.de, r.si), r.th)))) : R8) ∧ ∀ b, 1 ≤ b → b ≤ n → t b = nI b) := by
  refine Con.of (ab_okc rfl (by decide)) (Nat.le_of_ble_eq_true rfl) ?_
  show G ab_x0 mX8_begin (d) 0 0 _ 0 [some (.ref 100), some (.int (nI n)), none] [] _
  refine G_iconst (v := 1) dX8_begin_0 (by decide) ?_
  refine G_istore_n (L' := [_, _, _]) dX8_begin_1 (Nat.le_of_ble_eq_true rfl) rfl ?_
  have loop : ∀ (m i : Nat) (t : Nat → Int32), n + 1 - i = m → 1 ≤ i → i ≤ n + 1 → (∀ b, 1 ≤ b → b < i → t b = nI b) → G ab_x0 mX8_begin d 0 0 (fun w' v => ∃ r', w' = w8 r' ∧ v = none ∧ ∃ t, r' = ((((((r.bl, r.co), (r.po, r.ha)), ((r.nw, r.gr), r.go)), (((t, r.rw), r.nm), ((r.fm, r.oc), r.ds))), ((((r.ms, r.wd), (r.sc, r.sd)), ((r.ke, r.ro), r.hs)), (((r.gc, r.nb), r.fc), ((r.de, r.si), r.th)))) : R8) ∧ ∀ b, 1 ≤ b → b ≤ n → t b = nI b) 2 [some (.ref 100), some (.int (nI n)), some (.int (nI i))] [] (w8 ((((((r.bl, r.co), (r.po, r.ha)), ((r.nw, r.gr), r.go)), (((t, r.rw), r.nm), ((r.fm, r.oc), r.ds))), ((((r.ms, r.wd), (r.sc, r.sd)), ((r.ke, r.ro), r.hs)), (((r.gc, r.nb), r.fc), ((r.de, r.si), r.th)))) : R8)) := by
    intro m
    induction m using Nat.strongRecOn with
    | ind m ih =>
      intro i t hm hi hi2 ht
      refine G_iload_n dX8_begin_2 rfl ?_
      refine G_iload_n dX8_begin_3 rfl ?_
      refine G_icmp_gtN (tgt := 20) i n dX8_begin_4 (by decide) rfl rfl (by omega) (by omega) (fun h => ?_) (fun h => ?_)
      · exact G_ret (v := none) ⟨dX8_begin_20, rfl⟩ ⟨_, rfl, rfl, t, rfl, fun b h1 h2 => ht b h1 (by omega)⟩
      refine G_aload_n dX8_begin_7 rfl ?_
      refine G_get (f := 12) kc9 dX8_begin_8 fX8_167 (by decide) rfl rfl ?_
      refine G_iload_n dX8_begin_11 rfl ?_
      refine G_iload_n dX8_begin_12 rfl ?_
      refine G_iastN (w' := w8 ((((((r.bl, r.co), (r.po, r.ha)), ((r.nw, r.gr), r.go)), (((upd t i (nI i), r.rw), r.nm), ((r.fm, r.oc), r.ds))), ((((r.ms, r.wd), (r.sc, r.sd)), ((r.ke, r.ro), r.hs)), (((r.gc, r.nb), r.fc), ((r.de, r.si), r.th)))) : R8)) (i) dX8_begin_13 rfl rfl (by omega) (by decide) rfl ?_
      refine G_iinc (L' := [_, _, _]) (v := nI (i + 1)) dX8_begin_14 rfl (nI_1 i) rfl ?_
      refine G_goto (tgt := 2) dX8_begin_17 (by decide) ?_
      refine ih (n + 1 - (i + 1)) (by omega) (i + 1) _ rfl (by omega) (by omega) (fun b h1 h2 => ?_)
      by_cases e : b = i
      · rw [e, pk_us]
      · rw [pk_un e]; exact ht b h1 (by omega)
  exact loop _ 1 r.tr rfl (by omega) (by omega) (fun b h1 h2 => by omega)
set_option maxRecDepth 20000 in
set_option maxHeartbeats 1000000 in
theorem con8_becomes (d g nb nt nt' : Nat) (r : R8) (hg : g ≤ 8) (hc : r.co 8 = nI nt) (hnt : nt ≤ 40) (hc' : r.co g = nI nt') (hnt' : nt' ≤ 40) (q q' h : Nat → Nat) (nb' : Nat) (hp0 : pts r.po 960 q nt nb) (hp1 : pts r.po (120 * g) q' nt' nb') (ht : ∀ c, c < nb → r.tr (c + 1) = nI (h c) ∧ h c ≤ 8) : Con mX8_becomes (d + 2) 0 0 (w8 r) [.ref 100, .int (nI g)] (fun w' v => ∃ r', w' = w8 r' ∧ r' = r ∧ (((∀ i, i < nt → ∃ j, j < nt' ∧ q' j = rnK h (q i)) ∧ v = some (.int 1)) ∨ ((¬ (∀ i, i < nt → ∃ j, j < nt' ∧ q' j = rnK h (q i))) ∧ v = some (.int 0)))) := by
  refine Con.of (ab_okc rfl (by decide)) (Nat.le_of_ble_eq_true rfl) ?_
  show G ab_x0 mX8_becomes (d + 2) 0 0 _ 0 [some (.ref 100), some (.int (nI g)), none, none] [] _
  refine G_iconst (v := 0) dX8_becomes_0 (by decide) ?_
  refine G_istore_n (L' := [_, _, _, _]) dX8_becomes_1 (Nat.le_of_ble_eq_true rfl) rfl ?_
  have loop : ∀ (m i : Nat) (z : Option Value), nt - i = m → i ≤ nt → (∀ i', i' < i → ∃ j, j < nt' ∧ q' j = rnK h (q i')) → G ab_x0 mX8_becomes (d + 2) 0 0 (fun w' v => ∃ r', w' = w8 r' ∧ r' = r ∧ (((∀ i, i < nt → ∃ j, j < nt' ∧ q' j = rnK h (q i)) ∧ v = some (.int 1)) ∨ ((¬ (∀ i, i < nt → ∃ j, j < nt' ∧ q' j = rnK h (q i))) ∧ v = some (.int 0)))) 2 [some (.ref 100), some (.int (nI g)), some (.int (nI i)), z] [] (w8 r) := by
    intro m
    induction m using Nat.strongRecOn with
    | ind m ih =>
      intro i z hm hi hi2
      refine G_iload_n dX8_becomes_2 rfl ?_
      refine G_aload_n dX8_becomes_3 rfl ?_
      refine G_get (f := 2) kc9 dX8_becomes_4 fX8_149 (by decide) rfl rfl ?_
      refine G_bipush (v := 8) dX8_becomes_7 (by decide) ?_
      refine G_ialdN (8) dX8_becomes_9 rfl rfl (by decide) (by decide) ?_
      refine G_icmp_geN (tgt := 70) i nt dX8_becomes_10 (by decide) rfl hc (by omega) (by omega) (fun hh => ?_) (fun hh => ?_)
      · refine G_iconst (v := 1) dX8_becomes_70 (by decide) ?_
        exact G_ret (v := some (.int _)) ⟨dX8_becomes_71, _, rfl, rfl⟩ ⟨r, rfl, rfl, Or.inl ⟨fun i' h' => hi2 i' (by omega), rfl⟩⟩
      have hp := hp0 i hh
      refine G_bipush (v := 8) dX8_becomes_13 (by decide) ?_
      refine G_iload_n dX8_becomes_15 rfl ?_
      refine G_S (is := []) (fo := []) (as := [.int (nI 8), .int (nI i)]) (as' := [.int (nI 8), .int (nI i)]) (st := []) (k := 0) (n := 0) cX8_becomes_16 (con8_at _ 8 i (by omega) (by omega)) ab_pfx rfl (by decide) rfl rfl rfl rfl (Nat.le_of_ble_eq_true rfl) dX8_becomes_16 (fun w' v h => by rw [h.1]) (fun w2 v2 hq => ?_)
      obtain ⟨rfl, rfl⟩ := hq
      refine G_w (st' := [.int (nI (960 + 3 * i))]) (w' := w8 r) rfl rfl ?_
      refine G_istore_n (L' := [_, _, _, _]) dX8_becomes_19 (Nat.le_of_ble_eq_true rfl) rfl ?_
      refine G_aload_n dX8_becomes_20 rfl ?_
      refine G_iload_n dX8_becomes_21 rfl ?_
      refine G_aload_n dX8_becomes_22 rfl ?_
      refine G_aload_n dX8_becomes_23 rfl ?_
      refine G_get (f := 3) kc9 dX8_becomes_24 fX8_152 (by decide) rfl rfl ?_
      refine G_iload_n dX8_becomes_27 rfl ?_
      refine G_ialdN (960 + 3 * i) dX8_becomes_28 rfl rfl (by omega) (by decide) ?_
      refine G_topi (y := nI (kp (q i) 0) - 8) (hp.2 0 (by omega)).1 ?_
      refine G_V8 (as := [.int (nI (kp (q i) 0) - 8)]) (st := [.int (nI g), .ref 100]) cX8_becomes_29 (con8_numbered _ nb (kp (q i) 0) (kp_lt _ _) ((hp.2 0 (by omega)).2.1) ((hp.2 0 (by omega)).2.2.2) r h ht) rfl rfl rfl rfl rfl (Nat.le_of_ble_eq_true rfl) dX8_becomes_29 (fun r2 v2 hq => ?_)
      obtain ⟨rfl, rfl⟩ := hq
      refine G_w (st' := [.int (nI (rn h (kp (q i) 0)) - 8), .int (nI g), .ref 100]) (w' := w8 r2) rfl rfl ?_
      refine G_aload_n dX8_becomes_32 rfl ?_
      refine G_aload_n dX8_becomes_33 rfl ?_
      refine G_get (f := 3) kc9 dX8_becomes_34 fX8_152 (by decide) rfl rfl ?_
      refine G_iload_n dX8_becomes_37 rfl ?_
      refine G_iconst (v := 1) dX8_becomes_38 (by decide) ?_
      refine G_iadd dX8_becomes_39 ?_
      refine G_ialdN (960 + 3 * i + 1) dX8_becomes_40 rfl (nI_1 _) (by omega) (by decide) ?_
      refine G_topi (y := nI (kp (q i) 1) - 8) (hp.2 1 (by omega)).1 ?_
      refine G_V8 (as := [.int (nI (kp (q i) 1) - 8)]) (st := [.int (nI (rn h (kp (q i) 0)) - 8), .int (nI g), .ref 100]) cX8_becomes_41 (con8_numbered _ nb (kp (q i) 1) (kp_lt _ _) ((hp.2 1 (by omega)).2.1) ((hp.2 1 (by omega)).2.2.2) r2 h ht) rfl rfl rfl rfl rfl (Nat.le_of_ble_eq_true rfl) dX8_becomes_41 (fun r3 v2 hq => ?_)
      obtain ⟨rfl, rfl⟩ := hq
      refine G_w (st' := [.int (nI (rn h (kp (q i) 1)) - 8), .int (nI (rn h (kp (q i) 0)) - 8), .int (nI g), .ref 100]) (w' := w8 r3) rfl rfl ?_
      refine G_aload_n dX8_becomes_44 rfl ?_
      refine G_aload_n dX8_becomes_45 rfl ?_
      refine G_get (f := 3) kc9 dX8_becomes_46 fX8_152 (by decide) rfl rfl ?_
      refine G_iload_n dX8_becomes_49 rfl ?_
      refine G_iconst (v := 2) dX8_becomes_50 (by decide) ?_
      refine G_iadd dX8_becomes_51 ?_
      refine G_ialdN (960 + 3 * i + 2) dX8_becomes_52 rfl (nI_add _ 2) (by omega) (by decide) ?_
      refine G_topi (y := nI (kp (q i) 2) - 8) (hp.2 2 (by omega)).1 ?_
      refine G_V8 (as := [.int (nI (kp (q i) 2) - 8)]) (st := [.int (nI (rn h (kp (q i) 1)) - 8), .int (nI (rn h (kp (q i) 0)) - 8), .int (nI g), .ref 100]) cX8_becomes_53 (con8_numbered _ nb (kp (q i) 2) (kp_lt _ _) ((hp.2 2 (by omega)).2.1) ((hp.2 2 (by omega)).2.2.2) r3 h ht) rfl rfl rfl rfl rfl (Nat.le_of_ble_eq_true rfl) dX8_becomes_53 (fun r4 v2 hq => ?_)
      obtain ⟨rfl, rfl⟩ := hq
      refine G_w (st' := [.int (nI (rn h (kp (q i) 2)) - 8), .int (nI (rn h (kp (q i) 1)) - 8), .int (nI (rn h (kp (q i) 0)) - 8), .int (nI g), .ref 100]) (w' := w8 r4) rfl rfl ?_
      refine G_V8 (as := [.int (nI g), .int (nI (rn h (kp (q i) 0)) - 8), .int (nI (rn h (kp (q i) 1)) - 8), .int (nI (rn h (kp (q i) 2)) - 8)]) (st := []) cX8_becomes_56 (con8_find d g nt' r4 hg hc' hnt' (nI (rn h (kp (q i) 0)) - 8) (nI (rn h (kp (q i) 1)) - 8) (nI (rn h (kp (q i) 2)) - 8)) rfl rfl rfl rfl rfl (Nat.le_of_ble_eq_true rfl) dX8_becomes_56 (fun r5 v2 hq => ?_)
      have key : ∀ j, j < nt' → (tri r4.po (120 * g + 3 * j) (nI (rn h (kp (q i) 0)) - 8) (nI (rn h (kp (q i) 1)) - 8) (nI (rn h (kp (q i) 2)) - 8) ↔ q' j = rnK h (q i)) := fun j hj => by
        have := tri_key hp1 hj (rnK_lt h (q i))
        unfold pt at this
        rw [kp_rnK h (q i) 0 (by omega), kp_rnK h (q i) 1 (by omega), kp_rnK h (q i) 2 (by omega)] at this
        exact this
      obtain ⟨rfl, hq⟩ := hq
      rcases hq with ⟨j, hj, htri, rfl⟩ | ⟨hno, rfl⟩
      · refine G_w (st' := [.int (nI j)]) (w' := w8 r5) rfl rfl ?_
        refine G_if_ge (tgt := 64) dX8_becomes_59 (by decide) (fun _ => ?_) (fun h => absurd (nI_pos' (by omega)) h)
        refine G_iinc (L' := [_, _, _, _]) (v := nI (i + 1)) dX8_becomes_64 rfl (nI_1 i) rfl ?_
        refine G_goto (tgt := 2) dX8_becomes_67 (by decide) ?_
        refine ih (nt - (i + 1)) (by omega) (i + 1) _ rfl (by omega) (fun i' h' => ?_)
        by_cases e : i' = i
        · rw [e]; exact ⟨j, hj, (key j hj).mp htri⟩
        · exact hi2 i' (by omega)
      · refine G_w (st' := [.int (-1)]) (w' := w8 r5) rfl rfl ?_
        refine G_if_ge (tgt := 64) dX8_becomes_59 (by decide) (fun h => absurd h (by decide)) (fun _ => ?_)
        refine G_iconst (v := 0) dX8_becomes_62 (by decide) ?_
        exact G_ret (v := some (.int _)) ⟨dX8_becomes_63, _, rfl, rfl⟩ ⟨_, rfl, rfl, Or.inr ⟨fun hall => by obtain ⟨j, hj, e⟩ := hall i hh; exact hno j hj ((key j hj).mpr e), rfl⟩⟩
  exact loop _ 0 none rfl (by omega) (fun i' h' => by omega)
