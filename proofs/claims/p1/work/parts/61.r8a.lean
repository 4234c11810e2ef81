/-! The reference: what opens the graph alone. -/
set_option maxRecDepth 20000 in
set_option maxHeartbeats 1000000 in
theorem con8_thrown (d : Nat) (r : R8) : Con mX8_thrown (d) 0 0 (w8 r) [.ref 100] (fun w' v => ∃ r', w' = w8 r' ∧ r' = r ∧ v = some (.int r.th)) := by
  refine Con.of (ab_okc rfl (by decide)) (Nat.le_of_ble_eq_true rfl) ?_
  show G ab_x0 mX8_thrown (d) 0 0 _ 0 [some (.ref 100)] [] _
  refine G_aload_n dX8_thrown_0 rfl ?_
  refine G_get (f := 25) kc9 dX8_thrown_1 fX8_1 (by decide) rfl rfl ?_
  exact G_ret (v := some (.int _)) ⟨dX8_thrown_4, _, rfl, rfl⟩ ⟨r, rfl, rfl, rfl⟩
theorem con8_at (d g i : Nat) (hg : g ≤ 8) (hi : i ≤ 40) : Con mX8_at d 0 0 [] [.int (nI g), .int (nI i)] (fun w' v => w' = [] ∧ v = some (.int (nI (120 * g + 3 * i)))) := by
  refine Con.of (ab_okc rfl (by decide)) (Nat.le_of_ble_eq_true rfl) ?_
  show G ab_x0 mX8_at d 0 0 _ 0 [some (.int (nI g)), some (.int (nI i))] [] _
  refine G_bipush (v := 120) dX8_at_0 (by decide) ?_
  refine G_iload_n dX8_at_2 rfl ?_
  refine G_imul dX8_at_3 ?_
  refine G_topi (y := nI (120 * g)) (pk_mul 120 g) ?_
  refine G_iconst (v := 3) dX8_at_4 (by decide) ?_
  refine G_iload_n dX8_at_5 rfl ?_
  refine G_imul dX8_at_6 ?_
  refine G_topi (y := nI (3 * i)) (pk_mul 3 i) ?_
  refine G_iadd dX8_at_7 ?_
  refine G_topi (y := nI (120 * g + 3 * i)) (nI_add _ _) ?_
  exact G_ret (v := some (.int _)) ⟨dX8_at_8, _, rfl, rfl⟩ ⟨rfl, rfl⟩
set_option maxRecDepth 20000 in
set_option maxHeartbeats 1000000 in
theorem con8_blank (d nb : Nat) (r : R8) (hb : r.bl 8 = nI nb) (hnb : nb ≤ 8) : Con mX8_blank (d) 0 0 (w8 r) [.ref 100] (fun w' v => ∃ r', w' = w8 r' ∧ ((nb = 8 ∧ r' = ((((((r.bl, r.co), (r.po, r.ha)), ((r.nw, r.gr), r.go)), (((r.tr, r.rw), r.nm), ((r.fm, r.oc), r.ds))), ((((r.ms, r.wd), (r.sc, r.sd)), ((r.ke, r.ro), r.hs)), (((r.gc, r.nb), r.fc), ((r.de, r.si), 0)))) : R8) ∧ v = some (.int (-2))) ∨ (nb < 8 ∧ r' = ((((((upd r.bl 8 (nI (nb + 1)), r.co), (r.po, r.ha)), ((r.nw, r.gr), r.go)), (((r.tr, r.rw), r.nm), ((r.fm, r.oc), r.ds))), ((((r.ms, r.wd), (r.sc, r.sd)), ((r.ke, r.ro), 0)), (((r.gc, r.nb), r.fc), ((r.de, r.si), 0)))) : R8) ∧ v = some (.int (nI (nb + 1)))))) := by
  refine Con.of (ab_okc rfl (by decide)) (Nat.le_of_ble_eq_true rfl) ?_
  show G ab_x0 mX8_blank (d) 0 0 _ 0 [some (.ref 100)] [] _
  refine G_aload_n dX8_blank_0 rfl ?_
  refine G_iconst (v := 0) dX8_blank_1 (by decide) ?_
  refine G_put (w' := w8 ((((((r.bl, r.co), (r.po, r.ha)), ((r.nw, r.gr), r.go)), (((r.tr, r.rw), r.nm), ((r.fm, r.oc), r.ds))), ((((r.ms, r.wd), (r.sc, r.sd)), ((r.ke, r.ro), r.hs)), (((r.gc, r.nb), r.fc), ((r.de, r.si), 0)))) : R8)) (f := 25) kc9 dX8_blank_2 fX8_1 (by decide) rfl rfl rfl rfl (Nat.le_of_ble_eq_true rfl) rfl ?_
  refine G_aload_n dX8_blank_5 rfl ?_
  refine G_get (f := 1) kc9 dX8_blank_6 fX8_145 (by decide) rfl rfl ?_
  refine G_bipush (v := 8) dX8_blank_9 (by decide) ?_
  refine G_ialdN (8) dX8_blank_11 rfl rfl (by decide) (by decide) ?_
  refine G_bipush (v := 8) dX8_blank_12 (by decide) ?_
  refine G_icmp_neN (tgt := 20) nb 8 dX8_blank_14 (by decide) hb rfl (by omega) (by omega) (fun h => ?_) (fun h => ?_)
  rotate_left
  · refine G_bipush (v := (-2)) dX8_blank_17 (by decide) ?_
    exact G_ret (v := some (.int _)) ⟨dX8_blank_19, _, rfl, rfl⟩ ⟨_, rfl, Or.inl ⟨h, rfl, rfl⟩⟩
  refine G_aload_n dX8_blank_20 rfl ?_
  refine G_get (f := 1) kc9 dX8_blank_21 fX8_145 (by decide) rfl rfl ?_
  refine G_bipush (v := 8) dX8_blank_24 (by decide) ?_
  refine G_dup2 dX8_blank_26 rfl rfl ?_
  refine G_ialdN (8) dX8_blank_27 rfl rfl (by decide) (by decide) ?_
  refine G_iconst (v := 1) dX8_blank_28 (by decide) ?_
  refine G_iadd dX8_blank_29 ?_
  refine G_topi (y := nI (nb + 1)) ((congrArg (· + 1) hb).trans (nI_1 nb)) ?_
  refine G_iastN (w' := w8 ((((((upd r.bl 8 (nI (nb + 1)), r.co), (r.po, r.ha)), ((r.nw, r.gr), r.go)), (((r.tr, r.rw), r.nm), ((r.fm, r.oc), r.ds))), ((((r.ms, r.wd), (r.sc, r.sd)), ((r.ke, r.ro), r.hs)), (((r.gc, r.nb), r.fc), ((r.de, r.si), 0)))) : R8)) (8) dX8_blank_30 rfl rfl (by decide) (by decide) rfl ?_
  refine G_aload_n dX8_blank_31 rfl ?_
  refine G_iconst (v := 0) dX8_blank_32 (by decide) ?_
  refine G_put (w' := w8 ((((((upd r.bl 8 (nI (nb + 1)), r.co), (r.po, r.ha)), ((r.nw, r.gr), r.go)), (((r.tr, r.rw), r.nm), ((r.fm, r.oc), r.ds))), ((((r.ms, r.wd), (r.sc, r.sd)), ((r.ke, r.ro), 0)), (((r.gc, r.nb), r.fc), ((r.de, r.si), 0)))) : R8)) (f := 8) kc9 dX8_blank_33 fX8_241 (by decide) rfl (by decide) (by decide) rfl (Nat.le_of_ble_eq_true rfl) rfl ?_
  refine G_aload_n dX8_blank_36 rfl ?_
  refine G_get (f := 1) kc9 dX8_blank_37 fX8_145 (by decide) rfl rfl ?_
  refine G_bipush (v := 8) dX8_blank_40 (by decide) ?_
  refine G_ialdN (8) dX8_blank_42 rfl rfl (by decide) (by decide) ?_
  refine G_topi (y := nI (nb + 1)) (show upd r.bl 8 (nI (nb + 1)) 8 = _ from pk_us) ?_
  exact G_ret (v := some (.int _)) ⟨dX8_blank_43, _, rfl, rfl⟩ ⟨_, rfl, Or.inr ⟨by omega, rfl, rfl⟩⟩
def isPt (nb : Nat) (x : Int32) : Prop := if 0 < x.toInt then x.toInt ≤ 1000 else x.toInt < 0 ∧ -(nb : Int) ≤ x.toInt
theorem neg_nI {n : Nat} (h : n < 2 ^ 31) : (-(nI n)).toInt = -(n : Int) := by
  rw [Int32.toInt_neg, nI_toInt h]
  exact Int.bmod_eq_of_le (by omega) (by omega)
set_option maxRecDepth 20000 in
set_option maxHeartbeats 1000000 in
theorem con8_isPoint (d nb : Nat) (r : R8) (hb : r.bl 8 = nI nb) (hnb : nb ≤ 8) (x : Int32) : Con mX8_isPoint (d) 0 0 (w8 r) [.ref 100, .int x] (fun w' v => ∃ r', w' = w8 r' ∧ r' = r ∧ ((isPt nb x ∧ v = some (.int 1)) ∨ (¬ isPt nb x ∧ v = some (.int 0)))) := by
  refine Con.of (ab_okc rfl (by decide)) (Nat.le_of_ble_eq_true rfl) ?_
  show G ab_x0 mX8_isPoint (d) 0 0 _ 0 [some (.ref 100), some (.int x)] [] _
  have h0 : (0 : Int32).toInt = 0 := rfl
  have h1000 : (1000 : Int32).toInt = 1000 := rfl
  have yes : isPt nb x → ∀ pc, (pc = 11 ∨ pc = 35) → G ab_x0 mX8_isPoint d 0 0 (fun w' v => ∃ r', w' = w8 r' ∧ r' = r ∧ ((isPt nb x ∧ v = some (.int 1)) ∨ (¬ isPt nb x ∧ v = some (.int 0)))) pc [some (.ref 100), some (.int x)] [] (w8 r) := by
    rintro h pc (rfl | rfl)
    · refine G_iconst (v := 1) dX8_isPoint_11 (by decide) ?_
      refine G_goto (tgt := 40) dX8_isPoint_12 (by decide) ?_
      exact G_ret (v := some (.int _)) ⟨dX8_isPoint_40, _, rfl, rfl⟩ ⟨r, rfl, rfl, Or.inl ⟨h, rfl⟩⟩
    · refine G_iconst (v := 1) dX8_isPoint_35 (by decide) ?_
      refine G_goto (tgt := 40) dX8_isPoint_36 (by decide) ?_
      exact G_ret (v := some (.int _)) ⟨dX8_isPoint_40, _, rfl, rfl⟩ ⟨r, rfl, rfl, Or.inl ⟨h, rfl⟩⟩
  have no : ¬ isPt nb x → ∀ pc, (pc = 15 ∨ pc = 39) → G ab_x0 mX8_isPoint d 0 0 (fun w' v => ∃ r', w' = w8 r' ∧ r' = r ∧ ((isPt nb x ∧ v = some (.int 1)) ∨ (¬ isPt nb x ∧ v = some (.int 0)))) pc [some (.ref 100), some (.int x)] [] (w8 r) := by
    rintro h pc (rfl | rfl)
    · refine G_iconst (v := 0) dX8_isPoint_15 (by decide) ?_
      refine G_goto (tgt := 40) dX8_isPoint_16 (by decide) ?_
      exact G_ret (v := some (.int _)) ⟨dX8_isPoint_40, _, rfl, rfl⟩ ⟨r, rfl, rfl, Or.inr ⟨h, rfl⟩⟩
    · refine G_iconst (v := 0) dX8_isPoint_39 (by decide) ?_
      exact G_ret (v := some (.int _)) ⟨dX8_isPoint_40, _, rfl, rfl⟩ ⟨r, rfl, rfl, Or.inr ⟨h, rfl⟩⟩
  refine G_iload_n dX8_isPoint_0 rfl ?_
  refine G_if_le (tgt := 19) dX8_isPoint_1 (by decide) (fun h => ?_) (fun h => ?_)
  rotate_left
  · rw [le_toI, h0] at h
    refine G_iload_n dX8_isPoint_4 rfl ?_
    refine G_sipush (v := 1000) dX8_isPoint_5 (by decide) ?_
    refine G_icmp_gt (tgt := 15) dX8_isPoint_8 (by decide) (fun h2 => no ?_ 15 (Or.inl rfl)) (fun h2 => yes ?_ 11 (Or.inl rfl))
    · rw [lt_toI, h1000] at h2
      unfold isPt; rw [if_pos (by omega)]; omega
    · rw [lt_toI, h1000] at h2
      unfold isPt; rw [if_pos (by omega)]; omega
  rw [le_toI, h0] at h
  refine G_iload_n dX8_isPoint_19 rfl ?_
  refine G_if_ge (tgt := 39) dX8_isPoint_20 (by decide) (fun h2 => no ?_ 39 (Or.inr rfl)) (fun h2 => ?_)
  · rw [le_toI, h0] at h2
    unfold isPt; rw [if_neg (by omega)]; omega
  rw [le_toI, h0] at h2
  refine G_iload_n dX8_isPoint_23 rfl ?_
  refine G_aload_n dX8_isPoint_24 rfl ?_
  refine G_get (f := 1) kc9 dX8_isPoint_25 fX8_145 (by decide) rfl rfl ?_
  refine G_bipush (v := 8) dX8_isPoint_28 (by decide) ?_
  refine G_ialdN (8) dX8_isPoint_30 rfl rfl (by decide) (by decide) ?_
  refine G_ineg dX8_isPoint_31 ?_
  refine G_icmp_lt (tgt := 39) dX8_isPoint_32 (by decide) (fun h3 => no ?_ 39 (Or.inr rfl)) (fun h3 => yes ?_ 35 (Or.inr rfl))
  · rw [lt_toI, hb, neg_nI (by omega)] at h3
    unfold isPt; rw [if_neg (by omega)]; omega
  · rw [lt_toI, hb, neg_nI (by omega)] at h3
    unfold isPt; rw [if_neg (by omega)]; omega
/-- a triple stands at place b -/
def tri (f : Nat → Int32) (b : Nat) (s p o : Int32) : Prop := f b = s ∧ f (b + 1) = p ∧ f (b + 2) = o
set_option maxRecDepth 20000 in
set_option maxHeartbeats 1000000 in
theorem con8_find (d g nt : Nat) (r : R8) (hg : g ≤ 8) (hc : r.co g = nI nt) (hnt : nt ≤ 40) (s p o : Int32) : Con mX8_find (d + 1) 0 0 (w8 r) [.ref 100, .int (nI g), .int s, .int p, .int o] (fun w' v => ∃ r', w' = w8 r' ∧ r' = r ∧ ((∃ j, j < nt ∧ tri r.po (120 * g + 3 * j) s p o ∧ v = some (.int (nI j))) ∨ ((∀ j, j < nt → ¬ tri r.po (120 * g + 3 * j) s p o) ∧ v = some (.int (-1))))) := by
  refine Con.of (ab_okc rfl (by decide)) (Nat.le_of_ble_eq_true rfl) ?_
  show G ab_x0 mX8_find (d + 1) 0 0 _ 0 [some (.ref 100), some (.int (nI g)), some (.int s), some (.int p), some (.int o), none, none] [] _
  refine G_iconst (v := 0) dX8_find_0 (by decide) ?_
  refine G_istore (L' := [_, _, _, _, _, _, _]) dX8_find_1 (Nat.le_of_ble_eq_true rfl) rfl ?_
  have loop : ∀ (n i : Nat) (z : Option Value), nt - i = n → i ≤ nt → (∀ j, j < i → ¬ tri r.po (120 * g + 3 * j) s p o) → G ab_x0 mX8_find (d + 1) 0 0 (fun w' v => ∃ r', w' = w8 r' ∧ r' = r ∧ ((∃ j, j < nt ∧ tri r.po (120 * g + 3 * j) s p o ∧ v = some (.int (nI j))) ∨ ((∀ j, j < nt → ¬ tri r.po (120 * g + 3 * j) s p o) ∧ v = some (.int (-1))))) 3 [some (.ref 100), some (.int (nI g)), some (.int s), some (.int p), some (.int o), some (.int (nI i)), z] [] (w8 r) := by
    intro n
    induction n using Nat.strongRecOn with
    | ind n ih =>
      intro i z hn hi hj
      refine G_iload dX8_find_3 rfl ?_
      refine G_aload_n dX8_find_5 rfl ?_
      refine G_get (f := 2) kc9 dX8_find_6 fX8_149 (by decide) rfl rfl ?_
      refine G_iload_n dX8_find_9 rfl ?_
      refine G_ialdN (g) dX8_find_10 rfl rfl (by omega) (by decide) ?_
      refine G_icmp_geN (tgt := 69) i nt dX8_find_11 (by decide) rfl hc (by omega) (by omega) (fun h => ?_) (fun h => ?_)
      · refine G_iconst (v := -1) dX8_find_69 (by decide) ?_
        exact G_ret (v := some (.int _)) ⟨dX8_find_70, _, rfl, rfl⟩ ⟨r, rfl, rfl, Or.inr ⟨fun j h2 => hj j (by omega), rfl⟩⟩
      refine G_iload_n dX8_find_14 rfl ?_
      refine G_iload dX8_find_15 rfl ?_
      refine G_S (is := []) (fo := []) (as := [.int (nI g), .int (nI i)]) (as' := [.int (nI g), .int (nI i)]) (st := []) (k := 0) (n := 0) cX8_find_17 (con8_at _ g i (by omega) (by omega)) ab_pfx rfl (by decide) rfl rfl rfl rfl (Nat.le_of_ble_eq_true rfl) dX8_find_17 (fun w' v h => by rw [h.1]) (fun w2 v2 hq => ?_)
      obtain ⟨rfl, rfl⟩ := hq
      refine G_w (st' := [.int (nI (120 * g + 3 * i))]) (w' := w8 r) rfl rfl ?_
      have next : ¬ tri r.po (120 * g + 3 * i) s p o → G ab_x0 mX8_find (d + 1) 0 0 (fun w' v => ∃ r', w' = w8 r' ∧ r' = r ∧ ((∃ j, j < nt ∧ tri r.po (120 * g + 3 * j) s p o ∧ v = some (.int (nI j))) ∨ ((∀ j, j < nt → ¬ tri r.po (120 * g + 3 * j) s p o) ∧ v = some (.int (-1))))) 63 [some (.ref 100), some (.int (nI g)), some (.int s), some (.int p), some (.int o), some (.int (nI i)), some (.int (nI (120 * g + 3 * i)))] [] (w8 r) := by
        intro hno
        refine G_iinc (L' := [_, _, _, _, _, _, _]) (v := nI (i + 1)) dX8_find_63 rfl (nI_1 i) rfl ?_
        refine G_goto (tgt := 3) dX8_find_66 (by decide) ?_
        refine ih (nt - (i + 1)) (by omega) (i + 1) _ rfl (by omega) (fun j h2 => ?_)
        by_cases e : j = i
        · rw [e]; exact hno
        · exact hj j (by omega)
      refine G_istore (L' := [_, _, _, _, _, _, _]) dX8_find_20 (Nat.le_of_ble_eq_true rfl) rfl ?_
      refine G_aload_n dX8_find_22 rfl ?_
      refine G_get (f := 3) kc9 dX8_find_23 fX8_152 (by decide) rfl rfl ?_
      refine G_iload dX8_find_26 rfl ?_
      refine G_ialdN (120 * g + 3 * i) dX8_find_28 rfl rfl (by omega) (by decide) ?_
      refine G_iload_n dX8_find_29 rfl ?_
      refine G_icmp_ne (tgt := 63) dX8_find_30 (by decide) (fun h1 => next (fun q => h1 q.1)) (fun h1 => ?_)
      refine G_aload_n dX8_find_33 rfl ?_
      refine G_get (f := 3) kc9 dX8_find_34 fX8_152 (by decide) rfl rfl ?_
      refine G_iload dX8_find_37 rfl ?_
      refine G_iconst (v := 1) dX8_find_39 (by decide) ?_
      refine G_iadd dX8_find_40 ?_
      refine G_ialdN (120 * g + 3 * i + 1) dX8_find_41 rfl (nI_1 _) (by omega) (by decide) ?_
      refine G_iload_n dX8_find_42 rfl ?_
      refine G_icmp_ne (tgt := 63) dX8_find_43 (by decide) (fun h2 => next (fun q => h2 q.2.1)) (fun h2 => ?_)
      refine G_aload_n dX8_find_46 rfl ?_
      refine G_get (f := 3) kc9 dX8_find_47 fX8_152 (by decide) rfl rfl ?_
      refine G_iload dX8_find_50 rfl ?_
      refine G_iconst (v := 2) dX8_find_52 (by decide) ?_
      refine G_iadd dX8_find_53 ?_
      refine G_ialdN (120 * g + 3 * i + 2) dX8_find_54 rfl (nI_add _ 2) (by omega) (by decide) ?_
      refine G_iload dX8_find_55 rfl ?_
      refine G_icmp_ne (tgt := 63) dX8_find_57 (by decide) (fun h3 => next (fun q => h3 q.2.2)) (fun h3 => ?_)
      refine G_iload dX8_find_60 rfl ?_
      exact G_ret (v := some (.int _)) ⟨dX8_find_62, _, rfl, rfl⟩ ⟨r, rfl, rfl, Or.inl ⟨i, h, ⟨h1, h2, h3⟩, rfl⟩⟩
  exact loop (nt - 0) 0 none rfl (by omega) (fun j h => by omega)
set_option maxRecDepth 20000 in
set_option maxHeartbeats 1000000 in
theorem con8_isKept (d : Nat) (r : R8) (x : Int32) : Con mX8_isKept (d) 0 0 (w8 r) [.ref 100, .int x] (fun w' v => ∃ r', w' = w8 r' ∧ r' = r ∧ (((0 ≤ x.toInt ∧ x.toInt < r.ke.toInt) ∧ v = some (.int 1)) ∨ ((¬ (0 ≤ x.toInt ∧ x.toInt < r.ke.toInt)) ∧ v = some (.int 0)))) := by
  refine Con.of (ab_okc rfl (by decide)) (Nat.le_of_ble_eq_true rfl) ?_
  show G ab_x0 mX8_isKept (d) 0 0 _ 0 [some (.ref 100), some (.int x)] [] _
  have h0 : (0 : Int32).toInt = 0 := rfl
  have no : ¬ (0 ≤ x.toInt ∧ x.toInt < r.ke.toInt) → G ab_x0 mX8_isKept d 0 0 (fun w' v => ∃ r', w' = w8 r' ∧ r' = r ∧ (((0 ≤ x.toInt ∧ x.toInt < r.ke.toInt) ∧ v = some (.int 1)) ∨ ((¬ (0 ≤ x.toInt ∧ x.toInt < r.ke.toInt)) ∧ v = some (.int 0)))) 16 [some (.ref 100), some (.int x)] [] (w8 r) := by
    intro h
    refine G_iconst (v := 0) dX8_isKept_16 (by decide) ?_
    exact G_ret (v := some (.int _)) ⟨dX8_isKept_17, _, rfl, rfl⟩ ⟨r, rfl, rfl, Or.inr ⟨h, rfl⟩⟩
  refine G_iload_n dX8_isKept_0 rfl ?_
  refine G_if_lt (tgt := 16) dX8_isKept_1 (by decide) (fun h => no (by rw [lt_toI, h0] at h; omega)) (fun h => ?_)
  rw [lt_toI, h0] at h
  refine G_iload_n dX8_isKept_4 rfl ?_
  refine G_aload_n dX8_isKept_5 rfl ?_
  refine G_get (f := 4) kc9 dX8_isKept_6 fX8_337 (by decide) rfl rfl ?_
  refine G_icmp_ge (tgt := 16) dX8_isKept_9 (by decide) (fun h2 => no (by rw [le_toI] at h2; omega)) (fun h2 => ?_)
  rw [le_toI] at h2
  refine G_iconst (v := 1) dX8_isKept_12 (by decide) ?_
  refine G_goto (tgt := 17) dX8_isKept_13 (by decide) ?_
  exact G_ret (v := some (.int _)) ⟨dX8_isKept_17, _, rfl, rfl⟩ ⟨r, rfl, rfl, Or.inl ⟨by omega, rfl⟩⟩
set_option maxRecDepth 20000 in
set_option maxHeartbeats 1000000 in
theorem con8_triples (d : Nat) (r : R8) : Con mX8_triples (d) 0 0 (w8 r) [.ref 100] (fun w' v => ∃ r', w' = w8 r' ∧ r' = ((((((r.bl, r.co), (r.po, r.ha)), ((r.nw, r.gr), r.go)), (((r.tr, r.rw), r.nm), ((r.fm, r.oc), r.ds))), ((((r.ms, r.wd), (r.sc, r.sd)), ((r.ke, r.ro), r.hs)), (((r.gc, r.nb), r.fc), ((r.de, r.si), 0)))) : R8) ∧ v = some (.int (r.co 8))) := by
  refine Con.of (ab_okc rfl (by decide)) (Nat.le_of_ble_eq_true rfl) ?_
  show G ab_x0 mX8_triples (d) 0 0 _ 0 [some (.ref 100)] [] _
  refine G_aload_n dX8_triples_0 rfl ?_
  refine G_iconst (v := 0) dX8_triples_1 (by decide) ?_
  refine G_put (w' := w8 ((((((r.bl, r.co), (r.po, r.ha)), ((r.nw, r.gr), r.go)), (((r.tr, r.rw), r.nm), ((r.fm, r.oc), r.ds))), ((((r.ms, r.wd), (r.sc, r.sd)), ((r.ke, r.ro), r.hs)), (((r.gc, r.nb), r.fc), ((r.de, r.si), 0)))) : R8)) (f := 25) kc9 dX8_triples_2 fX8_1 (by decide) rfl rfl rfl rfl (Nat.le_of_ble_eq_true rfl) rfl ?_
  refine G_aload_n dX8_triples_5 rfl ?_
  refine G_get (f := 2) kc9 dX8_triples_6 fX8_149 (by decide) rfl rfl ?_
  refine G_bipush (v := 8) dX8_triples_9 (by decide) ?_
  refine G_ialdN (8) dX8_triples_11 rfl rfl (by decide) (by decide) ?_
  exact G_ret (v := some (.int _)) ⟨dX8_triples_12, _, rfl, rfl⟩ ⟨_, rfl, rfl, rfl⟩
set_option maxRecDepth 20000 in
set_option maxHeartbeats 1000000 in
theorem con8_blanks (d : Nat) (r : R8) : Con mX8_blanks (d) 0 0 (w8 r) [.ref 100] (fun w' v => ∃ r', w' = w8 r' ∧ r' = ((((((r.bl, r.co), (r.po, r.ha)), ((r.nw, r.gr), r.go)), (((r.tr, r.rw), r.nm), ((r.fm, r.oc), r.ds))), ((((r.ms, r.wd), (r.sc, r.sd)), ((r.ke, r.ro), r.hs)), (((r.gc, r.nb), r.fc), ((r.de, r.si), 0)))) : R8) ∧ v = some (.int (r.bl 8))) := by
  refine Con.of (ab_okc rfl (by decide)) (Nat.le_of_ble_eq_true rfl) ?_
  show G ab_x0 mX8_blanks (d) 0 0 _ 0 [some (.ref 100)] [] _
  refine G_aload_n dX8_blanks_0 rfl ?_
  refine G_iconst (v := 0) dX8_blanks_1 (by decide) ?_
  refine G_put (w' := w8 ((((((r.bl, r.co), (r.po, r.ha)), ((r.nw, r.gr), r.go)), (((r.tr, r.rw), r.nm), ((r.fm, r.oc), r.ds))), ((((r.ms, r.wd), (r.sc, r.sd)), ((r.ke, r.ro), r.hs)), (((r.gc, r.nb), r.fc), ((r.de, r.si), 0)))) : R8)) (f := 25) kc9 dX8_blanks_2 fX8_1 (by decide) rfl rfl rfl rfl (Nat.le_of_ble_eq_true rfl) rfl ?_
  refine G_aload_n dX8_blanks_5 rfl ?_
  refine G_get (f := 1) kc9 dX8_blanks_6 fX8_145 (by decide) rfl rfl ?_
  refine G_bipush (v := 8) dX8_blanks_9 (by decide) ?_
  refine G_ialdN (8) dX8_blanks_11 rfl rfl (by decide) (by decide) ?_
  exact G_ret (v := some (.int _)) ⟨dX8_blanks_12, _, rfl, rfl⟩ ⟨_, rfl, rfl, rfl⟩
set_option maxRecDepth 20000 in
set_option maxHeartbeats 1000000 in
theorem con8_triple (d nb nt : Nat) (r : R8) (hb : r.bl 8 = nI nb) (hnb : nb ≤ 8) (hc : r.co 8 = nI nt) (hnt : nt ≤ 40) (s p o : Int32) : Con mX8_triple (d + 2) 0 0 (w8 r) [.ref 100, .int s, .int p, .int o] (fun w' v => ∃ r', w' = w8 r' ∧ (((¬ (isPt nb s ∧ isPt nb p ∧ isPt nb o)) ∧ r' = ((((((r.bl, r.co), (r.po, r.ha)), ((r.nw, r.gr), r.go)), (((r.tr, r.rw), r.nm), ((r.fm, r.oc), r.ds))), ((((r.ms, r.wd), (r.sc, r.sd)), ((r.ke, r.ro), r.hs)), (((r.gc, r.nb), r.fc), ((r.de, r.si), 0)))) : R8) ∧ v = some (.int (-1))) ∨ ((isPt nb s ∧ isPt nb p ∧ isPt nb o) ∧ (((∃ j, j < nt ∧ tri r.po (960 + 3 * j) s p o) ∧ r' = ((((((r.bl, r.co), (r.po, r.ha)), ((r.nw, r.gr), r.go)), (((r.tr, r.rw), r.nm), ((r.fm, r.oc), r.ds))), ((((r.ms, r.wd), (r.sc, r.sd)), ((r.ke, r.ro), r.hs)), (((r.gc, r.nb), r.fc), ((r.de, r.si), 0)))) : R8) ∧ v = some (.int 0)) ∨ ((¬ ∃ j, j < nt ∧ tri r.po (960 + 3 * j) s p o) ∧ ((nt = 40 ∧ r' = ((((((r.bl, r.co), (r.po, r.ha)), ((r.nw, r.gr), r.go)), (((r.tr, r.rw), r.nm), ((r.fm, r.oc), r.ds))), ((((r.ms, r.wd), (r.sc, r.sd)), ((r.ke, r.ro), r.hs)), (((r.gc, r.nb), r.fc), ((r.de, r.si), 0)))) : R8) ∧ v = some (.int (-2))) ∨ (nt < 40 ∧ r' = ((((((r.bl, upd r.co 8 (nI (nt + 1))), (upd (upd (upd r.po (960 + 3 * nt) s) (960 + 3 * nt + 1) p) (960 + 3 * nt + 2) o, r.ha)), ((r.nw, r.gr), r.go)), (((r.tr, r.rw), r.nm), ((r.fm, r.oc), r.ds))), ((((r.ms, r.wd), (r.sc, r.sd)), ((r.ke, r.ro), 0)), (((r.gc, r.nb), r.fc), ((r.de, r.si), 0)))) : R8) ∧ v = some (.int 1)))))))) := by
  refine Con.of (ab_okc rfl (by decide)) (Nat.le_of_ble_eq_true rfl) ?_
  show G ab_x0 mX8_triple (d + 2) 0 0 _ 0 [some (.ref 100), some (.int s), some (.int p), some (.int o), none] [] _
  have bad : ¬ (isPt nb s ∧ isPt nb p ∧ isPt nb o) → G ab_x0 mX8_triple (d + 2) 0 0 (fun w' v => ∃ r', w' = w8 r' ∧ (((¬ (isPt nb s ∧ isPt nb p ∧ isPt nb o)) ∧ r' = ((((((r.bl, r.co), (r.po, r.ha)), ((r.nw, r.gr), r.go)), (((r.tr, r.rw), r.nm), ((r.fm, r.oc), r.ds))), ((((r.ms, r.wd), (r.sc, r.sd)), ((r.ke, r.ro), r.hs)), (((r.gc, r.nb), r.fc), ((r.de, r.si), 0)))) : R8) ∧ v = some (.int (-1))) ∨ ((isPt nb s ∧ isPt nb p ∧ isPt nb o) ∧ (((∃ j, j < nt ∧ tri r.po (960 + 3 * j) s p o) ∧ r' = ((((((r.bl, r.co), (r.po, r.ha)), ((r.nw, r.gr), r.go)), (((r.tr, r.rw), r.nm), ((r.fm, r.oc), r.ds))), ((((r.ms, r.wd), (r.sc, r.sd)), ((r.ke, r.ro), r.hs)), (((r.gc, r.nb), r.fc), ((r.de, r.si), 0)))) : R8) ∧ v = some (.int 0)) ∨ ((¬ ∃ j, j < nt ∧ tri r.po (960 + 3 * j) s p o) ∧ ((nt = 40 ∧ r' = ((((((r.bl, r.co), (r.po, r.ha)), ((r.nw, r.gr), r.go)), (((r.tr, r.rw), r.nm), ((r.fm, r.oc), r.ds))), ((((r.ms, r.wd), (r.sc, r.sd)), ((r.ke, r.ro), r.hs)), (((r.gc, r.nb), r.fc), ((r.de, r.si), 0)))) : R8) ∧ v = some (.int (-2))) ∨ (nt < 40 ∧ r' = ((((((r.bl, upd r.co 8 (nI (nt + 1))), (upd (upd (upd r.po (960 + 3 * nt) s) (960 + 3 * nt + 1) p) (960 + 3 * nt + 2) o, r.ha)), ((r.nw, r.gr), r.go)), (((r.tr, r.rw), r.nm), ((r.fm, r.oc), r.ds))), ((((r.ms, r.wd), (r.sc, r.sd)), ((r.ke, r.ro), 0)), (((r.gc, r.nb), r.fc), ((r.de, r.si), 0)))) : R8) ∧ v = some (.int 1)))))))) 29 [some (.ref 100), some (.int s), some (.int p), some (.int o), none] [] (w8 ((((((r.bl, r.co), (r.po, r.ha)), ((r.nw, r.gr), r.go)), (((r.tr, r.rw), r.nm), ((r.fm, r.oc), r.ds))), ((((r.ms, r.wd), (r.sc, r.sd)), ((r.ke, r.ro), r.hs)), (((r.gc, r.nb), r.fc), ((r.de, r.si), 0)))) : R8)) := by
    intro h
    refine G_iconst (v := -1) dX8_triple_29 (by decide) ?_
    exact G_ret (v := some (.int _)) ⟨dX8_triple_30, _, rfl, rfl⟩ ⟨_, rfl, Or.inl ⟨h, rfl, rfl⟩⟩
  refine G_aload_n dX8_triple_0 rfl ?_
  refine G_iconst (v := 0) dX8_triple_1 (by decide) ?_
  refine G_put (w' := w8 ((((((r.bl, r.co), (r.po, r.ha)), ((r.nw, r.gr), r.go)), (((r.tr, r.rw), r.nm), ((r.fm, r.oc), r.ds))), ((((r.ms, r.wd), (r.sc, r.sd)), ((r.ke, r.ro), r.hs)), (((r.gc, r.nb), r.fc), ((r.de, r.si), 0)))) : R8)) (f := 25) kc9 dX8_triple_2 fX8_1 (by decide) rfl rfl rfl rfl (Nat.le_of_ble_eq_true rfl) rfl ?_
  refine G_aload_n dX8_triple_5 rfl ?_
  refine G_iload_n dX8_triple_6 rfl ?_
  refine G_V8 (as := [.int s]) (st := []) cX8_triple_7 (con8_isPoint (d + 1) nb ((((((r.bl, r.co), (r.po, r.ha)), ((r.nw, r.gr), r.go)), (((r.tr, r.rw), r.nm), ((r.fm, r.oc), r.ds))), ((((r.ms, r.wd), (r.sc, r.sd)), ((r.ke, r.ro), r.hs)), (((r.gc, r.nb), r.fc), ((r.de, r.si), 0)))) : R8) hb hnb s) rfl rfl rfl rfl rfl (Nat.le_of_ble_eq_true rfl) dX8_triple_7 (fun r2 v2 hq => ?_)
  obtain ⟨rfl, hq⟩ := hq
  rcases hq with ⟨h0, rfl⟩ | ⟨h0, rfl⟩
  rotate_left
  · refine G_w (st' := [.int 0]) (w' := w8 ((((((r.bl, r.co), (r.po, r.ha)), ((r.nw, r.gr), r.go)), (((r.tr, r.rw), r.nm), ((r.fm, r.oc), r.ds))), ((((r.ms, r.wd), (r.sc, r.sd)), ((r.ke, r.ro), r.hs)), (((r.gc, r.nb), r.fc), ((r.de, r.si), 0)))) : R8)) rfl rfl ?_
    refine G_if_eq (tgt := 29) dX8_triple_10 (by decide) (fun _ => bad (fun q => (by first | exact h0 q.1 | exact h1 q.2.1 | exact h2 q.2.2))) (fun h => absurd rfl h)
  refine G_w (st' := [.int 1]) (w' := w8 ((((((r.bl, r.co), (r.po, r.ha)), ((r.nw, r.gr), r.go)), (((r.tr, r.rw), r.nm), ((r.fm, r.oc), r.ds))), ((((r.ms, r.wd), (r.sc, r.sd)), ((r.ke, r.ro), r.hs)), (((r.gc, r.nb), r.fc), ((r.de, r.si), 0)))) : R8)) rfl rfl ?_
  refine G_if_eq (tgt := 29) dX8_triple_10 (by decide) (fun h => absurd h (by decide)) (fun _ => ?_)
  refine G_aload_n dX8_triple_13 rfl ?_
  refine G_iload_n dX8_triple_14 rfl ?_
  refine G_V8 (as := [.int p]) (st := []) cX8_triple_15 (con8_isPoint (d + 1) nb ((((((r.bl, r.co), (r.po, r.ha)), ((r.nw, r.gr), r.go)), (((r.tr, r.rw), r.nm), ((r.fm, r.oc), r.ds))), ((((r.ms, r.wd), (r.sc, r.sd)), ((r.ke, r.ro), r.hs)), (((r.gc, r.nb), r.fc), ((r.de, r.si), 0)))) : R8) hb hnb p) rfl rfl rfl rfl rfl (Nat.le_of_ble_eq_true rfl) dX8_triple_15 (fun r2 v2 hq => ?_)
  obtain ⟨rfl, hq⟩ := hq
  rcases hq with ⟨h1, rfl⟩ | ⟨h1, rfl⟩
  rotate_left
  · refine G_w (st' := [.int 0]) (w' := w8 ((((((r.bl, r.co), (r.po, r.ha)), ((r.nw, r.gr), r.go)), (((r.tr, r.rw), r.nm), ((r.fm, r.oc), r.ds))), ((((r.ms, r.wd), (r.sc, r.sd)), ((r.ke, r.ro), r.hs)), (((r.gc, r.nb), r.fc), ((r.de, r.si), 0)))) : R8)) rfl rfl ?_
    refine G_if_eq (tgt := 29) dX8_triple_18 (by decide) (fun _ => bad (fun q => (by first | exact h0 q.1 | exact h1 q.2.1 | exact h2 q.2.2))) (fun h => absurd rfl h)
  refine G_w (st' := [.int 1]) (w' := w8 ((((((r.bl, r.co), (r.po, r.ha)), ((r.nw, r.gr), r.go)), (((r.tr, r.rw), r.nm), ((r.fm, r.oc), r.ds))), ((((r.ms, r.wd), (r.sc, r.sd)), ((r.ke, r.ro), r.hs)), (((r.gc, r.nb), r.fc), ((r.de, r.si), 0)))) : R8)) rfl rfl ?_
  refine G_if_eq (tgt := 29) dX8_triple_18 (by decide) (fun h => absurd h (by decide)) (fun _ => ?_)
  refine G_aload_n dX8_triple_21 rfl ?_
  refine G_iload_n dX8_triple_22 rfl ?_
  refine G_V8 (as := [.int o]) (st := []) cX8_triple_23 (con8_isPoint (d + 1) nb ((((((r.bl, r.co), (r.po, r.ha)), ((r.nw, r.gr), r.go)), (((r.tr, r.rw), r.nm), ((r.fm, r.oc), r.ds))), ((((r.ms, r.wd), (r.sc, r.sd)), ((r.ke, r.ro), r.hs)), (((r.gc, r.nb), r.fc), ((r.de, r.si), 0)))) : R8) hb hnb o) rfl rfl rfl rfl rfl (Nat.le_of_ble_eq_true rfl) dX8_triple_23 (fun r2 v2 hq => ?_)
  obtain ⟨rfl, hq⟩ := hq
  rcases hq with ⟨h2, rfl⟩ | ⟨h2, rfl⟩
  rotate_left
  · refine G_w (st' := [.int 0]) (w' := w8 ((((((r.bl, r.co), (r.po, r.ha)), ((r.nw, r.gr), r.go)), (((r.tr, r.rw), r.nm), ((r.fm, r.oc), r.ds))), ((((r.ms, r.wd), (r.sc, r.sd)), ((r.ke, r.ro), r.hs)), (((r.gc, r.nb), r.fc), ((r.de, r.si), 0)))) : R8)) rfl rfl ?_
    refine G_if_ne (tgt := 31) dX8_triple_26 (by decide) (fun h => absurd rfl h) (fun _ => bad (fun q => (by first | exact h0 q.1 | exact h1 q.2.1 | exact h2 q.2.2)))
  refine G_w (st' := [.int 1]) (w' := w8 ((((((r.bl, r.co), (r.po, r.ha)), ((r.nw, r.gr), r.go)), (((r.tr, r.rw), r.nm), ((r.fm, r.oc), r.ds))), ((((r.ms, r.wd), (r.sc, r.sd)), ((r.ke, r.ro), r.hs)), (((r.gc, r.nb), r.fc), ((r.de, r.si), 0)))) : R8)) rfl rfl ?_
  refine G_if_ne (tgt := 31) dX8_triple_26 (by decide) (fun _ => ?_) (fun h => absurd h (by decide))
  refine G_aload_n dX8_triple_31 rfl ?_
  refine G_bipush (v := 8) dX8_triple_32 (by decide) ?_
  refine G_iload_n dX8_triple_34 rfl ?_
  refine G_iload_n dX8_triple_35 rfl ?_
  refine G_iload_n dX8_triple_36 rfl ?_
  refine G_V8 (as := [.int (nI 8), .int s, .int p, .int o]) (st := []) cX8_triple_37 (con8_find d 8 nt ((((((r.bl, r.co), (r.po, r.ha)), ((r.nw, r.gr), r.go)), (((r.tr, r.rw), r.nm), ((r.fm, r.oc), r.ds))), ((((r.ms, r.wd), (r.sc, r.sd)), ((r.ke, r.ro), r.hs)), (((r.gc, r.nb), r.fc), ((r.de, r.si), 0)))) : R8) (by omega) hc hnt s p o) rfl rfl rfl rfl rfl (Nat.le_of_ble_eq_true rfl) dX8_triple_37 (fun r2 v2 hq => ?_)
  obtain ⟨rfl, hq⟩ := hq
  rcases hq with ⟨j, hj, htri, rfl⟩ | ⟨hno, rfl⟩
  · refine G_w (st' := [.int (nI j)]) (w' := w8 ((((((r.bl, r.co), (r.po, r.ha)), ((r.nw, r.gr), r.go)), (((r.tr, r.rw), r.nm), ((r.fm, r.oc), r.ds))), ((((r.ms, r.wd), (r.sc, r.sd)), ((r.ke, r.ro), r.hs)), (((r.gc, r.nb), r.fc), ((r.de, r.si), 0)))) : R8)) rfl rfl ?_
    refine G_if_lt (tgt := 45) dX8_triple_40 (by decide) (fun h => absurd h (nI_pos (by omega))) (fun _ => ?_)
    refine G_iconst (v := 0) dX8_triple_43 (by decide) ?_
    exact G_ret (v := some (.int _)) ⟨dX8_triple_44, _, rfl, rfl⟩ ⟨_, rfl, Or.inr ⟨⟨h0, h1, h2⟩, Or.inl ⟨⟨j, hj, htri⟩, rfl, rfl⟩⟩⟩
  have hno' : ¬ ∃ j, j < nt ∧ tri r.po (960 + 3 * j) s p o := fun ⟨j, a, b⟩ => hno j a b
  refine G_w (st' := [.int (-1)]) (w' := w8 ((((((r.bl, r.co), (r.po, r.ha)), ((r.nw, r.gr), r.go)), (((r.tr, r.rw), r.nm), ((r.fm, r.oc), r.ds))), ((((r.ms, r.wd), (r.sc, r.sd)), ((r.ke, r.ro), r.hs)), (((r.gc, r.nb), r.fc), ((r.de, r.si), 0)))) : R8)) rfl rfl ?_
  refine G_if_lt (tgt := 45) dX8_triple_40 (by decide) (fun _ => ?_) (fun h => absurd (by decide) h)
  refine G_aload_n dX8_triple_45 rfl ?_
  refine G_get (f := 2) kc9 dX8_triple_46 fX8_149 (by decide) rfl rfl ?_
  refine G_bipush (v := 8) dX8_triple_49 (by decide) ?_
  refine G_ialdN (8) dX8_triple_51 rfl rfl (by decide) (by decide) ?_
  refine G_bipush (v := 40) dX8_triple_52 (by decide) ?_
  refine G_icmp_neN (tgt := 60) nt 40 dX8_triple_54 (by decide) hc rfl (by omega) (by omega) (fun h => ?_) (fun h => ?_)
  rotate_left
  · refine G_bipush (v := -2) dX8_triple_57 (by decide) ?_
    exact G_ret (v := some (.int _)) ⟨dX8_triple_59, _, rfl, rfl⟩ ⟨_, rfl, Or.inr ⟨⟨h0, h1, h2⟩, Or.inr ⟨hno', Or.inl ⟨h, rfl, rfl⟩⟩⟩⟩
  refine G_bipush (v := 8) dX8_triple_60 (by decide) ?_
  refine G_aload_n dX8_triple_62 rfl ?_
  refine G_get (f := 2) kc9 dX8_triple_63 fX8_149 (by decide) rfl rfl ?_
  refine G_bipush (v := 8) dX8_triple_66 (by decide) ?_
  refine G_ialdN (8) dX8_triple_68 rfl rfl (by decide) (by decide) ?_
  refine G_topi hc ?_
  refine G_S (is := []) (fo := []) (as := [.int (nI 8), .int (nI nt)]) (as' := [.int (nI 8), .int (nI nt)]) (st := []) (k := 0) (n := 0) cX8_triple_69 (con8_at _ 8 nt (by omega) (by omega)) ab_pfx rfl (by decide) rfl rfl rfl rfl (Nat.le_of_ble_eq_true rfl) dX8_triple_69 (fun w' v h => by rw [h.1]) (fun w2 v2 hq => ?_)
  obtain ⟨rfl, rfl⟩ := hq
  refine G_w (st' := [.int (nI (960 + 3 * nt))]) (w' := w8 ((((((r.bl, r.co), (r.po, r.ha)), ((r.nw, r.gr), r.go)), (((r.tr, r.rw), r.nm), ((r.fm, r.oc), r.ds))), ((((r.ms, r.wd), (r.sc, r.sd)), ((r.ke, r.ro), r.hs)), (((r.gc, r.nb), r.fc), ((r.de, r.si), 0)))) : R8)) rfl rfl ?_
  refine G_istore (L' := [_, _, _, _, _]) dX8_triple_72 (Nat.le_of_ble_eq_true rfl) rfl ?_
  refine G_aload_n dX8_triple_74 rfl ?_
  refine G_get (f := 3) kc9 dX8_triple_75 fX8_152 (by decide) rfl rfl ?_
  refine G_iload dX8_triple_78 rfl ?_
  refine G_iload_n dX8_triple_80 rfl ?_
  refine G_iastN (w' := w8 ((((((r.bl, r.co), (upd r.po (960 + 3 * nt) s, r.ha)), ((r.nw, r.gr), r.go)), (((r.tr, r.rw), r.nm), ((r.fm, r.oc), r.ds))), ((((r.ms, r.wd), (r.sc, r.sd)), ((r.ke, r.ro), r.hs)), (((r.gc, r.nb), r.fc), ((r.de, r.si), 0)))) : R8)) (960 + 3 * nt) dX8_triple_81 rfl rfl (by omega) (by decide) rfl ?_
  refine G_aload_n dX8_triple_82 rfl ?_
  refine G_get (f := 3) kc9 dX8_triple_83 fX8_152 (by decide) rfl rfl ?_
  refine G_iload dX8_triple_86 rfl ?_
  refine G_iconst (v := 1) dX8_triple_88 (by decide) ?_
  refine G_iadd dX8_triple_89 ?_
  refine G_iload_n dX8_triple_90 rfl ?_
  refine G_iastN (w' := w8 ((((((r.bl, r.co), (upd (upd r.po (960 + 3 * nt) s) (960 + 3 * nt + 1) p, r.ha)), ((r.nw, r.gr), r.go)), (((r.tr, r.rw), r.nm), ((r.fm, r.oc), r.ds))), ((((r.ms, r.wd), (r.sc, r.sd)), ((r.ke, r.ro), r.hs)), (((r.gc, r.nb), r.fc), ((r.de, r.si), 0)))) : R8)) (960 + 3 * nt + 1) dX8_triple_91 rfl (nI_1 _) (by omega) (by decide) rfl ?_
  refine G_aload_n dX8_triple_92 rfl ?_
  refine G_get (f := 3) kc9 dX8_triple_93 fX8_152 (by decide) rfl rfl ?_
  refine G_iload dX8_triple_96 rfl ?_
  refine G_iconst (v := 2) dX8_triple_98 (by decide) ?_
  refine G_iadd dX8_triple_99 ?_
  refine G_iload_n dX8_triple_100 rfl ?_
  refine G_iastN (w' := w8 ((((((r.bl, r.co), (upd (upd (upd r.po (960 + 3 * nt) s) (960 + 3 * nt + 1) p) (960 + 3 * nt + 2) o, r.ha)), ((r.nw, r.gr), r.go)), (((r.tr, r.rw), r.nm), ((r.fm, r.oc), r.ds))), ((((r.ms, r.wd), (r.sc, r.sd)), ((r.ke, r.ro), r.hs)), (((r.gc, r.nb), r.fc), ((r.de, r.si), 0)))) : R8)) (960 + 3 * nt + 2) dX8_triple_101 rfl (nI_add _ 2) (by omega) (by decide) rfl ?_
  refine G_aload_n dX8_triple_102 rfl ?_
  refine G_get (f := 2) kc9 dX8_triple_103 fX8_149 (by decide) rfl rfl ?_
  refine G_bipush (v := 8) dX8_triple_106 (by decide) ?_
  refine G_dup2 dX8_triple_108 rfl rfl ?_
  refine G_ialdN (8) dX8_triple_109 rfl rfl (by decide) (by decide) ?_
  refine G_iconst (v := 1) dX8_triple_110 (by decide) ?_
  refine G_iadd dX8_triple_111 ?_
  refine G_topi (y := nI (nt + 1)) ((congrArg (· + 1) hc).trans (nI_1 nt)) ?_
  refine G_iastN (w' := w8 ((((((r.bl, upd r.co 8 (nI (nt + 1))), (upd (upd (upd r.po (960 + 3 * nt) s) (960 + 3 * nt + 1) p) (960 + 3 * nt + 2) o, r.ha)), ((r.nw, r.gr), r.go)), (((r.tr, r.rw), r.nm), ((r.fm, r.oc), r.ds))), ((((r.ms, r.wd), (r.sc, r.sd)), ((r.ke, r.ro), r.hs)), (((r.gc, r.nb), r.fc), ((r.de, r.si), 0)))) : R8)) (8) dX8_triple_112 rfl rfl (by decide) (by decide) rfl ?_
  refine G_aload_n dX8_triple_113 rfl ?_
  refine G_iconst (v := 0) dX8_triple_114 (by decide) ?_
  refine G_put (w' := w8 ((((((r.bl, upd r.co 8 (nI (nt + 1))), (upd (upd (upd r.po (960 + 3 * nt) s) (960 + 3 * nt + 1) p) (960 + 3 * nt + 2) o, r.ha)), ((r.nw, r.gr), r.go)), (((r.tr, r.rw), r.nm), ((r.fm, r.oc), r.ds))), ((((r.ms, r.wd), (r.sc, r.sd)), ((r.ke, r.ro), 0)), (((r.gc, r.nb), r.fc), ((r.de, r.si), 0)))) : R8)) (f := 8) kc9 dX8_triple_115 fX8_241 (by decide) rfl (by decide) (by decide) rfl (Nat.le_of_ble_eq_true rfl) rfl ?_
  refine G_iconst (v := 1) dX8_triple_118 (by decide) ?_
  exact G_ret (v := some (.int _)) ⟨dX8_triple_119, _, rfl, rfl⟩ ⟨_, rfl, Or.inr ⟨⟨h0, h1, h2⟩, Or.inr ⟨hno', Or.inr ⟨by omega, rfl, rfl⟩⟩⟩⟩
