/-! Matcher: readLasts, keepsTriples, fits. Two forms: _D: another graph is the target; _S: the graph itself. -/
def lb1 (P : Nat) : Nat := if P < 8 then 8 - P else 0
/-- the greatest blank of a triple, from 1; 0 without blanks -/
def lb (K : Nat) : Nat := max (max (lb1 (kp K 0)) (lb1 (kp K 1))) (lb1 (kp K 2))
theorem lb1_le (P : Nat) : lb1 P ≤ 8 := by unfold lb1; split <;> omega
theorem lb_le (K : Nat) : lb K ≤ 8 := by
  have h0 := lb1_le (kp K 0)
  have h1 := lb1_le (kp K 1)
  have h2 := lb1_le (kp K 2)
  unfold lb
  omega
theorem rn_congr {g h : Nat → Nat} {P n : Nat} (hl : lb1 P ≤ n) (e : ∀ c, c < n → g c = h c) : rn g P = rn h P := by
  unfold rn
  unfold lb1 at hl
  split
  · rw [if_pos (by assumption)] at hl
    rw [e _ (by omega)]
  · rfl
theorem rnK_congr {g h : Nat → Nat} {K n : Nat} (hl : lb K ≤ n) (e : ∀ c, c < n → g c = h c) : rnK g K = rnK h K := by
  unfold lb at hl
  unfold rnK
  rw [rn_congr (by omega) e, rn_congr (by omega) e, rn_congr (by omega) e]
abbrev xS (I La K R : Nat → Int32) (nb nt : Nat) (hs ro cv : Int32) (t1 t2 t3 : Nat) : List ab_C := [.inr (5, [.ref 101, .ref 102]), cI 8 I, cI 40 La, .inr (1, [.ref 104, .int (nI nb), .int (nI nt), .int hs, .int ro, .ref 105]), cI 40 K, .inr (2, [.ref t1, .ref t2, .ref 106, .ref t3, .int cv]), cI 8 R]
abbrev xD (I La K R : Nat → Int32) (nb nt : Nat) (hs ro cv : Int32) (t1 t2 t3 : Nat) (K' R' : Nat → Int32) (nb' nt' : Nat) (hs' ro' cv' : Int32) (t4 t5 t6 : Nat) : List ab_C := [.inr (5, [.ref 101, .ref 102]), cI 8 I, cI 40 La, .inr (1, [.ref 104, .int (nI nb), .int (nI nt), .int hs, .int ro, .ref 105]), cI 40 K, .inr (2, [.ref t1, .ref t2, .ref 106, .ref t3, .int cv]), cI 8 R, .inr (1, [.ref 108, .int (nI nb'), .int (nI nt'), .int hs', .int ro', .ref 109]), cI 40 K', .inr (2, [.ref t4, .ref t5, .ref 110, .ref t6, .int cv']), cI 8 R']
/-- the triples whose greatest blank is the one told have images in the target -/
def kT (k : Nat → Nat) (nt : Nat) (K' : Nat → Int32) (nt' : Nat) (g : Nat → Nat) (lst : Nat) : Prop := ∀ i, i < nt → lb (k i) = lst → ∃ j, j < nt' ∧ K' j = nI (rnK g (k i))
theorem la_eq : ∀ a, a ≤ 8 → ∀ b, b ≤ 8 → (nI a - 1 = nI b - 1 ↔ a = b) := by decide
theorem mx_last : ∀ a, a ≤ 8 → ∀ P, P < 8 → (if nI a - 1 < (-1) - (nI P - 8) then (-1) - (nI P - 8) else nI a - 1) = nI (max a (lb1 P)) - 1 := by decide
theorem mx_last2 {a P : Nat} (ha : a ≤ 8) (hP : P < 1024) : (if nI a - 1 < (-1) - (nI P - 8) then (-1) - (nI P - 8) else nI a - 1) = nI (max a (lb1 P)) - 1 := by
  by_cases h : P < 8
  · exact mx_last a ha P h
  · have e : lb1 P = 0 := by unfold lb1; rw [if_neg h]
    have h1 : ¬ nI a - 1 < (-1) - (nI P - 8) := by
      have h2 : nI P - 8 = nI (P - 8) := pk_sub (a := P) (b := 8) (by omega)
      rw [h2, Int32.lt_iff_toInt_lt]
      have h3 : ((-1 : Int32) - nI (P - 8)).toInt = -1 - ((P - 8 : Nat) : Int) := by
        rw [Int32.toInt_sub, nI_toInt (by omega)]
        show Int.bmod (-1 - ((P - 8 : Nat) : Int)) (2 ^ 32) = _
        exact Int.bmod_eq_of_le (by omega) (by omega)
      have h4 : ∀ q, q ≤ 8 → -1 ≤ (nI q - 1).toInt := by decide
      have := h4 a ha
      rw [h3]
      omega
    rw [if_neg h1, e, Nat.max_zero]
set_option maxRecDepth 20000 in
theorem con_readLasts (d nt : Nat) (hn : nt ≤ 40) (La K : Nat → Int32) (k : Nat → Nat) (hK : ∀ i, i < nt → K i = nI (k i) ∧ k i < 2 ^ 30) (bv hs ro : Int32) (t1 t2 : Nat) : Con mX4_readLasts (d + 2) 0 0 [.inr (5, [.ref t1, .ref 101]), cI 40 La, .inr (1, [.ref 103, .int bv, .int (nI nt), .int hs, .int ro, .ref t2]), cI 40 K] [.ref 100, .ref 102] (fun w' v => v = none ∧ ∃ La2, w' = [.inr (5, [.ref t1, .ref 101]), cI 40 La2, .inr (1, [.ref 103, .int bv, .int (nI nt), .int hs, .int ro, .ref t2]), cI 40 K] ∧ ∀ i, i < nt → La2 i = nI (lb (k i)) - 1) := by
  refine Con.of (ab_okc rfl (by decide)) (Nat.le_of_ble_eq_true rfl) ?_
  show G ab_x0 mX4_readLasts (d + 2) 0 0 _ 0 [some (.ref 100), some (.ref 102), none, none] [] _
  refine G_iconst (v := 0) dX4_readLasts_0 (by decide) ?_
  refine G_istore_n (L' := [_, _, _, _]) dX4_readLasts_1 (Nat.le_of_ble_eq_true rfl) rfl ?_
  have outer : ∀ (i : Nat) (La : Nat → Int32) (z : Option Value), i ≤ nt → (∀ j, j < i → La j = nI (lb (k j)) - 1) → G ab_x0 mX4_readLasts (d + 2) 0 0 (fun w' v => v = none ∧ ∃ La2, w' = [.inr (5, [.ref t1, .ref 101]), cI 40 La2, .inr (1, [.ref 103, .int bv, .int (nI nt), .int hs, .int ro, .ref t2]), cI 40 K] ∧ ∀ i, i < nt → La2 i = nI (lb (k i)) - 1) 2 [some (.ref 100), some (.ref 102), some (.int (nI i)), z] [] [.inr (5, [.ref t1, .ref 101]), cI 40 La, .inr (1, [.ref 103, .int bv, .int (nI nt), .int hs, .int ro, .ref t2]), cI 40 K] := by
    intro i
    induction hm : nt - i using Nat.strongRecOn generalizing i with
    | ind m ih =>
      subst hm
      intro La z hi hL
      refine G_iload_n dX4_readLasts_2 rfl ?_
      refine G_aload_n dX4_readLasts_3 rfl ?_
      refine G_get (f := 2) kc1 dX4_readLasts_4 fX4_39 (by decide) rfl rfl ?_
      refine G_icmp_geN (tgt := 63) i nt dX4_readLasts_7 (by decide) rfl rfl (by omega) (by omega) (fun hge => ?_) (fun hlt => ?_)
      · exact G_ret (v := none) ⟨dX4_readLasts_63, rfl⟩ ⟨rfl, La, rfl, fun j hj => hL j (by omega)⟩
      obtain ⟨hK1, hK2⟩ := hK i hlt
      refine G_aload_n dX4_readLasts_10 rfl ?_
      refine G_get (f := 1) kc5 dX4_readLasts_11 fX4_15 (by decide) rfl rfl ?_
      refine G_iload_n dX4_readLasts_14 rfl ?_
      refine G_iconst (v := (-1)) dX4_readLasts_15 (by decide) ?_
      refine G_iastN (w' := [_, _, _, _]) i dX4_readLasts_16 rfl rfl (by omega) (by omega) rfl ?_
      refine G_iconst (v := 0) dX4_readLasts_17 (by decide) ?_
      refine G_istore_n (L' := [_, _, _, _]) dX4_readLasts_18 (Nat.le_of_ble_eq_true rfl) rfl ?_
      have stp : ∀ (p a : Nat) (La : Nat → Int32), p < 3 → a ≤ 8 → La i = nI a - 1 → (∀ La2 : Nat → Int32, (∀ j, j ≠ i → La2 j = La j) → La2 i = nI (max a (lb1 (kp (k i) p))) - 1 → G ab_x0 mX4_readLasts (d + 2) 0 0 (fun w' v => v = none ∧ ∃ La2, w' = [.inr (5, [.ref t1, .ref 101]), cI 40 La2, .inr (1, [.ref 103, .int bv, .int (nI nt), .int hs, .int ro, .ref t2]), cI 40 K] ∧ ∀ i, i < nt → La2 i = nI (lb (k i)) - 1) 19 [some (.ref 100), some (.ref 102), some (.int (nI i)), some (.int (nI (p + 1)))] [] [.inr (5, [.ref t1, .ref 101]), cI 40 La2, .inr (1, [.ref 103, .int bv, .int (nI nt), .int hs, .int ro, .ref t2]), cI 40 K]) → G ab_x0 mX4_readLasts (d + 2) 0 0 (fun w' v => v = none ∧ ∃ La2, w' = [.inr (5, [.ref t1, .ref 101]), cI 40 La2, .inr (1, [.ref 103, .int bv, .int (nI nt), .int hs, .int ro, .ref t2]), cI 40 K] ∧ ∀ i, i < nt → La2 i = nI (lb (k i)) - 1) 19 [some (.ref 100), some (.ref 102), some (.int (nI i)), some (.int (nI p))] [] [.inr (5, [.ref t1, .ref 101]), cI 40 La, .inr (1, [.ref 103, .int bv, .int (nI nt), .int hs, .int ro, .ref t2]), cI 40 K] := by
        intro p a La hp ha hLa kk
        refine G_iload_n dX4_readLasts_19 rfl ?_
        refine G_iconst (v := 3) dX4_readLasts_20 (by decide) ?_
        refine G_icmp_geN (tgt := 57) p 3 dX4_readLasts_21 (by decide) rfl rfl (by omega) (by omega) (fun h => by omega) (fun _ => ?_)
        refine G_aload_n dX4_readLasts_24 rfl ?_
        refine G_get (f := 1) kc5 dX4_readLasts_25 fX4_15 (by decide) rfl rfl ?_
        refine G_iload_n dX4_readLasts_28 rfl ?_
        refine G_aload_n dX4_readLasts_29 rfl ?_
        refine G_get (f := 1) kc5 dX4_readLasts_30 fX4_15 (by decide) rfl rfl ?_
        refine G_iload_n dX4_readLasts_33 rfl ?_
        refine G_ialdN i dX4_readLasts_34 rfl rfl (by omega) (by omega) ?_
        rw [hLa]
        refine G_iconst (v := (-1)) dX4_readLasts_35 (by decide) ?_
        refine G_aload_n dX4_readLasts_36 rfl ?_
        refine G_get (f := 0) kc1 dX4_readLasts_37 fX4_42 (by decide) rfl rfl ?_
        refine G_iload_n dX4_readLasts_40 rfl ?_
        refine G_ialdN i dX4_readLasts_41 rfl rfl (by omega) (by omega) ?_
        rw [hK1]
        refine G_iload_n dX4_readLasts_42 rfl ?_
        refine G_SN (is := []) (fo := []) (as := [.int (nI (k i)), .int (nI p)]) (as' := [.int (nI (k i)), .int (nI p)]) (st := [.int (-1), .int (nI a - 1), .int (nI i), .ref 101]) (k := 0) (n := 0) cX4_readLasts_43 (con_pointAt d (k i) p hK2 hp) ab_pfx rfl (by decide) rfl rfl rfl rfl (Nat.le_of_ble_eq_true rfl) dX4_readLasts_43 (fun w' v h => by rw [h.1]) (fun w2 v2 hq => ?_)
        obtain ⟨rfl, rfl⟩ := hq
        refine G_isub dX4_readLasts_46 ?_
        refine G_max dX4_readLasts_47 uX4_49 rfl (Nat.le_of_ble_eq_true rfl) ?_
        refine G_topi (mx_last2 ha (kp_lt _ _)) ?_
        refine G_iastN (w' := [_, _, _, _]) i dX4_readLasts_50 rfl rfl (by omega) (by omega) rfl ?_
        refine G_iinc (L' := [_, _, _, _]) (v := nI (p + 1)) dX4_readLasts_51 rfl (nI_succ p).symm rfl ?_
        refine G_goto (tgt := 19) dX4_readLasts_54 (by decide) ?_
        exact kk _ (fun j hj => pk_un hj) pk_us
      have l0 := lb1_le (kp (k i) 0)
      have l1 := lb1_le (kp (k i) 1)
      refine stp 0 0 _ (by omega) (by omega) pk_us (fun La1 a1 a2 => ?_)
      refine stp 1 _ La1 (by omega) (by omega) a2 (fun La2 b1 b2 => ?_)
      refine stp 2 _ La2 (by omega) (by omega) b2 (fun La3 c1 c2 => ?_)
      refine G_iload_n dX4_readLasts_19 rfl ?_
      refine G_iconst (v := 3) dX4_readLasts_20 (by decide) ?_
      refine G_icmp_geN (tgt := 57) 3 3 dX4_readLasts_21 (by decide) rfl rfl (by omega) (by omega) (fun _ => ?_) (fun h => by omega)
      refine G_iinc (L' := [_, _, _, _]) (v := nI (i + 1)) dX4_readLasts_57 rfl (nI_succ i).symm rfl ?_
      refine G_goto (tgt := 2) dX4_readLasts_60 (by decide) ?_
      refine ih (nt - (i + 1)) (by omega) (i + 1) rfl La3 _ (by omega) (fun j hj => ?_)
      by_cases e : j = i
      · subst e
        rw [c2]
        unfold lb
        rw [Nat.zero_max]
      · rw [c1 j e, b1 j e, a1 j e, pk_un e]
        exact hL j (by omega)
  exact outer 0 La _ (by omega) (fun j hj => by omega)
set_option maxRecDepth 20000 in
theorem con_keepsTriples_D (d lst : Nat) (hl : lst ≤ 8) (I La K R : Nat → Int32) (nb nt : Nat) (hs ro cv : Int32) (t1 t2 t3 : Nat) (K' R' : Nat → Int32) (nb' nt' : Nat) (hs' ro' cv' : Int32) (t4 t5 t6 : Nat) (hnt : nt ≤ 40) (hnt' : nt' ≤ 40) (k g : Nat → Nat) (hK : ∀ i, i < nt → K i = nI (k i) ∧ k i < 2 ^ 30) (hs1 : ∀ i j, i < j → j < nt' → K' i < K' j) (hI : ∀ j, j < 8 → I j = nI (g j) ∧ g j ≤ 8) (hLa : ∀ i, i < nt → La i = nI (lb (k i)) - 1) : Con mX4_keepsTriples (d + 1) 0 0 (xD I La K R nb nt hs ro cv t1 t2 t3 K' R' nb' nt' hs' ro' cv' t4 t5 t6) [.ref 100, .ref 103, .ref 107, .int (nI lst - 1)] (fun w' v => w' = (xD I La K R nb nt hs ro cv t1 t2 t3 K' R' nb' nt' hs' ro' cv' t4 t5 t6) ∧ ((kT k nt K' nt' g lst) ∧ v = some (.int 1) ∨ (¬ kT k nt K' nt' g lst) ∧ v = some (.int 0))) := by
  refine Con.of (ab_okc rfl (by decide)) (Nat.le_of_ble_eq_true rfl) ?_
  show G ab_x0 mX4_keepsTriples (d + 1) 0 0 _ 0 [some (.ref 100), some (.ref 103), some (.ref 107), some (.int (nI lst - 1)), none] [] _
  refine G_iconst (v := 0) dX4_keepsTriples_0 (by decide) ?_
  refine G_istore (L' := [_, _, _, _, _]) dX4_keepsTriples_1 (Nat.le_of_ble_eq_true rfl) rfl ?_
  have loop : ∀ (i : Nat), i ≤ nt → (∀ j, j < i → lb (k j) = lst → ∃ q, q < nt' ∧ K' q = nI (rnK g (k j))) → G ab_x0 mX4_keepsTriples (d + 1) 0 0 (fun w' v => w' = (xD I La K R nb nt hs ro cv t1 t2 t3 K' R' nb' nt' hs' ro' cv' t4 t5 t6) ∧ ((kT k nt K' nt' g lst) ∧ v = some (.int 1) ∨ (¬ kT k nt K' nt' g lst) ∧ v = some (.int 0))) 3 [some (.ref 100), some (.ref 103), some (.ref 107), some (.int (nI lst - 1)), some (.int (nI i))] [] (xD I La K R nb nt hs ro cv t1 t2 t3 K' R' nb' nt' hs' ro' cv' t4 t5 t6) := by
    intro i
    induction hm : nt - i using Nat.strongRecOn generalizing i with
    | ind m ih =>
      subst hm
      intro hi hj
      refine G_iload dX4_keepsTriples_3 rfl ?_
      refine G_aload_n dX4_keepsTriples_5 rfl ?_
      refine G_get (f := 2) kc1 dX4_keepsTriples_6 fX4_39 (by decide) rfl rfl ?_
      refine G_icmp_geN (tgt := 59) i nt dX4_keepsTriples_9 (by decide) rfl rfl (by omega) (by omega) (fun hge => ?_) (fun hlt => ?_)
      · refine G_iconst (v := 1) dX4_keepsTriples_59 (by decide) ?_
        exact G_ret (v := some (.int _)) ⟨dX4_keepsTriples_60, _, rfl, rfl⟩ ⟨rfl, Or.inl ⟨fun q hq => hj q (by omega), rfl⟩⟩
      obtain ⟨hK1, hK2⟩ := hK i hlt
      have nxt : (lb (k i) = lst → ∃ q, q < nt' ∧ K' q = nI (rnK g (k i))) → G ab_x0 mX4_keepsTriples (d + 1) 0 0 (fun w' v => w' = (xD I La K R nb nt hs ro cv t1 t2 t3 K' R' nb' nt' hs' ro' cv' t4 t5 t6) ∧ ((kT k nt K' nt' g lst) ∧ v = some (.int 1) ∨ (¬ kT k nt K' nt' g lst) ∧ v = some (.int 0))) 53 [some (.ref 100), some (.ref 103), some (.ref 107), some (.int (nI lst - 1)), some (.int (nI i))] [] (xD I La K R nb nt hs ro cv t1 t2 t3 K' R' nb' nt' hs' ro' cv' t4 t5 t6) := by
        intro hh
        refine G_iinc (L' := [_, _, _, _, _]) (v := nI (i + 1)) dX4_keepsTriples_53 rfl (nI_succ i).symm rfl ?_
        refine G_goto (tgt := 3) dX4_keepsTriples_56 (by decide) ?_
        refine ih (nt - (i + 1)) (by omega) (i + 1) rfl (by omega) (fun q hq => ?_)
        by_cases e : q = i
        · subst e; exact hh
        · exact hj q (by omega)
      refine G_aload_n dX4_keepsTriples_12 rfl ?_
      refine G_get (f := 1) kc5 dX4_keepsTriples_13 fX4_15 (by decide) rfl rfl ?_
      refine G_iload dX4_keepsTriples_16 rfl ?_
      refine G_ialdN i dX4_keepsTriples_18 rfl rfl (by omega) (by omega) ?_
      rw [hLa i hlt]
      refine G_iload_n dX4_keepsTriples_19 rfl ?_
      have hle := la_eq (lb (k i)) (lb_le _) lst hl
      refine G_icmp_ne (tgt := 53) dX4_keepsTriples_20 (by decide) (fun h => nxt (fun e => absurd (hle.mpr e) h)) (fun h => ?_)
      have h := hle.mp h
      refine G_aload_n dX4_keepsTriples_23 rfl ?_
      refine G_get (f := 0) kc1 dX4_keepsTriples_24 fX4_42 (by decide) rfl rfl ?_
      refine G_iload dX4_keepsTriples_27 rfl ?_
      refine G_ialdN i dX4_keepsTriples_29 rfl rfl (by omega) (by omega) ?_
      rw [hK1]
      refine G_aload_n dX4_keepsTriples_30 rfl ?_
      refine G_get (f := 0) kc5 dX4_keepsTriples_31 fX4_9 (by decide) rfl rfl ?_
      refine G_SN (is := [1]) (fo := []) (as := [.int (nI (k i)), .ref 100]) (as' := [.int (nI (k i)), .ref 101]) (st := []) (k := 0) (n := 0) cX4_keepsTriples_34 (con_renum d (k i) I g hK2 hI) ab_pfx rfl (by decide) rfl rfl rfl rfl (Nat.le_of_ble_eq_true rfl) dX4_keepsTriples_34 (fun w' v h => by rw [h.1]) (fun w2 v2 hq => ?_)
      obtain ⟨rfl, rfl⟩ := hq
      refine G_w (st' := [.int (nI (rnK g (k i)))]) (w' := (xD I La K R nb nt hs ro cv t1 t2 t3 K' R' nb' nt' hs' ro' cv' t4 t5 t6)) rfl rfl ?_
      refine G_aload_n dX4_keepsTriples_37 rfl ?_
      refine G_get (f := 0) kc1 dX4_keepsTriples_38 fX4_42 (by decide) rfl rfl ?_
      refine G_aload_n dX4_keepsTriples_41 rfl ?_
      refine G_get (f := 2) kc1 dX4_keepsTriples_42 fX4_39 (by decide) rfl rfl ?_
      refine G_SN (is := [8]) (fo := []) (as := [.int (nI (rnK g (k i))), .ref 100, .int (nI nt')]) (as' := [.int (nI (rnK g (k i))), .ref 108, .int (nI nt')]) (st := []) (k := 0) (n := 0) cX4_keepsTriples_45 (con_isIn d (nI (rnK g (k i))) K' 40 nt' hnt' (by decide) hs1) ab_pfx rfl (by decide) rfl rfl rfl rfl (Nat.le_of_ble_eq_true rfl) dX4_keepsTriples_45 (fun w' v h => by rw [h.1]) (fun w2 v2 hq => ?_)
      obtain ⟨rfl, hq⟩ := hq
      rcases hq with ⟨h1, rfl⟩ | ⟨h1, rfl⟩
      · refine G_w (st' := [.int 1]) (w' := (xD I La K R nb nt hs ro cv t1 t2 t3 K' R' nb' nt' hs' ro' cv' t4 t5 t6)) rfl rfl ?_
        refine G_if_ne (tgt := 53) dX4_keepsTriples_48 (by decide) (fun _ => nxt (fun _ => h1)) (fun h => absurd h (by decide))
      · refine G_w (st' := [.int 0]) (w' := (xD I La K R nb nt hs ro cv t1 t2 t3 K' R' nb' nt' hs' ro' cv' t4 t5 t6)) rfl rfl ?_
        refine G_if_ne (tgt := 53) dX4_keepsTriples_48 (by decide) (fun h => absurd rfl h) (fun _ => ?_)
        refine G_iconst (v := 0) dX4_keepsTriples_51 (by decide) ?_
        exact G_ret (v := some (.int _)) ⟨dX4_keepsTriples_52, _, rfl, rfl⟩ ⟨rfl, Or.inr ⟨fun hh => h1 (hh i hlt h), rfl⟩⟩
  exact loop 0 (by omega) (fun j hj => by omega)
set_option maxRecDepth 20000 in
theorem con_fits_D (d b im : Nat) (hb : b < 8) (him : im < 8) (I La K R : Nat → Int32) (nb nt : Nat) (hs ro cv : Int32) (t1 t2 t3 : Nat) (K' R' : Nat → Int32) (nb' nt' : Nat) (hs' ro' cv' : Int32) (t4 t5 t6 : Nat) (hnt : nt ≤ 40) (hnt' : nt' ≤ 40) (k g : Nat → Nat) (hK : ∀ i, i < nt → K i = nI (k i) ∧ k i < 2 ^ 30) (hs1 : ∀ i j, i < j → j < nt' → K' i < K' j) (hI : ∀ j, j < 8 → I j = nI (g j) ∧ g j ≤ 8) (hLa : ∀ i, i < nt → La i = nI (lb (k i)) - 1) : Con mX4_fits (d + 2) 0 0 (xD I La K R nb nt hs ro cv t1 t2 t3 K' R' nb' nt' hs' ro' cv' t4 t5 t6) [.ref 100, .ref 103, .ref 107, .int (nI b), .int (nI im)] (fun w' v => (R b ≠ R' im ∧ v = some (.int 0) ∧ w' = (xD I La K R nb nt hs ro cv t1 t2 t3 K' R' nb' nt' hs' ro' cv' t4 t5 t6)) ∨ (R b = R' im ∧ w' = (xD (upd I b (nI (im + 1))) La K R nb nt hs ro cv t1 t2 t3 K' R' nb' nt' hs' ro' cv' t4 t5 t6) ∧ ((kT k nt K' nt' (updN g b (im + 1)) (b + 1)) ∧ v = some (.int 1) ∨ (¬ kT k nt K' nt' (updN g b (im + 1)) (b + 1)) ∧ v = some (.int 0)))) := by
  refine Con.of (ab_okc rfl (by decide)) (Nat.le_of_ble_eq_true rfl) ?_
  show G ab_x0 mX4_fits (d + 2) 0 0 _ 0 [some (.ref 100), some (.ref 103), some (.ref 107), some (.int (nI b)), some (.int (nI im))] [] _
  refine G_aload_n dX4_fits_0 rfl ?_
  refine G_get (f := 5) kc1 dX4_fits_1 fX4_54 (by decide) rfl rfl ?_
  refine G_get (f := 2) kc2 dX4_fits_4 fX4_58 (by decide) rfl rfl ?_
  refine G_iload_n dX4_fits_7 rfl ?_
  refine G_ialdN b dX4_fits_8 rfl rfl (by omega) (by omega) ?_
  refine G_aload_n dX4_fits_9 rfl ?_
  refine G_get (f := 5) kc1 dX4_fits_10 fX4_54 (by decide) rfl rfl ?_
  refine G_get (f := 2) kc2 dX4_fits_13 fX4_58 (by decide) rfl rfl ?_
  refine G_iload dX4_fits_16 rfl ?_
  refine G_ialdN im dX4_fits_18 rfl rfl (by omega) (by omega) ?_
  refine G_icmp_eq (tgt := 24) dX4_fits_19 (by decide) (fun h => ?_) (fun h => ?_)
  · refine G_aload_n dX4_fits_24 rfl ?_
    refine G_get (f := 0) kc5 dX4_fits_25 fX4_9 (by decide) rfl rfl ?_
    refine G_iload_n dX4_fits_28 rfl ?_
    refine G_iload dX4_fits_29 rfl ?_
    refine G_iconst (v := 1) dX4_fits_31 (by decide) ?_
    refine G_iadd dX4_fits_32 ?_
    refine G_topi (nI_1 im) ?_
    refine G_iastN (w' := (xD (upd I b (nI (im + 1))) La K R nb nt hs ro cv t1 t2 t3 K' R' nb' nt' hs' ro' cv' t4 t5 t6)) b dX4_fits_33 rfl rfl (by omega) (by omega) rfl ?_
    have hI2 : ∀ j, j < 8 → upd I b (nI (im + 1)) j = nI (updN g b (im + 1) j) ∧ updN g b (im + 1) j ≤ 8 := fun j hj => by
      by_cases e : j = b
      · rw [e, pk_us, updN_s]; exact ⟨rfl, by omega⟩
      · rw [pk_un e, updN_n e]; exact hI j hj
    refine G_aload_n dX4_fits_34 rfl ?_
    refine G_aload_n dX4_fits_35 rfl ?_
    refine G_aload_n dX4_fits_36 rfl ?_
    refine G_iload_n dX4_fits_37 rfl ?_
    refine G_topi (y := nI (b + 1) - 1) (nI_pred b).symm ?_
    refine G_V (is := [0, 1, 2, 3, 4, 5, 6, 7, 8, 9, 10]) (fo := [t1, t2, t3, t4, t5, t6]) (as := [.ref 100, .ref 103, .ref 107, .int (nI (b + 1) - 1)]) (as' := [.ref 103, .ref 107, .int (nI (b + 1) - 1)]) (st := []) (k := 0) (n := 0) cX4_fits_38 (con_keepsTriples_D d (b + 1) (by omega) (upd I b (nI (im + 1))) La K R nb nt hs ro cv 4 5 6 K' R' nb' nt' hs' ro' cv' 7 8 9 hnt hnt' k (updN g b (im + 1)) hK hs1 hI2 hLa) ab_pfx rfl (by decide) rfl rfl rfl rfl rfl rfl (Nat.le_of_ble_eq_true rfl) dX4_fits_38 (fun w' v h => by rw [h.1]) (fun w2 v2 hq => ?_)
    obtain ⟨rfl, hq⟩ := hq
    rcases hq with ⟨h1, rfl⟩ | ⟨h1, rfl⟩
    · exact G_ret (v := some (.int _)) ⟨dX4_fits_41, _, rfl, rfl⟩ (Or.inr ⟨h, rfl, Or.inl ⟨h1, rfl⟩⟩)
    · exact G_ret (v := some (.int _)) ⟨dX4_fits_41, _, rfl, rfl⟩ (Or.inr ⟨h, rfl, Or.inr ⟨h1, rfl⟩⟩)
  · refine G_iconst (v := 0) dX4_fits_22 (by decide) ?_
    exact G_ret (v := some (.int _)) ⟨dX4_fits_23, _, rfl, rfl⟩ (Or.inl ⟨h, rfl, rfl⟩)
set_option maxRecDepth 20000 in
theorem con_keepsTriples_S (d lst : Nat) (hl : lst ≤ 8) (I La K R : Nat → Int32) (nb nt : Nat) (hs ro cv : Int32) (t1 t2 t3 : Nat) (hnt : nt ≤ 40) (hnt' : nt ≤ 40) (k g : Nat → Nat) (hK : ∀ i, i < nt → K i = nI (k i) ∧ k i < 2 ^ 30) (hs1 : ∀ i j, i < j → j < nt → K i < K j) (hI : ∀ j, j < 8 → I j = nI (g j) ∧ g j ≤ 8) (hLa : ∀ i, i < nt → La i = nI (lb (k i)) - 1) : Con mX4_keepsTriples (d + 1) 0 0 (xS I La K R nb nt hs ro cv t1 t2 t3) [.ref 100, .ref 103, .ref 103, .int (nI lst - 1)] (fun w' v => w' = (xS I La K R nb nt hs ro cv t1 t2 t3) ∧ ((kT k nt K nt g lst) ∧ v = some (.int 1) ∨ (¬ kT k nt K nt g lst) ∧ v = some (.int 0))) := by
  refine Con.of (ab_okc rfl (by decide)) (Nat.le_of_ble_eq_true rfl) ?_
  show G ab_x0 mX4_keepsTriples (d + 1) 0 0 _ 0 [some (.ref 100), some (.ref 103), some (.ref 103), some (.int (nI lst - 1)), none] [] _
  refine G_iconst (v := 0) dX4_keepsTriples_0 (by decide) ?_
  refine G_istore (L' := [_, _, _, _, _]) dX4_keepsTriples_1 (Nat.le_of_ble_eq_true rfl) rfl ?_
  have loop : ∀ (i : Nat), i ≤ nt → (∀ j, j < i → lb (k j) = lst → ∃ q, q < nt ∧ K q = nI (rnK g (k j))) → G ab_x0 mX4_keepsTriples (d + 1) 0 0 (fun w' v => w' = (xS I La K R nb nt hs ro cv t1 t2 t3) ∧ ((kT k nt K nt g lst) ∧ v = some (.int 1) ∨ (¬ kT k nt K nt g lst) ∧ v = some (.int 0))) 3 [some (.ref 100), some (.ref 103), some (.ref 103), some (.int (nI lst - 1)), some (.int (nI i))] [] (xS I La K R nb nt hs ro cv t1 t2 t3) := by
    intro i
    induction hm : nt - i using Nat.strongRecOn generalizing i with
    | ind m ih =>
      subst hm
      intro hi hj
      refine G_iload dX4_keepsTriples_3 rfl ?_
      refine G_aload_n dX4_keepsTriples_5 rfl ?_
      refine G_get (f := 2) kc1 dX4_keepsTriples_6 fX4_39 (by decide) rfl rfl ?_
      refine G_icmp_geN (tgt := 59) i nt dX4_keepsTriples_9 (by decide) rfl rfl (by omega) (by omega) (fun hge => ?_) (fun hlt => ?_)
      · refine G_iconst (v := 1) dX4_keepsTriples_59 (by decide) ?_
        exact G_ret (v := some (.int _)) ⟨dX4_keepsTriples_60, _, rfl, rfl⟩ ⟨rfl, Or.inl ⟨fun q hq => hj q (by omega), rfl⟩⟩
      obtain ⟨hK1, hK2⟩ := hK i hlt
      have nxt : (lb (k i) = lst → ∃ q, q < nt ∧ K q = nI (rnK g (k i))) → G ab_x0 mX4_keepsTriples (d + 1) 0 0 (fun w' v => w' = (xS I La K R nb nt hs ro cv t1 t2 t3) ∧ ((kT k nt K nt g lst) ∧ v = some (.int 1) ∨ (¬ kT k nt K nt g lst) ∧ v = some (.int 0))) 53 [some (.ref 100), some (.ref 103), some (.ref 103), some (.int (nI lst - 1)), some (.int (nI i))] [] (xS I La K R nb nt hs ro cv t1 t2 t3) := by
        intro hh
        refine G_iinc (L' := [_, _, _, _, _]) (v := nI (i + 1)) dX4_keepsTriples_53 rfl (nI_succ i).symm rfl ?_
        refine G_goto (tgt := 3) dX4_keepsTriples_56 (by decide) ?_
        refine ih (nt - (i + 1)) (by omega) (i + 1) rfl (by omega) (fun q hq => ?_)
        by_cases e : q = i
        · subst e; exact hh
        · exact hj q (by omega)
      refine G_aload_n dX4_keepsTriples_12 rfl ?_
      refine G_get (f := 1) kc5 dX4_keepsTriples_13 fX4_15 (by decide) rfl rfl ?_
      refine G_iload dX4_keepsTriples_16 rfl ?_
      refine G_ialdN i dX4_keepsTriples_18 rfl rfl (by omega) (by omega) ?_
      rw [hLa i hlt]
      refine G_iload_n dX4_keepsTriples_19 rfl ?_
      have hle := la_eq (lb (k i)) (lb_le _) lst hl
      refine G_icmp_ne (tgt := 53) dX4_keepsTriples_20 (by decide) (fun h => nxt (fun e => absurd (hle.mpr e) h)) (fun h => ?_)
      have h := hle.mp h
      refine G_aload_n dX4_keepsTriples_23 rfl ?_
      refine G_get (f := 0) kc1 dX4_keepsTriples_24 fX4_42 (by decide) rfl rfl ?_
      refine G_iload dX4_keepsTriples_27 rfl ?_
      refine G_ialdN i dX4_keepsTriples_29 rfl rfl (by omega) (by omega) ?_
      rw [hK1]
      refine G_aload_n dX4_keepsTriples_30 rfl ?_
      refine G_get (f := 0) kc5 dX4_keepsTriples_31 fX4_9 (by decide) rfl rfl ?_
      refine G_SN (is := [1]) (fo := []) (as := [.int (nI (k i)), .ref 100]) (as' := [.int (nI (k i)), .ref 101]) (st := []) (k := 0) (n := 0) cX4_keepsTriples_34 (con_renum d (k i) I g hK2 hI) ab_pfx rfl (by decide) rfl rfl rfl rfl (Nat.le_of_ble_eq_true rfl) dX4_keepsTriples_34 (fun w' v h => by rw [h.1]) (fun w2 v2 hq => ?_)
      obtain ⟨rfl, rfl⟩ := hq
      refine G_w (st' := [.int (nI (rnK g (k i)))]) (w' := (xS I La K R nb nt hs ro cv t1 t2 t3)) rfl rfl ?_
      refine G_aload_n dX4_keepsTriples_37 rfl ?_
      refine G_get (f := 0) kc1 dX4_keepsTriples_38 fX4_42 (by decide) rfl rfl ?_
      refine G_aload_n dX4_keepsTriples_41 rfl ?_
      refine G_get (f := 2) kc1 dX4_keepsTriples_42 fX4_39 (by decide) rfl rfl ?_
      refine G_SN (is := [4]) (fo := []) (as := [.int (nI (rnK g (k i))), .ref 100, .int (nI nt)]) (as' := [.int (nI (rnK g (k i))), .ref 104, .int (nI nt)]) (st := []) (k := 0) (n := 0) cX4_keepsTriples_45 (con_isIn d (nI (rnK g (k i))) K 40 nt hnt' (by decide) hs1) ab_pfx rfl (by decide) rfl rfl rfl rfl (Nat.le_of_ble_eq_true rfl) dX4_keepsTriples_45 (fun w' v h => by rw [h.1]) (fun w2 v2 hq => ?_)
      obtain ⟨rfl, hq⟩ := hq
      rcases hq with ⟨h1, rfl⟩ | ⟨h1, rfl⟩
      · refine G_w (st' := [.int 1]) (w' := (xS I La K R nb nt hs ro cv t1 t2 t3)) rfl rfl ?_
        refine G_if_ne (tgt := 53) dX4_keepsTriples_48 (by decide) (fun _ => nxt (fun _ => h1)) (fun h => absurd h (by decide))
      · refine G_w (st' := [.int 0]) (w' := (xS I La K R nb nt hs ro cv t1 t2 t3)) rfl rfl ?_
        refine G_if_ne (tgt := 53) dX4_keepsTriples_48 (by decide) (fun h => absurd rfl h) (fun _ => ?_)
        refine G_iconst (v := 0) dX4_keepsTriples_51 (by decide) ?_
        exact G_ret (v := some (.int _)) ⟨dX4_keepsTriples_52, _, rfl, rfl⟩ ⟨rfl, Or.inr ⟨fun hh => h1 (hh i hlt h), rfl⟩⟩
  exact loop 0 (by omega) (fun j hj => by omega)
set_option maxRecDepth 20000 in
theorem con_fits_S (d b im : Nat) (hb : b < 8) (him : im < 8) (I La K R : Nat → Int32) (nb nt : Nat) (hs ro cv : Int32) (t1 t2 t3 : Nat) (hnt : nt ≤ 40) (hnt' : nt ≤ 40) (k g : Nat → Nat) (hK : ∀ i, i < nt → K i = nI (k i) ∧ k i < 2 ^ 30) (hs1 : ∀ i j, i < j → j < nt → K i < K j) (hI : ∀ j, j < 8 → I j = nI (g j) ∧ g j ≤ 8) (hLa : ∀ i, i < nt → La i = nI (lb (k i)) - 1) : Con mX4_fits (d + 2) 0 0 (xS I La K R nb nt hs ro cv t1 t2 t3) [.ref 100, .ref 103, .ref 103, .int (nI b), .int (nI im)] (fun w' v => (R b ≠ R im ∧ v = some (.int 0) ∧ w' = (xS I La K R nb nt hs ro cv t1 t2 t3)) ∨ (R b = R im ∧ w' = (xS (upd I b (nI (im + 1))) La K R nb nt hs ro cv t1 t2 t3) ∧ ((kT k nt K nt (updN g b (im + 1)) (b + 1)) ∧ v = some (.int 1) ∨ (¬ kT k nt K nt (updN g b (im + 1)) (b + 1)) ∧ v = some (.int 0)))) := by
  refine Con.of (ab_okc rfl (by decide)) (Nat.le_of_ble_eq_true rfl) ?_
  show G ab_x0 mX4_fits (d + 2) 0 0 _ 0 [some (.ref 100), some (.ref 103), some (.ref 103), some (.int (nI b)), some (.int (nI im))] [] _
  refine G_aload_n dX4_fits_0 rfl ?_
  refine G_get (f := 5) kc1 dX4_fits_1 fX4_54 (by decide) rfl rfl ?_
  refine G_get (f := 2) kc2 dX4_fits_4 fX4_58 (by decide) rfl rfl ?_
  refine G_iload_n dX4_fits_7 rfl ?_
  refine G_ialdN b dX4_fits_8 rfl rfl (by omega) (by omega) ?_
  refine G_aload_n dX4_fits_9 rfl ?_
  refine G_get (f := 5) kc1 dX4_fits_10 fX4_54 (by decide) rfl rfl ?_
  refine G_get (f := 2) kc2 dX4_fits_13 fX4_58 (by decide) rfl rfl ?_
  refine G_iload dX4_fits_16 rfl ?_
  refine G_ialdN im dX4_fits_18 rfl rfl (by omega) (by omega) ?_
  refine G_icmp_eq (tgt := 24) dX4_fits_19 (by decide) (fun h => ?_) (fun h => ?_)
  · refine G_aload_n dX4_fits_24 rfl ?_
    refine G_get (f := 0) kc5 dX4_fits_25 fX4_9 (by decide) rfl rfl ?_
    refine G_iload_n dX4_fits_28 rfl ?_
    refine G_iload dX4_fits_29 rfl ?_
    refine G_iconst (v := 1) dX4_fits_31 (by decide) ?_
    refine G_iadd dX4_fits_32 ?_
    refine G_topi (nI_1 im) ?_
    refine G_iastN (w' := (xS (upd I b (nI (im + 1))) La K R nb nt hs ro cv t1 t2 t3)) b dX4_fits_33 rfl rfl (by omega) (by omega) rfl ?_
    have hI2 : ∀ j, j < 8 → upd I b (nI (im + 1)) j = nI (updN g b (im + 1) j) ∧ updN g b (im + 1) j ≤ 8 := fun j hj => by
      by_cases e : j = b
      · rw [e, pk_us, updN_s]; exact ⟨rfl, by omega⟩
      · rw [pk_un e, updN_n e]; exact hI j hj
    refine G_aload_n dX4_fits_34 rfl ?_
    refine G_aload_n dX4_fits_35 rfl ?_
    refine G_aload_n dX4_fits_36 rfl ?_
    refine G_iload_n dX4_fits_37 rfl ?_
    refine G_topi (y := nI (b + 1) - 1) (nI_pred b).symm ?_
    refine G_V (is := [0, 1, 2, 3, 4, 5, 6]) (fo := [t1, t2, t3]) (as := [.ref 100, .ref 103, .ref 103, .int (nI (b + 1) - 1)]) (as' := [.ref 103, .ref 103, .int (nI (b + 1) - 1)]) (st := []) (k := 0) (n := 0) cX4_fits_38 (con_keepsTriples_S d (b + 1) (by omega) (upd I b (nI (im + 1))) La K R nb nt hs ro cv 4 5 6 hnt hnt' k (updN g b (im + 1)) hK hs1 hI2 hLa) ab_pfx rfl (by decide) rfl rfl rfl rfl rfl rfl (Nat.le_of_ble_eq_true rfl) dX4_fits_38 (fun w' v h => by rw [h.1]) (fun w2 v2 hq => ?_)
    obtain ⟨rfl, hq⟩ := hq
    rcases hq with ⟨h1, rfl⟩ | ⟨h1, rfl⟩
    · exact G_ret (v := some (.int _)) ⟨dX4_fits_41, _, rfl, rfl⟩ (Or.inr ⟨h, rfl, Or.inl ⟨h1, rfl⟩⟩)
    · exact G_ret (v := some (.int _)) ⟨dX4_fits_41, _, rfl, rfl⟩ (Or.inr ⟨h, rfl, Or.inr ⟨h1, rfl⟩⟩)
  · refine G_iconst (v := 0) dX4_fits_22 (by decide) ?_
    exact G_ret (v := some (.int _)) ⟨dX4_fits_23, _, rfl, rfl⟩ (Or.inl ⟨h, rfl, rfl⟩)
