/-! Hasher.describe. -/
theorem kp_lt (K p : Nat) : kp K p < 1024 := Nat.mod_lt _ (by decide)
/-- a description as a number -/
def dsc (b : Nat) (rk : Nat → Nat) (K : Nat) : Nat := (dp b rk (kp K 0) * 1024 + dp b rk (kp K 1)) * 1024 + dp b rk (kp K 2)
def isB (b P : Nat) : Bool := decide (P < 8 ∧ 7 - P = b)
def std_ (b K : Nat) : Bool := isB b (kp K 0) || isB b (kp K 1) || isB b (kp K 2)
/-- the descriptions of blank b in the first n triples -/
def dls (b : Nat) (rk k : Nat → Nat) : Nat → List Nat
  | 0 => []
  | n + 1 => if std_ b (k n) then dls b rk k n ++ [dsc b rk (k n)] else dls b rk k n
theorem dls_len (b : Nat) (rk k : Nat → Nat) : ∀ n, (dls b rk k n).length ≤ n
  | 0 => Nat.le_refl _
  | n + 1 => by
    have := dls_len b rk k n
    unfold dls
    split
    · rw [List.length_append, List.length_singleton]; omega
    · omega
theorem dp_lt {b : Nat} {rk : Nat → Nat} {P : Nat} (hP : P < 1024) (h : P < 8 → rk (7 - P) < 8) : dp b rk P < 1024 := by
  unfold dp
  split
  · omega
  · split
    · omega
    · have := h (by omega); omega
theorem pt_eq {P b : Nat} (hP : P < 1024) (hb : b < 8) : nI P - 8 = (-1) - nI b ↔ isB b P = true := by
  have h64 : ∀ q, q < 8 → ∀ c, c < 8 → (nI q - 8 = (-1) - nI c ↔ isB c q = true) := by decide
  by_cases h : P < 8
  · exact h64 P h b hb
  · have hneg : ∀ c, c < 8 → (-1) - nI c < 0 := by decide
    constructor
    · intro e
      have := hneg b hb
      rw [← e, show nI P - 8 = nI (P - 8) from pk_sub (a := P) (b := 8) (by omega)] at this
      exact absurd this (nI_pos (by omega))
    · intro e
      unfold isB at e
      simp [h] at e
set_option maxRecDepth 20000 in
theorem con_describe (d nt b : Nat) (hn : nt ≤ 40) (hb : b < 8) (D K f : Nat → Int32) (k rk : Nat → Nat) (hK : ∀ i, i < nt → K i = nI (k i) ∧ k i < 2 ^ 30) (hr : ∀ i p, i < nt → p < 3 → kp (k i) p < 8 → f (7 - kp (k i) p) = nI (rk (7 - kp (k i) p)) ∧ rk (7 - kp (k i) p) < 8) (bv hv ov cv : Int32) (t1 t2 t3 t4 t5 : Nat) : Con mX2_describe (d + 2) 0 0 [.inr (3, [.ref t1, .ref 101, .ref t2]), cI 40 D, .inr (1, [.ref 103, .int bv, .int (nI nt), .int hv, .int ov, .ref 104]), cI 40 K, .inr (2, [.ref t3, .ref t4, .ref 105, .ref t5, .int cv]), cI 8 f] [.ref 100, .ref 102, .int (nI b)] (fun w' v => v = some (.int (nI (dls b rk k nt).length)) ∧ ∃ g, w' = [.inr (3, [.ref t1, .ref 101, .ref t2]), cI 40 g, .inr (1, [.ref 103, .int bv, .int (nI nt), .int hv, .int ov, .ref 104]), cI 40 K, .inr (2, [.ref t3, .ref t4, .ref 105, .ref t5, .int cv]), cI 8 f] ∧ ∀ j x, (dls b rk k nt)[j]? = some x → g j = nI x) := by
  refine Con.of (ab_okc rfl (by decide)) (Nat.le_of_ble_eq_true rfl) ?_
  show G ab_x0 mX2_describe (d + 2) 0 0 _ 0 [some (.ref 100), some (.ref 102), some (.int (nI b)), none, none, none, none, none, none] [] _
  refine G_iconst (v := 0) dX2_describe_0 (by decide) ?_
  refine G_istore_n (L' := [_, _, _, _, _, _, _, _, _]) dX2_describe_1 (Nat.le_of_ble_eq_true rfl) rfl ?_
  refine G_iconst (v := 0) dX2_describe_2 (by decide) ?_
  refine G_istore (L' := [_, _, _, _, _, _, _, _, _]) dX2_describe_3 (Nat.le_of_ble_eq_true rfl) rfl ?_
  have outer : ∀ (i : Nat) (D : Nat → Int32) (z5 z6 z7 z8 : Option Value), i ≤ nt → (∀ j x, (dls b rk k i)[j]? = some x → D j = nI x) → G ab_x0 mX2_describe (d + 2) 0 0 (fun w' v => v = some (.int (nI (dls b rk k nt).length)) ∧ ∃ g, w' = [.inr (3, [.ref t1, .ref 101, .ref t2]), cI 40 g, .inr (1, [.ref 103, .int bv, .int (nI nt), .int hv, .int ov, .ref 104]), cI 40 K, .inr (2, [.ref t3, .ref t4, .ref 105, .ref t5, .int cv]), cI 8 f] ∧ ∀ j x, (dls b rk k nt)[j]? = some x → g j = nI x) 5 [some (.ref 100), some (.ref 102), some (.int (nI b)), some (.int (nI (dls b rk k i).length)), some (.int (nI i)), z5, z6, z7, z8] [] [.inr (3, [.ref t1, .ref 101, .ref t2]), cI 40 D, .inr (1, [.ref 103, .int bv, .int (nI nt), .int hv, .int ov, .ref 104]), cI 40 K, .inr (2, [.ref t3, .ref t4, .ref 105, .ref t5, .int cv]), cI 8 f] := by
    intro i
    induction hm : nt - i using Nat.strongRecOn generalizing i with
    | ind m ih =>
      subst hm
      intro D z5 z6 z7 z8 hi hD
      have hcl := dls_len b rk k i
      refine G_iload dX2_describe_5 rfl ?_
      refine G_aload_n dX2_describe_7 rfl ?_
      refine G_get (f := 2) kc1 dX2_describe_8 fX2_101 (by decide) rfl rfl ?_
      refine G_icmp_geN (tgt := 109) i nt dX2_describe_11 (by decide) rfl rfl (by omega) (by omega) (fun hge => ?_) (fun hlt => ?_)
      · have e : i = nt := by omega
        subst e
        refine G_iload_n dX2_describe_109 rfl ?_
        exact G_ret (v := some (.int _)) ⟨dX2_describe_110, _, rfl, rfl⟩ ⟨rfl, D, rfl, hD⟩
      obtain ⟨hK1, hK2⟩ := hK i hlt
      refine G_iconst (v := 0) dX2_describe_14 (by decide) ?_
      refine G_istore (L' := [_, _, _, _, _, _, _, _, _]) dX2_describe_15 (Nat.le_of_ble_eq_true rfl) rfl ?_
      refine G_iconst (v := 0) dX2_describe_17 (by decide) ?_
      refine G_istore (L' := [_, _, _, _, _, _, _, _, _]) dX2_describe_18 (Nat.le_of_ble_eq_true rfl) rfl ?_
      refine G_iconst (v := 0) dX2_describe_20 (by decide) ?_
      refine G_istore (L' := [_, _, _, _, _, _, _, _, _]) dX2_describe_21 (Nat.le_of_ble_eq_true rfl) rfl ?_
      have step : ∀ (p r : Nat) (sb : Bool) (z : Option Value), p < 3 → r < 2 ^ 20 → (∀ z', G ab_x0 mX2_describe (d + 2) 0 0 (fun w' v => v = some (.int (nI (dls b rk k nt).length)) ∧ ∃ g, w' = [.inr (3, [.ref t1, .ref 101, .ref t2]), cI 40 g, .inr (1, [.ref 103, .int bv, .int (nI nt), .int hv, .int ov, .ref 104]), cI 40 K, .inr (2, [.ref t3, .ref t4, .ref 105, .ref t5, .int cv]), cI 8 f] ∧ ∀ j x, (dls b rk k nt)[j]? = some x → g j = nI x) 23 [some (.ref 100), some (.ref 102), some (.int (nI b)), some (.int (nI (dls b rk k i).length)), some (.int (nI i)), some (.int (nI (r * 1024 + dp b rk (kp (k i) p)))), some (.int (bi (sb || isB b (kp (k i) p)))), some (.int (nI (p + 1))), z'] [] [.inr (3, [.ref t1, .ref 101, .ref t2]), cI 40 D, .inr (1, [.ref 103, .int bv, .int (nI nt), .int hv, .int ov, .ref 104]), cI 40 K, .inr (2, [.ref t3, .ref t4, .ref 105, .ref t5, .int cv]), cI 8 f]) → G ab_x0 mX2_describe (d + 2) 0 0 (fun w' v => v = some (.int (nI (dls b rk k nt).length)) ∧ ∃ g, w' = [.inr (3, [.ref t1, .ref 101, .ref t2]), cI 40 g, .inr (1, [.ref 103, .int bv, .int (nI nt), .int hv, .int ov, .ref 104]), cI 40 K, .inr (2, [.ref t3, .ref t4, .ref 105, .ref t5, .int cv]), cI 8 f] ∧ ∀ j x, (dls b rk k nt)[j]? = some x → g j = nI x) 23 [some (.ref 100), some (.ref 102), some (.int (nI b)), some (.int (nI (dls b rk k i).length)), some (.int (nI i)), some (.int (nI r)), some (.int (bi sb)), some (.int (nI p)), z] [] [.inr (3, [.ref t1, .ref 101, .ref t2]), cI 40 D, .inr (1, [.ref 103, .int bv, .int (nI nt), .int hv, .int ov, .ref 104]), cI 40 K, .inr (2, [.ref t3, .ref t4, .ref 105, .ref t5, .int cv]), cI 8 f] := by
        intro p r sb z hp hr2 kk
        have hP := kp_lt (k i) p
        have hrr := hr i p hlt hp
        have hdl := dp_lt (b := b) hP (fun h => (hrr h).2)
        refine G_iload dX2_describe_23 rfl ?_
        refine G_iconst (v := 3) dX2_describe_25 (by decide) ?_
        refine G_icmp_geN (tgt := 87) p 3 dX2_describe_26 (by decide) rfl rfl (by omega) (by omega) (fun h => by omega) (fun _ => ?_)
        refine G_aload_n dX2_describe_29 rfl ?_
        refine G_get (f := 0) kc1 dX2_describe_30 fX2_104 (by decide) rfl rfl ?_
        refine G_iload dX2_describe_33 rfl ?_
        refine G_ialdN i dX2_describe_35 rfl rfl (by omega) (by omega) ?_
        rw [hK1]
        refine G_iload dX2_describe_36 rfl ?_
        refine G_SN (is := []) (fo := []) (as := [.int (nI (k i)), .int (nI p)]) (as' := [.int (nI (k i)), .int (nI p)]) (st := []) (k := 0) (n := 0) cX2_describe_38 (con_pointAt d (k i) p hK2 hp) ab_pfx rfl (by decide) rfl rfl rfl rfl (Nat.le_of_ble_eq_true rfl) dX2_describe_38 (fun w' v h => by rw [h.1]) (fun w2 v2 hq => ?_)
        obtain ⟨rfl, rfl⟩ := hq
        refine G_istore (L' := [_, _, _, _, _, _, _, _, _]) dX2_describe_41 (Nat.le_of_ble_eq_true rfl) rfl ?_
        refine G_iload dX2_describe_43 rfl ?_
        have fin : G ab_x0 mX2_describe (d + 2) 0 0 (fun w' v => v = some (.int (nI (dls b rk k nt).length)) ∧ ∃ g, w' = [.inr (3, [.ref t1, .ref 101, .ref t2]), cI 40 g, .inr (1, [.ref 103, .int bv, .int (nI nt), .int hv, .int ov, .ref 104]), cI 40 K, .inr (2, [.ref t3, .ref t4, .ref 105, .ref t5, .int cv]), cI 8 f] ∧ ∀ j x, (dls b rk k nt)[j]? = some x → g j = nI x) 61 [some (.ref 100), some (.ref 102), some (.int (nI b)), some (.int (nI (dls b rk k i).length)), some (.int (nI i)), some (.int (nI r)), some (.int (bi sb)), some (.int (nI p)), some (.int (nI (kp (k i) p) - 8))] [.int (bi (sb || isB b (kp (k i) p)))] [.inr (3, [.ref t1, .ref 101, .ref t2]), cI 40 D, .inr (1, [.ref 103, .int bv, .int (nI nt), .int hv, .int ov, .ref 104]), cI 40 K, .inr (2, [.ref t3, .ref t4, .ref 105, .ref t5, .int cv]), cI 8 f] := by
          refine G_istore (L' := [_, _, _, _, _, _, _, _, _]) dX2_describe_61 (Nat.le_of_ble_eq_true rfl) rfl ?_
          refine G_iload dX2_describe_63 rfl ?_
          refine G_bipush (v := 10) dX2_describe_65 (by decide) ?_
          refine G_ishl dX2_describe_67 ?_
          refine G_aload_n dX2_describe_68 rfl ?_
          refine G_get (f := 5) kc1 dX2_describe_69 fX2_42 (by decide) rfl rfl ?_
          refine G_iload dX2_describe_72 rfl ?_
          refine G_iload_n dX2_describe_74 rfl ?_
          refine G_S (is := [4, 5]) (fo := [t3, t4, t5]) (as := [.ref 100, .int (nI (kp (k i) p) - 8), .int (nI b)]) (as' := [.ref 104, .int (nI (kp (k i) p) - 8), .int (nI b)]) (st := [.int (nI r <<< ((10 : Int32) &&& 31))]) (k := 0) (n := 0) cX2_describe_75 (con_partFor (d + 1) (kp (k i) p) b hP hb f rk (fun h => (hrr h).1) (.ref 4) (.ref 5) (.ref 6) (.int cv)) ab_pfx rfl (by decide) rfl rfl rfl rfl (Nat.le_of_ble_eq_true rfl) dX2_describe_75 (fun w' v h => by rw [h.1]) (fun w2 v2 hq => ?_)
          obtain ⟨rfl, rfl⟩ := hq
          refine G_ior dX2_describe_78 ?_
          refine G_topi (y := nI (r * 1024 + dp b rk (kp (k i) p))) ?_ ?_
          · rw [pk_shlN _ 10 (by decide) (by omega), show r * 2 ^ 10 = r * 1024 from rfl, nI_orA hdl]
          refine G_istore (L' := [_, _, _, _, _, _, _, _, _]) dX2_describe_79 (Nat.le_of_ble_eq_true rfl) rfl ?_
          refine G_iinc (L' := [_, _, _, _, _, _, _, _, _]) (v := nI (p + 1)) dX2_describe_81 rfl (nI_succ p).symm rfl ?_
          refine G_goto (tgt := 23) dX2_describe_84 (by decide) ?_
          exact kk _
        cases sb with
        | true =>
          refine G_if_ne (tgt := 56) dX2_describe_45 (by decide) (fun _ => ?_) (fun h => absurd h (by decide))
          refine G_iconst (v := 1) dX2_describe_56 (by decide) ?_
          refine G_goto (tgt := 61) dX2_describe_57 (by decide) ?_
          exact fin
        | false =>
          refine G_if_ne (tgt := 56) dX2_describe_45 (by decide) (fun h => absurd rfl h) (fun _ => ?_)
          refine G_iload dX2_describe_48 rfl ?_
          refine G_iconst (v := (-1)) dX2_describe_50 (by decide) ?_
          refine G_iload_n dX2_describe_51 rfl ?_
          refine G_isub dX2_describe_52 ?_
          refine G_icmp_ne (tgt := 60) dX2_describe_53 (by decide) (fun h => ?_) (fun h => ?_)
          · have e : isB b (kp (k i) p) = false := by
              cases hq : isB b (kp (k i) p)
              · rfl
              · exact absurd ((pt_eq hP hb).mpr hq) h
            rw [e] at fin
            refine G_iconst (v := 0) dX2_describe_60 (by decide) ?_
            exact fin
          · have e := (pt_eq hP hb).mp h
            rw [e] at fin
            refine G_iconst (v := 1) dX2_describe_56 (by decide) ?_
            refine G_goto (tgt := 61) dX2_describe_57 (by decide) ?_
            exact fin
      have b0 := dp_lt (b := b) (kp_lt (k i) 0) (fun h => (hr i 0 hlt (by omega) h).2)
      have b1 := dp_lt (b := b) (kp_lt (k i) 1) (fun h => (hr i 1 hlt (by omega) h).2)
      refine step 0 0 false _ (by omega) (by omega) (fun z => ?_)
      refine step 1 _ _ _ (by omega) (by omega) (fun z => ?_)
      refine step 2 _ _ _ (by omega) (by omega) (fun z => ?_)
      rw [show (0 * 1024 + dp b rk (kp (k i) 0)) * 1024 + dp b rk (kp (k i) 1) = dp b rk (kp (k i) 0) * 1024 + dp b rk (kp (k i) 1) by omega, show (((false || isB b (kp (k i) 0)) || isB b (kp (k i) 1)) || isB b (kp (k i) 2)) = std_ b (k i) by simp [std_]]
      have hds : (dp b rk (kp (k i) 0) * 1024 + dp b rk (kp (k i) 1)) * 1024 + dp b rk (kp (k i) 2) = dsc b rk (k i) := rfl
      rw [hds]
      refine G_iload dX2_describe_23 rfl ?_
      refine G_iconst (v := 3) dX2_describe_25 (by decide) ?_
      refine G_icmp_geN (tgt := 87) 3 3 dX2_describe_26 (by decide) rfl rfl (by omega) (by omega) (fun _ => ?_) (fun h => by omega)
      refine G_iload dX2_describe_87 rfl ?_
      cases hs : std_ b (k i) with
      | false =>
        refine G_if_eq (tgt := 103) dX2_describe_89 (by decide) (fun _ => ?_) (fun h => absurd rfl h)
        refine G_iinc (L' := [_, _, _, _, _, _, _, _, _]) (v := nI (i + 1)) dX2_describe_103 rfl (nI_succ i).symm rfl ?_
        refine G_goto (tgt := 5) dX2_describe_106 (by decide) ?_
        have e : dls b rk k (i + 1) = dls b rk k i := by
          show (if std_ b (k i) then _ else _) = _
          rw [hs]; rfl
        have := ih (nt - (i + 1)) (by omega) (i + 1) rfl D (some (.int (nI (dsc b rk (k i))))) (some (.int (bi false))) (some (.int (nI 3))) z (by omega) (by rw [e]; exact hD)
        rw [e] at this
        exact this
      | true =>
        refine G_if_eq (tgt := 103) dX2_describe_89 (by decide) (fun h => absurd h (by decide)) (fun _ => ?_)
        refine G_aload_n dX2_describe_92 rfl ?_
        refine G_get (f := 1) kc3 dX2_describe_93 fX2_18 (by decide) rfl rfl ?_
        refine G_iload_n dX2_describe_96 rfl ?_
        refine G_iload dX2_describe_97 rfl ?_
        refine G_iastN (w' := [_, _, _, _, _, _]) (dls b rk k i).length dX2_describe_99 rfl rfl (by omega) (by omega) rfl ?_
        refine G_iinc (L' := [_, _, _, _, _, _, _, _, _]) (v := nI ((dls b rk k i).length + 1)) dX2_describe_100 rfl (nI_succ _).symm rfl ?_
        refine G_iinc (L' := [_, _, _, _, _, _, _, _, _]) (v := nI (i + 1)) dX2_describe_103 rfl (nI_succ i).symm rfl ?_
        refine G_goto (tgt := 5) dX2_describe_106 (by decide) ?_
        have e : dls b rk k (i + 1) = dls b rk k i ++ [dsc b rk (k i)] := by
          show (if std_ b (k i) then _ else _) = _
          rw [hs]; rfl
        have := ih (nt - (i + 1)) (by omega) (i + 1) rfl (upd D (dls b rk k i).length (nI (dsc b rk (k i)))) (some (.int (nI (dsc b rk (k i))))) (some (.int (bi true))) (some (.int (nI 3))) z (by omega) (fun j x hx => by
          rw [e] at hx
          by_cases hj : j < (dls b rk k i).length
          · rw [List.getElem?_append_left hj] at hx
            rw [pk_un (by omega)]
            exact hD j x hx
          · rw [List.getElem?_append_right (by omega)] at hx
            have hz : j - (dls b rk k i).length < 1 := (List.getElem?_eq_some_iff.mp hx).1
            have hj2 : j = (dls b rk k i).length := by omega
            subst hj2
            rw [Nat.sub_self] at hx
            cases hx
            exact pk_us)
        rw [e, List.length_append, List.length_singleton] at this
        exact this
  exact outer 0 D _ _ _ _ (by omega) (fun j x hx => by simp [dls] at hx)
