/-! Groups.hasHashesOf, namings; Named.adopt, refreshDigest. -/
theorem hv_eq {F F' : Nat → Int32} {a b : Nat} : hv F a = hv F' b ↔ ∀ i, i < 8 → F (a * 8 + i) = F' (b * 8 + i) := by
  unfold hv
  rw [pw_eq (fun _ => uw_lt _) (fun _ => uw_lt _)]
  exact ⟨fun h i hi => uw_inj (h i hi), fun h i hi => by rw [h i hi]⟩
set_option maxRecDepth 20000 in
theorem con_hasHashesOf (d n : Nat) (hn : n ≤ 8) (F f F' f' : Nat → Int32) (o o' : Nat → Nat) (ho : ∀ j, j < n → f j = nI (o j) ∧ o j < 8) (ho' : ∀ j, j < n → f' j = nI (o' j) ∧ o' j < 8) (rv sv cv rv' sv' cv' : Value) : Con mX1_hasHashesOf d 0 0 [.inr (2, [.ref 101, .ref 102, rv, sv, cv]), cI 64 F, cI 8 f, .inr (2, [.ref 104, .ref 105, rv', sv', cv']), cI 64 F', cI 8 f'] [.ref 100, .ref 103, .int (nI n)] (fun w' v => w' = [.inr (2, [.ref 101, .ref 102, rv, sv, cv]), cI 64 F, cI 8 f, .inr (2, [.ref 104, .ref 105, rv', sv', cv']), cI 64 F', cI 8 f'] ∧ ((∀ j, j < n → hv F (o j) = hv F' (o' j)) ∧ v = some (.int 1) ∨ (¬ ∀ j, j < n → hv F (o j) = hv F' (o' j)) ∧ v = some (.int 0))) := by
  refine Con.of (ab_okc rfl (by decide)) (Nat.le_of_ble_eq_true rfl) ?_
  show G ab_x0 mX1_hasHashesOf d 0 0 _ 0 [some (.ref 100), some (.ref 103), some (.int (nI n)), none, none] [] _
  refine G_iconst (v := 0) dX1_hasHashesOf_0 (by decide) ?_
  refine G_istore_n (L' := [_, _, _, _, _]) dX1_hasHashesOf_1 (Nat.le_of_ble_eq_true rfl) rfl ?_
  have outer : ∀ (a : Nat) (z : Option Value), a ≤ n → (∀ j, j < a → hv F (o j) = hv F' (o' j)) → G ab_x0 mX1_hasHashesOf d 0 0 (fun w' v => w' = [.inr (2, [.ref 101, .ref 102, rv, sv, cv]), cI 64 F, cI 8 f, .inr (2, [.ref 104, .ref 105, rv', sv', cv']), cI 64 F', cI 8 f'] ∧ ((∀ j, j < n → hv F (o j) = hv F' (o' j)) ∧ v = some (.int 1) ∨ (¬ ∀ j, j < n → hv F (o j) = hv F' (o' j)) ∧ v = some (.int 0))) 2 [some (.ref 100), some (.ref 103), some (.int (nI n)), some (.int (nI a)), z] [] [.inr (2, [.ref 101, .ref 102, rv, sv, cv]), cI 64 F, cI 8 f, .inr (2, [.ref 104, .ref 105, rv', sv', cv']), cI 64 F', cI 8 f'] := by
    intro a
    induction hm : n - a using Nat.strongRecOn generalizing a with
    | ind m ih =>
      subst hm
      intro z ha he
      refine G_iload_n dX1_hasHashesOf_2 rfl ?_
      refine G_iload_n dX1_hasHashesOf_3 rfl ?_
      refine G_icmp_geN (tgt := 68) a n dX1_hasHashesOf_4 (by decide) rfl rfl (by omega) (by omega) (fun hge => ?_) (fun hlt => ?_)
      · refine G_iconst (v := 1) dX1_hasHashesOf_68 (by decide) ?_
        exact G_ret (v := some (.int _)) ⟨dX1_hasHashesOf_69, _, rfl, rfl⟩ ⟨rfl, Or.inl ⟨fun j hj => he j (by omega), rfl⟩⟩
      obtain ⟨p1, p2⟩ := ho a hlt
      obtain ⟨q1, q2⟩ := ho' a hlt
      refine G_iconst (v := 0) dX1_hasHashesOf_7 (by decide) ?_
      refine G_istore (L' := [_, _, _, _, _]) dX1_hasHashesOf_8 (Nat.le_of_ble_eq_true rfl) rfl ?_
      have inner : ∀ (i : Nat), i ≤ 8 → (∀ j, j < i → F (o a * 8 + j) = F' (o' a * 8 + j)) → G ab_x0 mX1_hasHashesOf d 0 0 (fun w' v => w' = [.inr (2, [.ref 101, .ref 102, rv, sv, cv]), cI 64 F, cI 8 f, .inr (2, [.ref 104, .ref 105, rv', sv', cv']), cI 64 F', cI 8 f'] ∧ ((∀ j, j < n → hv F (o j) = hv F' (o' j)) ∧ v = some (.int 1) ∨ (¬ ∀ j, j < n → hv F (o j) = hv F' (o' j)) ∧ v = some (.int 0))) 10 [some (.ref 100), some (.ref 103), some (.int (nI n)), some (.int (nI a)), some (.int (nI i))] [] [.inr (2, [.ref 101, .ref 102, rv, sv, cv]), cI 64 F, cI 8 f, .inr (2, [.ref 104, .ref 105, rv', sv', cv']), cI 64 F', cI 8 f'] := by
        intro i
        induction hm : 8 - i using Nat.strongRecOn generalizing i with
        | ind m ihi =>
          subst hm
          intro hi hj
          refine G_iload dX1_hasHashesOf_10 rfl ?_
          refine G_bipush (v := 8) dX1_hasHashesOf_12 (by decide) ?_
          refine G_icmp_geN (tgt := 62) i 8 dX1_hasHashesOf_14 (by decide) rfl rfl (by omega) (by omega) (fun hge => ?_) (fun hl8 => ?_)
          · refine G_iinc (L' := [_, _, _, _, _]) (v := nI (a + 1)) dX1_hasHashesOf_62 rfl (nI_succ a).symm rfl ?_
            refine G_goto (tgt := 2) dX1_hasHashesOf_65 (by decide) ?_
            refine ih (n - (a + 1)) (by omega) (a + 1) rfl _ (by omega) (fun j h => ?_)
            by_cases e : j = a
            · subst e
              exact hv_eq.mpr (fun i hi => hj i (by omega))
            · exact he j (by omega)
          refine G_aload_n dX1_hasHashesOf_17 rfl ?_
          refine G_get (f := 0) kc2 dX1_hasHashesOf_18 fX1_9 (by decide) rfl rfl ?_
          refine G_aload_n dX1_hasHashesOf_21 rfl ?_
          refine G_get (f := 1) kc2 dX1_hasHashesOf_22 fX1_15 (by decide) rfl rfl ?_
          refine G_iload_n dX1_hasHashesOf_25 rfl ?_
          refine G_ialdN a dX1_hasHashesOf_26 rfl rfl (by omega) (by omega) ?_
          rw [p1]
          refine G_bipush (v := 8) dX1_hasHashesOf_27 (by decide) ?_
          refine G_imul dX1_hasHashesOf_29 ?_
          refine G_iload dX1_hasHashesOf_30 rfl ?_
          refine G_iadd dX1_hasHashesOf_32 ?_
          refine G_ialdN (o a * 8 + i) dX1_hasHashesOf_33 rfl (by rw [show (8 : Int32) = nI 8 from rfl, pk_mul, nI_add]) (by omega) (by omega) ?_
          refine G_aload_n dX1_hasHashesOf_34 rfl ?_
          refine G_get (f := 0) kc2 dX1_hasHashesOf_35 fX1_9 (by decide) rfl rfl ?_
          refine G_aload_n dX1_hasHashesOf_38 rfl ?_
          refine G_get (f := 1) kc2 dX1_hasHashesOf_39 fX1_15 (by decide) rfl rfl ?_
          refine G_iload_n dX1_hasHashesOf_42 rfl ?_
          refine G_ialdN a dX1_hasHashesOf_43 rfl rfl (by omega) (by omega) ?_
          rw [q1]
          refine G_bipush (v := 8) dX1_hasHashesOf_44 (by decide) ?_
          refine G_imul dX1_hasHashesOf_46 ?_
          refine G_iload dX1_hasHashesOf_47 rfl ?_
          refine G_iadd dX1_hasHashesOf_49 ?_
          refine G_ialdN (o' a * 8 + i) dX1_hasHashesOf_50 rfl (by rw [show (8 : Int32) = nI 8 from rfl, pk_mul, nI_add]) (by omega) (by omega) ?_
          refine G_icmp_eq (tgt := 56) dX1_hasHashesOf_51 (by decide) (fun h => ?_) (fun h => ?_)
          · refine G_iinc (L' := [_, _, _, _, _]) (v := nI (i + 1)) dX1_hasHashesOf_56 rfl (nI_succ i).symm rfl ?_
            refine G_goto (tgt := 10) dX1_hasHashesOf_59 (by decide) ?_
            refine ihi (8 - (i + 1)) (by omega) (i + 1) rfl (by omega) (fun j hjj => ?_)
            by_cases e : j = i
            · subst e; exact h
            · exact hj j (by omega)
          · refine G_iconst (v := 0) dX1_hasHashesOf_54 (by decide) ?_
            exact G_ret (v := some (.int _)) ⟨dX1_hasHashesOf_55, _, rfl, rfl⟩ ⟨rfl, Or.inr ⟨fun hh => h (hv_eq.mp (hh a hlt) i hl8), rfl⟩⟩
      exact inner 0 (by omega) (fun j hj => by omega)
  exact outer 0 _ (by omega) (fun j hj => by omega)
def fct : Nat → Nat
  | 0 => 1
  | n + 1 => fct n * (n + 1)
/-- in how many ways numbers can be given, group by group -/
def nmg (st : Nat → Nat) : Nat → Nat
  | 0 => 1
  | g + 1 => nmg st g * fct (st (g + 1) - st g)
set_option maxRecDepth 20000 in
theorem con_namings (d cnt : Nat) (hn : cnt ≤ 8) (f : Nat → Int32) (st : Nat → Nat) (hf : ∀ j, j ≤ cnt → f j = nI (st j)) (hm : ∀ g, g < cnt → st g ≤ st (g + 1) ∧ st (g + 1) ≤ 8) (t1 t2 t3 : Nat) : Con mX1_namings (d + 1) 0 0 [.inr (2, [.ref t1, .ref t2, .ref t3, .ref 101, .int (nI cnt)]), cI 9 f] [.ref 100] (fun w' v => w' = [.inr (2, [.ref t1, .ref t2, .ref t3, .ref 101, .int (nI cnt)]), cI 9 f] ∧ v = some (.int (nI (nmg st cnt)))) := by
  refine Con.of (ab_okc rfl (by decide)) (Nat.le_of_ble_eq_true rfl) ?_
  show G ab_x0 mX1_namings (d + 1) 0 0 _ 0 [some (.ref 100), none, none, none] [] _
  refine G_iconst (v := 1) dX1_namings_0 (by decide) ?_
  refine G_istore_n (L' := [_, _, _, _]) dX1_namings_1 (Nat.le_of_ble_eq_true rfl) rfl ?_
  refine G_iconst (v := 0) dX1_namings_2 (by decide) ?_
  refine G_istore_n (L' := [_, _, _, _]) dX1_namings_3 (Nat.le_of_ble_eq_true rfl) rfl ?_
  have outer : ∀ (g : Nat) (z : Option Value), g ≤ cnt → G ab_x0 mX1_namings (d + 1) 0 0 (fun w' v => w' = [.inr (2, [.ref t1, .ref t2, .ref t3, .ref 101, .int (nI cnt)]), cI 9 f] ∧ v = some (.int (nI (nmg st cnt)))) 4 [some (.ref 100), some (.int (nI (nmg st g))), some (.int (nI g)), z] [] [.inr (2, [.ref t1, .ref t2, .ref t3, .ref 101, .int (nI cnt)]), cI 9 f] := by
    intro g
    induction hmm : cnt - g using Nat.strongRecOn generalizing g with
    | ind m ih =>
      subst hmm
      intro z hg
      refine G_iload_n dX1_namings_4 rfl ?_
      refine G_aload_n dX1_namings_5 rfl ?_
      refine G_get (f := 4) kc2 dX1_namings_6 fX1_24 (by decide) rfl rfl ?_
      refine G_icmp_geN (tgt := 39) g cnt dX1_namings_9 (by decide) rfl rfl (by omega) (by omega) (fun hge => ?_) (fun hlt => ?_)
      · have e : g = cnt := by omega
        subst e
        refine G_iload_n dX1_namings_39 rfl ?_
        exact G_ret (v := some (.int _)) ⟨dX1_namings_40, _, rfl, rfl⟩ ⟨rfl, rfl⟩
      obtain ⟨m1, m2⟩ := hm g hlt
      refine G_iconst (v := 2) dX1_namings_12 (by decide) ?_
      refine G_istore_n (L' := [_, _, _, _]) dX1_namings_13 (Nat.le_of_ble_eq_true rfl) rfl ?_
      have inner : ∀ (q p : Nat), 1 ≤ q → q ≤ 9 → (q ≤ st (g + 1) - st g → p = nmg st g * fct q) → (st (g + 1) - st g < q → p = nmg st g * fct (st (g + 1) - st g)) → G ab_x0 mX1_namings (d + 1) 0 0 (fun w' v => w' = [.inr (2, [.ref t1, .ref t2, .ref t3, .ref 101, .int (nI cnt)]), cI 9 f] ∧ v = some (.int (nI (nmg st cnt)))) 14 [some (.ref 100), some (.int (nI p)), some (.int (nI g)), some (.int (nI (q + 1)))] [] [.inr (2, [.ref t1, .ref t2, .ref t3, .ref 101, .int (nI cnt)]), cI 9 f] := by
        intro q
        induction hmm : 9 - q using Nat.strongRecOn generalizing q with
        | ind m ihq =>
          subst hmm
          intro p hq1 hq9 hp1 hp2
          refine G_iload_n dX1_namings_14 rfl ?_
          refine G_aload_n dX1_namings_15 rfl ?_
          refine G_iload_n dX1_namings_16 rfl ?_
          refine G_V (is := [0, 1]) (fo := [t1, t2, t3]) (as := [.ref 100, .int (nI g)]) (as' := [.int (nI g)]) (st := [.int (nI (q + 1))]) (k := 0) (n := 0) cX1_namings_17 (con_sizeOf d g (by omega) f (.ref 4) (.ref 5) (.ref 6) (.int (nI cnt))) ab_pfx rfl (by decide) rfl rfl rfl rfl rfl rfl (Nat.le_of_ble_eq_true rfl) dX1_namings_17 (fun w' v h => by rw [h.1]) (fun w2 v2 hq => ?_)
          obtain ⟨rfl, rfl⟩ := hq
          rw [hf g (by omega), hf (g + 1) (by omega)]
          refine G_icmp_gtN (tgt := 33) (q + 1) (st (g + 1) - st g) dX1_namings_20 (by decide) rfl (pk_sub m1) (by omega) (by omega) (fun hgt => ?_) (fun hle => ?_)
          · refine G_iinc (L' := [_, _, _, _]) (v := nI (g + 1)) dX1_namings_33 rfl (nI_succ g).symm rfl ?_
            refine G_goto (tgt := 4) dX1_namings_36 (by decide) ?_
            have e : p = nmg st (g + 1) := by
              show p = nmg st g * fct (st (g + 1) - st g)
              by_cases h : q ≤ st (g + 1) - st g
              · rw [hp1 h, show q = st (g + 1) - st g by omega]
              · exact hp2 (by omega)
            rw [e]
            exact ih (cnt - (g + 1)) (by omega) (g + 1) rfl _ (by omega)
          refine G_iload_n dX1_namings_23 rfl ?_
          refine G_iload_n dX1_namings_24 rfl ?_
          refine G_imul dX1_namings_25 ?_
          refine G_topi (pk_mul p (q + 1)) ?_
          refine G_istore_n (L' := [_, _, _, _]) dX1_namings_26 (Nat.le_of_ble_eq_true rfl) rfl ?_
          refine G_iinc (L' := [_, _, _, _]) (v := nI (q + 1 + 1)) dX1_namings_27 rfl (nI_succ (q + 1)).symm rfl ?_
          refine G_goto (tgt := 14) dX1_namings_30 (by decide) ?_
          refine ihq (9 - (q + 1)) (by omega) (q + 1) rfl (p * (q + 1)) (by omega) (by omega) (fun _ => ?_) (fun h => by omega)
          rw [hp1 (by omega), Nat.mul_assoc]
          rfl
      refine inner 1 (nmg st g) (by omega) (by omega) (fun _ => ?_) (fun h => ?_)
      · show _ = nmg st g * (1 * 1); omega
      · rw [show st (g + 1) - st g = 0 by omega]; show _ = nmg st g * 1; omega
  exact outer 0 _ (by omega)
set_option maxRecDepth 20000 in
theorem con_adopt (d nb : Nat) (hn : nb ≤ 8) (f g : Nat → Int32) (dg : Int32) (t1 t2 : Nat) : Con mX5_adopt (d + 1) 0 0 [.inr (6, [.ref t1, .ref 101, .ref t2, .int dg]), cI 8 g, cI 8 f] [.ref 100, .ref 102, .int (nI nb)] (fun w' v => v = none ∧ w' = [.inr (6, [.ref t1, .ref 101, .ref t2, .int 0]), cI 8 (va_cpy f g 0 0 nb), cI 8 f]) := by
  refine Con.of (ab_okc rfl (by decide)) (Nat.le_of_ble_eq_true rfl) ?_
  show G ab_x0 mX5_adopt (d + 1) 0 0 _ 0 [some (.ref 100), some (.ref 102), some (.int (nI nb))] [] _
  refine G_aload_n dX5_adopt_0 rfl ?_
  refine G_iconst (v := 0) dX5_adopt_1 (by decide) ?_
  refine G_aload_n dX5_adopt_2 rfl ?_
  refine G_get (f := 1) kc6 dX5_adopt_3 fX5_18 (by decide) rfl rfl ?_
  refine G_iconst (v := 0) dX5_adopt_6 (by decide) ?_
  refine G_iload_n dX5_adopt_7 rfl ?_
  have e1 : (nI nb).toNatClampNeg = nb := nI_clamp (by omega)
  have e0 : (0 : Int32).toNatClampNeg = 0 := by decide
  refine G_copy (j0 := 2) (j1 := 1) (w1 := [_, _, _]) dX5_adopt_8 uX5_29 rfl (Nat.le_of_ble_eq_true rfl) rfl rfl (by decide) (by decide) (nI_pos (by omega)) (by rw [e1, e0]; omega) (by rw [e1, e0]; omega) rfl ?_
  rw [e1, e0]
  refine G_aload_n dX5_adopt_11 rfl ?_
  refine G_iconst (v := 0) dX5_adopt_12 (by decide) ?_
  refine G_put (w' := [_, _, _]) (f := 3) kc6 dX5_adopt_13 fX5_25 (by decide) rfl (by decide) (by decide) rfl (Nat.le_of_ble_eq_true rfl) rfl ?_
  exact G_ret (v := none) ⟨dX5_adopt_16, rfl⟩ ⟨rfl, rfl⟩
/-- the bytes of a row's first n triples -/
def fmB (k : Nat → Nat) : Nat → List Int32
  | 0 => []
  | n + 1 => fmB k n ++ (bys 4 (nI (kp (k n) 0) - 8) ++ (bys 4 (nI (kp (k n) 1) - 8) ++ bys 4 (nI (kp (k n) 2) - 8)))
set_option maxRecDepth 20000 in
set_option maxHeartbeats 4000000 in
theorem con_refreshDigest (d nt : Nat) (hn : nt ≤ 40) (K D : Nat → Int32) (k : Nat → Nat) (hK : ∀ i, i < nt → K i = nI (k i) ∧ k i < 2 ^ 30) (s : SS) (len bv hs ro : Int32) (t1 t2 : Nat) : Con mX5_refreshDigest (d + 3) 0 0 [.inr (6, [.ref 101, .ref t1, .ref 103, .int 0]), .inr (1, [.ref 102, .int bv, .int (nI nt), .int hs, .int ro, .ref t2]), cI 40 K, cI 8 D, .inr (7, [.ref 105, .ref 106, .int (nI s.2.2), .int len]), cI 8 s.1, cI 64 s.2.1] [.ref 100, .ref 104] (fun w' v => v = none ∧ ∃ (D2 : Nat → Int32) (s2 : SS) (l2 : Int32), w' = [.inr (6, [.ref 101, .ref t1, .ref 103, .int 1]), .inr (1, [.ref 102, .int bv, .int (nI nt), .int hs, .int ro, .ref t2]), cI 40 K, cI 8 D2, .inr (7, [.ref 105, .ref 106, .int (nI s2.2.2), .int l2]), cI 8 s2.1, cI 64 s2.2.1] ∧ ∀ j, j < 8 → D2 j = dig (fmB k nt) j) := by
  refine Con.of (ab_okc rfl (by decide)) (Nat.le_of_ble_eq_true rfl) ?_
  show G ab_x0 mX5_refreshDigest (d + 3) 0 0 _ 0 [some (.ref 100), some (.ref 104), none, none] [] _
  refine G_aload_n dX5_refreshDigest_0 rfl ?_
  refine G_get (f := 3) kc6 dX5_refreshDigest_1 fX5_25 (by decide) rfl rfl ?_
  refine G_if_eq (tgt := 8) dX5_refreshDigest_4 (by decide) (fun _ => ?_) (fun h => absurd rfl h)
  refine G_aload_n dX5_refreshDigest_8 rfl ?_
  refine G_V (is := [4, 5, 6]) (fo := []) (as := [.ref 100]) (as' := []) (st := []) (k := 0) (n := 0) cX5_refreshDigest_9 (con_begin (d + 1) s.2.2 len s.1 s.2.1) ab_pfx rfl (by decide) rfl rfl rfl rfl rfl rfl (Nat.le_of_ble_eq_true rfl) dX5_refreshDigest_9 (fun w' v h => by rw [h.2]; rfl) (fun w2 v2 hq => ?_)
  obtain ⟨rfl, hw2⟩ := hq
  obtain ⟨s0, hs0⟩ : ∃ z : SS, z = (va_cpy (ab_l ab_start) s.1 0 0 8, s.2.1, 0) := ⟨_, rfl⟩
  rw [← hs0] at hw2
  subst hw2
  have hs0l : s0.2.2 < 64 := by rw [hs0]; show 0 < 64; omega
  refine G_w (st' := []) (w' := [.inr (6, [.ref 101, .ref t1, .ref 103, .int 0]), .inr (1, [.ref 102, .int bv, .int (nI nt), .int hs, .int ro, .ref t2]), cI 40 K, cI 8 D, .inr (7, [.ref 105, .ref 106, .int (nI s0.2.2), .int 0]), cI 8 s0.1, cI 64 s0.2.1]) rfl rfl ?_
  refine G_iconst (v := 0) dX5_refreshDigest_12 (by decide) ?_
  refine G_istore_n (L' := [_, _, _, _]) dX5_refreshDigest_13 (Nat.le_of_ble_eq_true rfl) rfl ?_
  have outer : ∀ (i : Nat) (s1 : SS) (z : Option Value), i ≤ nt → s1 = eat s0 (fmB k i) → s1.2.2 < 64 → G ab_x0 mX5_refreshDigest (d + 3) 0 0 (fun w' v => v = none ∧ ∃ (D2 : Nat → Int32) (s2 : SS) (l2 : Int32), w' = [.inr (6, [.ref 101, .ref t1, .ref 103, .int 1]), .inr (1, [.ref 102, .int bv, .int (nI nt), .int hs, .int ro, .ref t2]), cI 40 K, cI 8 D2, .inr (7, [.ref 105, .ref 106, .int (nI s2.2.2), .int l2]), cI 8 s2.1, cI 64 s2.2.1] ∧ ∀ j, j < 8 → D2 j = dig (fmB k nt) j) 14 [some (.ref 100), some (.ref 104), some (.int (nI i)), z] [] [.inr (6, [.ref 101, .ref t1, .ref 103, .int 0]), .inr (1, [.ref 102, .int bv, .int (nI nt), .int hs, .int ro, .ref t2]), cI 40 K, cI 8 D, .inr (7, [.ref 105, .ref 106, .int (nI s1.2.2), .int (nI (fmB k i).length)]), cI 8 s1.1, cI 64 s1.2.1] := by
    intro i
    induction hm : nt - i using Nat.strongRecOn generalizing i with
    | ind m ih =>
      subst hm
      intro s1 z hi hs1 hs1l
      refine G_iload_n dX5_refreshDigest_14 rfl ?_
      refine G_aload_n dX5_refreshDigest_15 rfl ?_
      refine G_get (f := 0) kc6 dX5_refreshDigest_16 fX5_12 (by decide) rfl rfl ?_
      refine G_get (f := 2) kc1 dX5_refreshDigest_19 fX5_40 (by decide) rfl rfl ?_
      refine G_icmp_geN (tgt := 62) i nt dX5_refreshDigest_22 (by decide) rfl rfl (by omega) (by omega) (fun hge => ?_) (fun hlt => ?_)
      · have e : i = nt := by omega
        subst e
        refine G_aload_n dX5_refreshDigest_62 rfl ?_
        refine G_aload_n dX5_refreshDigest_63 rfl ?_
        refine G_get (f := 2) kc6 dX5_refreshDigest_64 fX5_22 (by decide) rfl rfl ?_
        refine G_iconst (v := 0) dX5_refreshDigest_67 (by decide) ?_
        refine G_V (is := [4, 5, 6, 3]) (fo := []) (as := [.ref 100, .ref 103, .int (nI 0)]) (as' := [.ref 103, .int (nI 0)]) (st := []) (k := 0) (n := 0) cX5_refreshDigest_68 (con_end (d) 0 8 (by decide) (by decide) (nI (fmB k i).length) s1 hs1l D) ab_pfx rfl (by decide) rfl rfl rfl rfl rfl rfl (Nat.le_of_ble_eq_true rfl) dX5_refreshDigest_68 (fun w' v h => by obtain ⟨_, l, h⟩ := h; rw [h]; exact (rfl : (4 : Nat) = 4)) (fun w2 v2 hq => ?_)
        obtain ⟨rfl, l9, hw2⟩ := hq
        obtain ⟨s9, hs9⟩ : ∃ z, z = endF s1 (nI (fmB k i).length) := ⟨_, rfl⟩
        rw [← hs9] at hw2
        subst hw2
        refine G_w (st' := []) (w' := [.inr (6, [.ref 101, .ref t1, .ref 103, .int 0]), .inr (1, [.ref 102, .int bv, .int (nI i), .int hs, .int ro, .ref t2]), cI 40 K, cI 8 (va_cpy s9.1 D 0 0 8), .inr (7, [.ref 105, .ref 106, .int (nI s9.2.2), .int l9]), cI 8 s9.1, cI 64 s9.2.1]) rfl rfl ?_
        refine G_aload_n dX5_refreshDigest_71 rfl ?_
        refine G_iconst (v := 1) dX5_refreshDigest_72 (by decide) ?_
        refine G_put (w' := [_, _, _, _, _, _, _]) (f := 3) kc6 dX5_refreshDigest_73 fX5_25 (by decide) rfl (by decide) (by decide) rfl (Nat.le_of_ble_eq_true rfl) rfl ?_
        refine G_ret (v := none) ⟨dX5_refreshDigest_76, rfl⟩ ⟨rfl, va_cpy s9.1 D 0 0 8, s9, l9, rfl, fun j hj => ?_⟩
        rw [pk_cpy_in (by omega) (by omega), show 0 + (j - 0) = j by omega, hs9, hs1, hs0]
        exact dg_dig _ _ _ hj
      obtain ⟨hK1, hK2⟩ := hK i hlt
      refine G_iconst (v := 0) dX5_refreshDigest_25 (by decide) ?_
      refine G_istore_n (L' := [_, _, _, _]) dX5_refreshDigest_26 (Nat.le_of_ble_eq_true rfl) rfl ?_
      have stp : ∀ (p : Nat) (s6 : SS) (n6 : Nat), p < 3 → s6.2.2 < 64 → (∀ (s7 : SS), s7 = eat s6 (bys 4 (nI (kp (k i) p) - 8)) → G ab_x0 mX5_refreshDigest (d + 3) 0 0 (fun w' v => v = none ∧ ∃ (D2 : Nat → Int32) (s2 : SS) (l2 : Int32), w' = [.inr (6, [.ref 101, .ref t1, .ref 103, .int 1]), .inr (1, [.ref 102, .int bv, .int (nI nt), .int hs, .int ro, .ref t2]), cI 40 K, cI 8 D2, .inr (7, [.ref 105, .ref 106, .int (nI s2.2.2), .int l2]), cI 8 s2.1, cI 64 s2.2.1] ∧ ∀ j, j < 8 → D2 j = dig (fmB k nt) j) 27 [some (.ref 100), some (.ref 104), some (.int (nI i)), some (.int (nI (p + 1)))] [] [.inr (6, [.ref 101, .ref t1, .ref 103, .int 0]), .inr (1, [.ref 102, .int bv, .int (nI nt), .int hs, .int ro, .ref t2]), cI 40 K, cI 8 D, .inr (7, [.ref 105, .ref 106, .int (nI s7.2.2), .int (nI (n6 + 4))]), cI 8 s7.1, cI 64 s7.2.1]) → G ab_x0 mX5_refreshDigest (d + 3) 0 0 (fun w' v => v = none ∧ ∃ (D2 : Nat → Int32) (s2 : SS) (l2 : Int32), w' = [.inr (6, [.ref 101, .ref t1, .ref 103, .int 1]), .inr (1, [.ref 102, .int bv, .int (nI nt), .int hs, .int ro, .ref t2]), cI 40 K, cI 8 D2, .inr (7, [.ref 105, .ref 106, .int (nI s2.2.2), .int l2]), cI 8 s2.1, cI 64 s2.2.1] ∧ ∀ j, j < 8 → D2 j = dig (fmB k nt) j) 27 [some (.ref 100), some (.ref 104), some (.int (nI i)), some (.int (nI p))] [] [.inr (6, [.ref 101, .ref t1, .ref 103, .int 0]), .inr (1, [.ref 102, .int bv, .int (nI nt), .int hs, .int ro, .ref t2]), cI 40 K, cI 8 D, .inr (7, [.ref 105, .ref 106, .int (nI s6.2.2), .int (nI n6)]), cI 8 s6.1, cI 64 s6.2.1] := by
        intro p s6 n6 hp hs6 kk
        refine G_iload_n dX5_refreshDigest_27 rfl ?_
        refine G_iconst (v := 3) dX5_refreshDigest_28 (by decide) ?_
        refine G_icmp_geN (tgt := 56) p 3 dX5_refreshDigest_29 (by decide) rfl rfl (by omega) (by omega) (fun h => by omega) (fun _ => ?_)
        refine G_aload_n dX5_refreshDigest_32 rfl ?_
        refine G_aload_n dX5_refreshDigest_33 rfl ?_
        refine G_get (f := 0) kc6 dX5_refreshDigest_34 fX5_12 (by decide) rfl rfl ?_
        refine G_get (f := 0) kc1 dX5_refreshDigest_37 fX5_44 (by decide) rfl rfl ?_
        refine G_iload_n dX5_refreshDigest_40 rfl ?_
        refine G_ialdN i dX5_refreshDigest_41 rfl rfl (by omega) (by omega) ?_
        rw [hK1]
        refine G_iload_n dX5_refreshDigest_42 rfl ?_
        refine G_SN (is := []) (fo := []) (as := [.int (nI (k i)), .int (nI p)]) (as' := [.int (nI (k i)), .int (nI p)]) (st := [.ref 104]) (k := 0) (n := 0) cX5_refreshDigest_43 (con_pointAt (d + 1) (k i) p hK2 hp) ab_pfx rfl (by decide) rfl rfl rfl rfl (Nat.le_of_ble_eq_true rfl) dX5_refreshDigest_43 (fun w' v h => by rw [h.1]) (fun w2 v2 hq => ?_)
        obtain ⟨rfl, rfl⟩ := hq
        refine G_iconst (v := 4) dX5_refreshDigest_46 (by decide) ?_
        refine G_V (is := [4, 5, 6]) (fo := []) (as := [.ref 100, .int (nI (kp (k i) p) - 8), .int (nI 4)]) (as' := [.int (nI (kp (k i) p) - 8), .int (nI 4)]) (st := []) (k := 0) (n := 0) cX5_refreshDigest_47 (con_eat (d + 1) 4 (by decide) (nI (kp (k i) p) - 8) (nI n6) s6 hs6) ab_pfx rfl (by decide) rfl rfl rfl rfl rfl rfl (Nat.le_of_ble_eq_true rfl) dX5_refreshDigest_47 (fun w' v h => by rw [h.2]; exact (rfl : (3 : Nat) = 3)) (fun w2 v2 hq => ?_)
        obtain ⟨rfl, hw2⟩ := hq
        obtain ⟨s8, hs8⟩ : ∃ z, z = eat s6 (bys 4 (nI (kp (k i) p) - 8)) := ⟨_, rfl⟩
        rw [← hs8, nI_add] at hw2
        subst hw2
        refine G_w (st' := []) (w' := [.inr (6, [.ref 101, .ref t1, .ref 103, .int 0]), .inr (1, [.ref 102, .int bv, .int (nI nt), .int hs, .int ro, .ref t2]), cI 40 K, cI 8 D, .inr (7, [.ref 105, .ref 106, .int (nI s8.2.2), .int (nI (n6 + 4))]), cI 8 s8.1, cI 64 s8.2.1]) rfl rfl ?_
        refine G_iinc (L' := [_, _, _, _]) (v := nI (p + 1)) dX5_refreshDigest_50 rfl (nI_succ p).symm rfl ?_
        refine G_goto (tgt := 27) dX5_refreshDigest_53 (by decide) ?_
        exact kk s8 hs8
      refine stp 0 s1 _ (by omega) hs1l (fun s6 hs6 => ?_)
      have hs6l : s6.2.2 < 64 := by rw [hs6]; exact eat_lt _ _ hs1l
      refine stp 1 s6 _ (by omega) hs6l (fun s7 hs7 => ?_)
      have hs7l : s7.2.2 < 64 := by rw [hs7]; exact eat_lt _ _ hs6l
      refine stp 2 s7 _ (by omega) hs7l (fun s8 hs8 => ?_)
      have hs8l : s8.2.2 < 64 := by rw [hs8]; exact eat_lt _ _ hs7l
      refine G_iload_n dX5_refreshDigest_27 rfl ?_
      refine G_iconst (v := 3) dX5_refreshDigest_28 (by decide) ?_
      refine G_icmp_geN (tgt := 56) 3 3 dX5_refreshDigest_29 (by decide) rfl rfl (by omega) (by omega) (fun _ => ?_) (fun h => by omega)
      refine G_iinc (L' := [_, _, _, _]) (v := nI (i + 1)) dX5_refreshDigest_56 rfl (nI_succ i).symm rfl ?_
      refine G_goto (tgt := 14) dX5_refreshDigest_59 (by decide) ?_
      have el : (fmB k (i + 1)).length = (fmB k i).length + 4 + 4 + 4 := by
        show (fmB k i ++ (bys 4 _ ++ (bys 4 _ ++ bys 4 _))).length = _
        rw [List.length_append, List.length_append, List.length_append, bys_len, bys_len, bys_len]
      rw [← el]
      refine ih (nt - (i + 1)) (by omega) (i + 1) rfl s8 _ (by omega) ?_ hs8l
      rw [hs8, hs7, hs6, hs1, ← eat_app, ← eat_app, ← eat_app]
      show _ = eat s0 (fmB k i ++ (bys 4 _ ++ (bys 4 _ ++ bys 4 _)))
      simp only [List.append_assoc]
  exact outer 0 s0 _ (by omega) rfl hs0l
