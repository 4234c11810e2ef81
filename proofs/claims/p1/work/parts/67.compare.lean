/-! The reference: compare, different. -/
theorem zx_lt (x y : Int32) : zx x < zx y ↔ uw x < uw y := by
  unfold zx
  exact pk_lLT (Nat.lt_trans (uw_lt x) (by decide)) (Nat.lt_trans (uw_lt y) (by decide))
/-- the hashes of the n blanks, as the reference keeps them -/
def hOk (h : Nat → Int64) (F : Nat → Int32) (n : Nat) : Prop := ∀ b j, b < n → j < 8 → h (8 * (b + 1) + j) = zx (F (b * 8 + j))
set_option maxRecDepth 20000 in
theorem con8_compare (d a b : Nat) (ha8 : a < 8) (hb8 : b < 8) (h : Nat → Int64) (F : Nat → Int32) (ha : ∀ j, j < 8 → h (8 * (a + 1) + j) = zx (F (a * 8 + j))) (hb : ∀ j, j < 8 → h (8 * (b + 1) + j) = zx (F (b * 8 + j))) : Con mX8_compare d 0 0 [cL 72 h] [.ref 100, .int (nI (a + 1)), .int (nI (b + 1))] (fun w' v => w' = [cL 72 h] ∧ v = some (.int (cmpN (hv F a) (hv F b)))) := by
  refine Con.of (ab_okc rfl (by decide)) (Nat.le_of_ble_eq_true rfl) ?_
  show G ab_x0 mX8_compare d 0 0 _ 0 [some (.ref 100), some (.int (nI (a + 1))), some (.int (nI (b + 1))), none] [] _
  refine G_iconst (v := 0) dX8_compare_0 (by decide) ?_
  refine G_istore_n (L' := [_, _, _, _]) dX8_compare_1 (Nat.le_of_ble_eq_true rfl) rfl ?_
  have hFa : ∀ j, uw (F (a * 8 + j)) < 2 ^ 32 := fun j => uw_lt _
  have hFb : ∀ j, uw (F (b * 8 + j)) < 2 ^ 32 := fun j => uw_lt _
  have loop : ∀ (n i : Nat), 8 - i = n → i ≤ 8 → pw (fun i => uw (F (a * 8 + i))) i = pw (fun i => uw (F (b * 8 + i))) i → G ab_x0 mX8_compare d 0 0 (fun w' v => w' = [cL 72 h] ∧ v = some (.int (cmpN (hv F a) (hv F b)))) 2 [some (.ref 100), some (.int (nI (a + 1))), some (.int (nI (b + 1))), some (.int (nI i))] [] [cL 72 h] := by
    intro n
    induction n using Nat.strongRecOn with
    | ind n ih =>
      intro i hn hi he
      refine G_iload_n dX8_compare_2 rfl ?_
      refine G_bipush (v := 8) dX8_compare_3 (by decide) ?_
      refine G_icmp_geN (tgt := 60) i 8 dX8_compare_5 (by decide) rfl rfl (by omega) (by omega) (fun hge => ?_) (fun hlt => ?_)
      · refine G_iconst (v := 0) dX8_compare_60 (by decide) ?_
        refine G_ret (v := some (.int _)) ⟨dX8_compare_61, _, rfl, rfl⟩ ⟨rfl, ?_⟩
        have e : i = 8 := by omega
        subst e
        have e : hv F a = hv F b := he
        rw [e]
        simp [cmpN]
      refine G_aload_n dX8_compare_8 rfl ?_
      refine G_bipush (v := 8) dX8_compare_9 (by decide) ?_
      refine G_iload_n dX8_compare_11 rfl ?_
      refine G_imul dX8_compare_12 ?_
      refine G_topi (y := nI (8 * (a + 1))) (pk_mul 8 (a + 1)) ?_
      refine G_iload_n dX8_compare_13 rfl ?_
      refine G_iadd dX8_compare_14 ?_
      refine G_laldN (8 * (a + 1) + i) dX8_compare_15 rfl (nI_add _ _) (by omega) (by decide) ?_
      refine G_topl (y := zx (F (a * 8 + i))) (ha i hlt) ?_
      refine G_aload_n dX8_compare_16 rfl ?_
      refine G_bipush (v := 8) dX8_compare_17 (by decide) ?_
      refine G_iload_n dX8_compare_19 rfl ?_
      refine G_imul dX8_compare_20 ?_
      refine G_topi (y := nI (8 * (b + 1))) (pk_mul 8 (b + 1)) ?_
      refine G_iload_n dX8_compare_21 rfl ?_
      refine G_iadd dX8_compare_22 ?_
      refine G_laldN (8 * (b + 1) + i) dX8_compare_23 rfl (nI_add _ _) (by omega) (by decide) ?_
      refine G_topl (y := zx (F (b * 8 + i))) (hb i hlt) ?_
      refine G_lcmp dX8_compare_24 ?_
      refine G_if_eq (tgt := 54) dX8_compare_25 (by decide) (fun h1 => ?_) (fun h1 => ?_)
      · refine G_iinc (L' := [_, _, _, _]) (v := nI (i + 1)) dX8_compare_54 rfl (nI_1 i) rfl ?_
        refine G_goto (tgt := 2) dX8_compare_57 (by decide) ?_
        refine ih (8 - (i + 1)) (by omega) (i + 1) rfl (by omega) ?_
        show pw _ i * 2 ^ 32 + uw (F (a * 8 + i)) = pw _ i * 2 ^ 32 + uw (F (b * 8 + i))
        rw [he, zx_inj ((lg_cmp_eq _ _).mp h1)]
      have h1' : zx (F (a * 8 + i)) ≠ zx (F (b * 8 + i)) := fun q => h1 ((lg_cmp_eq _ _).mpr q)
      refine G_aload_n dX8_compare_28 rfl ?_
      refine G_bipush (v := 8) dX8_compare_29 (by decide) ?_
      refine G_iload_n dX8_compare_31 rfl ?_
      refine G_imul dX8_compare_32 ?_
      refine G_topi (y := nI (8 * (a + 1))) (pk_mul 8 (a + 1)) ?_
      refine G_iload_n dX8_compare_33 rfl ?_
      refine G_iadd dX8_compare_34 ?_
      refine G_laldN (8 * (a + 1) + i) dX8_compare_35 rfl (nI_add _ _) (by omega) (by decide) ?_
      refine G_topl (y := zx (F (a * 8 + i))) (ha i hlt) ?_
      refine G_aload_n dX8_compare_36 rfl ?_
      refine G_bipush (v := 8) dX8_compare_37 (by decide) ?_
      refine G_iload_n dX8_compare_39 rfl ?_
      refine G_imul dX8_compare_40 ?_
      refine G_topi (y := nI (8 * (b + 1))) (pk_mul 8 (b + 1)) ?_
      refine G_iload_n dX8_compare_41 rfl ?_
      refine G_iadd dX8_compare_42 ?_
      refine G_laldN (8 * (b + 1) + i) dX8_compare_43 rfl (nI_add _ _) (by omega) (by decide) ?_
      refine G_topl (y := zx (F (b * 8 + i))) (hb i hlt) ?_
      refine G_lcmp dX8_compare_44 ?_
      refine G_if_ge (tgt := 52) dX8_compare_45 (by decide) (fun h2 => ?_) (fun h2 => ?_)
      · refine G_iconst (v := 1) dX8_compare_52 (by decide) ?_
        refine G_ret (v := some (.int _)) ⟨dX8_compare_53, _, rfl, rfl⟩ ⟨rfl, ?_⟩
        have h3 : uw (F (b * 8 + i)) < uw (F (a * 8 + i)) := by
          rcases Int64.lt_or_eq_of_le ((lg_cmp_ge _ _).mp h2) with q | q
          · exact (zx_lt _ _).mp q
          · exact absurd q.symm h1'
        have h4 : hv F b < hv F a := by
          have := pw_lt (F := fun i => uw (F (b * 8 + i))) (F' := fun i => uw (F (a * 8 + i))) (i := i + 1) (by show pw _ i * 2 ^ 32 + uw (F (b * 8 + i)) < pw _ i * 2 ^ 32 + uw (F (a * 8 + i)); rw [he]; omega) (8 - (i + 1)) hFb
          rw [show i + 1 + (8 - (i + 1)) = 8 by omega] at this
          exact this
        unfold cmpN
        rw [if_neg (by omega), if_neg (by omega)]
      refine G_iconst (v := (-1)) dX8_compare_48 (by decide) ?_
      refine G_goto (tgt := 53) dX8_compare_49 (by decide) ?_
      refine G_ret (v := some (.int _)) ⟨dX8_compare_53, _, rfl, rfl⟩ ⟨rfl, ?_⟩
      have h3 : uw (F (a * 8 + i)) < uw (F (b * 8 + i)) := (zx_lt _ _).mp (Int64.not_le.mp (fun q => h2 ((lg_cmp_ge _ _).mpr q)))
      have h4 : hv F a < hv F b := by
        have := pw_lt (F := fun i => uw (F (a * 8 + i))) (F' := fun i => uw (F (b * 8 + i))) (i := i + 1) (by show pw _ i * 2 ^ 32 + uw (F (a * 8 + i)) < pw _ i * 2 ^ 32 + uw (F (b * 8 + i)); rw [he]; omega) (8 - (i + 1)) hFa
        rw [show i + 1 + (8 - (i + 1)) = 8 by omega] at this
        exact this
      unfold cmpN
      rw [if_pos h4]
  exact loop 8 0 rfl (by omega) rfl
theorem bi_0 {b : Bool} (h : bi b = 0) : b = false := by cases b <;> first | rfl | exact absurd h (by decide)
theorem bi_1 {b : Bool} (h : ¬ bi b = 0) : b = true := by cases b <;> first | rfl | exact absurd rfl h
/-- how many values the first n have -/
def frs (H : Nat → Nat) (m : Nat) : Bool := decide (∀ b, b < m → H b ≠ H m)
def dfr (H : Nat → Nat) : Nat → Nat
  | 0 => 0
  | m + 1 => dfr H m + if frs H m then 1 else 0
theorem dfr_le (H : Nat → Nat) : ∀ n, dfr H n ≤ n
  | 0 => Nat.le_refl _
  | n + 1 => by
    have := dfr_le H n
    rw [dfr]
    split <;> omega
/-- no equal one among the first b -/
def frB (H : Nat → Nat) (m b : Nat) : Bool := decide (∀ c, c < b → H c ≠ H m)
theorem frB_s (H : Nat → Nat) (m b : Nat) : frB H m (b + 1) = (frB H m b && decide (cmpN (H m) (H b) ≠ 0)) := by
  unfold frB
  rw [← Bool.decide_and]
  apply decide_eq_decide.mpr
  rw [Ne, cmpN_0]
  constructor
  · exact fun q => ⟨fun c hc => q c (by omega), fun e => q b (by omega) e.symm⟩
  · intro q c hc
    by_cases e : c = b
    · rw [e]; exact fun e2 => q.2 e2.symm
    · exact q.1 c (by omega)
set_option maxRecDepth 20000 in
set_option maxHeartbeats 1000000 in
theorem con8_differentH (d nb : Nat) (r : R8) (hb : r.bl 8 = nI nb) (hnb : nb ≤ 8) (F : Nat → Int32) (hF : hOk r.ha F nb) : Con mX8_different (d + 1) 0 0 (w8 r) [.ref 100, .ref 105] (fun w' v => ∃ r', w' = w8 r' ∧ r' = r ∧ v = some (.int (nI (dfr (hv F) nb)))) := by
  refine Con.of (ab_okc rfl (by decide)) (Nat.le_of_ble_eq_true rfl) ?_
  show G ab_x0 mX8_different (d + 1) 0 0 _ 0 [some (.ref 100), some (.ref 105), none, none, none, none] [] _
  refine G_iconst (v := 0) dX8_different_0 (by decide) ?_
  refine G_istore_n (L' := [_, _, _, _, _, _]) dX8_different_1 (Nat.le_of_ble_eq_true rfl) rfl ?_
  refine G_iconst (v := 1) dX8_different_2 (by decide) ?_
  refine G_istore_n (L' := [_, _, _, _, _, _]) dX8_different_3 (Nat.le_of_ble_eq_true rfl) rfl ?_
  have loop : ∀ (n a : Nat) (z4 z5 : Option Value), nb - a = n → a ≤ nb → G ab_x0 mX8_different (d + 1) 0 0 (fun w' v => ∃ r', w' = w8 r' ∧ r' = r ∧ v = some (.int (nI (dfr (hv F) nb)))) 4 [some (.ref 100), some (.ref 105), some (.int (nI (dfr (hv F) a))), some (.int (nI (a + 1))), z4, z5] [] (w8 r) := by
    intro n
    induction n using Nat.strongRecOn with
    | ind n ih =>
      intro a z4 z5 hn ha
      have hda := dfr_le (hv F) a
      refine G_iload_n dX8_different_4 rfl ?_
      refine G_aload_n dX8_different_5 rfl ?_
      refine G_get (f := 1) kc9 dX8_different_6 fX8_145 (by decide) rfl rfl ?_
      refine G_bipush (v := 8) dX8_different_9 (by decide) ?_
      refine G_ialdN (8) dX8_different_11 rfl rfl (by decide) (by decide) ?_
      refine G_icmp_gtN (tgt := 74) (a + 1) nb dX8_different_12 (by decide) rfl hb (by omega) (by omega) (fun hgt => ?_) (fun hle => ?_)
      · have e : a = nb := by omega
        subst e
        refine G_iload_n dX8_different_74 rfl ?_
        exact G_ret (v := some (.int _)) ⟨dX8_different_75, _, rfl, rfl⟩ ⟨r, rfl, rfl, rfl⟩
      refine G_iconst (v := 1) dX8_different_15 (by decide) ?_
      refine G_istore (L' := [_, _, _, _, _, _]) dX8_different_16 (Nat.le_of_ble_eq_true rfl) rfl ?_
      refine G_iconst (v := 1) dX8_different_18 (by decide) ?_
      refine G_istore (L' := [_, _, _, _, _, _]) dX8_different_19 (Nat.le_of_ble_eq_true rfl) rfl ?_
      have inner : ∀ (n2 b : Nat), a - b = n2 → b ≤ a → G ab_x0 mX8_different (d + 1) 0 0 (fun w' v => ∃ r', w' = w8 r' ∧ r' = r ∧ v = some (.int (nI (dfr (hv F) nb)))) 21 [some (.ref 100), some (.ref 105), some (.int (nI (dfr (hv F) a))), some (.int (nI (a + 1))), some (.int (bi (frB (hv F) a b))), some (.int (nI (b + 1)))] [] (w8 r) := by
        intro n2
        induction n2 using Nat.strongRecOn with
        | ind n2 ih2 =>
          intro b hn2 hb2
          refine G_iload dX8_different_21 rfl ?_
          refine G_iload_n dX8_different_23 rfl ?_
          refine G_icmp_geN (tgt := 55) (b + 1) (a + 1) dX8_different_24 (by decide) rfl rfl (by omega) (by omega) (fun hge => ?_) (fun hlt => ?_)
          · have e : b = a := by omega
            subst e
            have ed : dfr (hv F) (b + 1) = dfr (hv F) b + if frB (hv F) b b then 1 else 0 := rfl
            refine G_iload_n dX8_different_55 rfl ?_
            refine G_iload dX8_different_56 rfl ?_
            refine G_if_eq (tgt := 65) dX8_different_58 (by decide) (fun h0 => ?_) (fun h1 => ?_)
            · have ef : frB (hv F) b b = false := bi_0 h0
              rw [ef] at ed
              refine G_iconst (v := 0) dX8_different_65 (by decide) ?_
              refine G_iadd dX8_different_66 ?_
              refine G_topi (y := nI (dfr (hv F) (b + 1))) (by rw [ed]; exact nI_add _ 0) ?_
              refine G_istore_n (L' := [_, _, _, _, _, _]) dX8_different_67 (Nat.le_of_ble_eq_true rfl) rfl ?_
              refine G_iinc (L' := [_, _, _, _, _, _]) (v := nI (b + 1 + 1)) dX8_different_68 rfl (nI_1 _) rfl ?_
              refine G_goto (tgt := 4) dX8_different_71 (by decide) ?_
              exact ih (nb - (b + 1)) (by omega) (b + 1) _ _ rfl (by omega)
            · have ef : frB (hv F) b b = true := bi_1 h1
              rw [ef] at ed
              refine G_iconst (v := 1) dX8_different_61 (by decide) ?_
              refine G_goto (tgt := 66) dX8_different_62 (by decide) ?_
              refine G_iadd dX8_different_66 ?_
              refine G_topi (y := nI (dfr (hv F) (b + 1))) (by rw [ed]; exact nI_add _ 1) ?_
              refine G_istore_n (L' := [_, _, _, _, _, _]) dX8_different_67 (Nat.le_of_ble_eq_true rfl) rfl ?_
              refine G_iinc (L' := [_, _, _, _, _, _]) (v := nI (b + 1 + 1)) dX8_different_68 rfl (nI_1 _) rfl ?_
              refine G_goto (tgt := 4) dX8_different_71 (by decide) ?_
              exact ih (nb - (b + 1)) (by omega) (b + 1) _ _ rfl (by omega)
          have hs := frB_s (hv F) a b
          have go : ∀ (pc : Nat) (x : Bool), frB (hv F) a (b + 1) = x → G ab_x0 mX8_different (d + 1) 0 0 (fun w' v => ∃ r', w' = w8 r' ∧ r' = r ∧ v = some (.int (nI (dfr (hv F) nb)))) 47 [some (.ref 100), some (.ref 105), some (.int (nI (dfr (hv F) a))), some (.int (nI (a + 1))), some (.int (bi (frB (hv F) a b))), some (.int (nI (b + 1)))] [.int (bi x)] (w8 r) := by
            intro _ x hx
            refine G_istore (L' := [_, _, _, _, _, _]) dX8_different_47 (Nat.le_of_ble_eq_true rfl) rfl ?_
            refine G_iinc (L' := [_, _, _, _, _, _]) (v := nI (b + 1 + 1)) dX8_different_49 rfl (nI_1 _) rfl ?_
            refine G_goto (tgt := 21) dX8_different_52 (by decide) ?_
            rw [← hx]
            exact ih2 (a - (b + 1)) (by omega) (b + 1) rfl (by omega)
          refine G_iload dX8_different_27 rfl ?_
          refine G_if_eq (tgt := 46) dX8_different_29 (by decide) (fun h0 => ?_) (fun h1 => ?_)
          · have ef : frB (hv F) a b = false := bi_0 h0
            refine G_iconst (v := 0) dX8_different_46 (by decide) ?_
            exact go 0 false (by rw [hs, ef]; rfl)
          have ef : frB (hv F) a b = true := bi_1 h1
          refine G_aload_n dX8_different_32 rfl ?_
          refine G_iload_n dX8_different_33 rfl ?_
          refine G_iload dX8_different_34 rfl ?_
          refine G_S (is := [5]) (fo := []) (as := [.ref 100, .int (nI (a + 1)), .int (nI (b + 1))]) (as' := [.ref 105, .int (nI (a + 1)), .int (nI (b + 1))]) (st := []) (k := 0) (n := 0) cX8_different_36 (con8_compare d a b (by omega) (by omega) r.ha F (fun j hj => hF a j (by omega) hj) (fun j hj => hF b j (by omega) hj)) ab_pfx rfl (by decide) rfl rfl rfl rfl (Nat.le_of_ble_eq_true rfl) dX8_different_36 (fun w' v h => by rw [h.1]) (fun w2 v2 hq => ?_)
          obtain ⟨rfl, rfl⟩ := hq
          refine G_w (st' := [.int (cmpN (hv F a) (hv F b))]) (w' := w8 r) rfl rfl ?_
          refine G_if_eq (tgt := 46) dX8_different_39 (by decide) (fun h2 => ?_) (fun h2 => ?_)
          · refine G_iconst (v := 0) dX8_different_46 (by decide) ?_
            exact go 0 false (by rw [hs, ef, decide_eq_false (fun q => q h2)]; rfl)
          · refine G_iconst (v := 1) dX8_different_42 (by decide) ?_
            refine G_goto (tgt := 47) dX8_different_43 (by decide) ?_
            exact go 0 true (by rw [hs, ef, decide_eq_true h2]; rfl)
      have e0 : frB (hv F) a 0 = true := decide_eq_true (fun c hc => absurd hc (Nat.not_lt_zero c))
      have := inner a 0 rfl (by omega)
      rw [e0] at this
      exact this
  exact loop nb 0 none none rfl (by omega)
set_option maxRecDepth 20000 in
set_option maxHeartbeats 1000000 in
theorem con8_differentN (d nb : Nat) (r : R8) (hb : r.bl 8 = nI nb) (hnb : nb ≤ 8) (F : Nat → Int32) (hF : hOk r.nw F nb) : Con mX8_different (d + 1) 0 0 (w8 r) [.ref 100, .ref 106] (fun w' v => ∃ r', w' = w8 r' ∧ r' = r ∧ v = some (.int (nI (dfr (hv F) nb)))) := by
  refine Con.of (ab_okc rfl (by decide)) (Nat.le_of_ble_eq_true rfl) ?_
  show G ab_x0 mX8_different (d + 1) 0 0 _ 0 [some (.ref 100), some (.ref 106), none, none, none, none] [] _
  refine G_iconst (v := 0) dX8_different_0 (by decide) ?_
  refine G_istore_n (L' := [_, _, _, _, _, _]) dX8_different_1 (Nat.le_of_ble_eq_true rfl) rfl ?_
  refine G_iconst (v := 1) dX8_different_2 (by decide) ?_
  refine G_istore_n (L' := [_, _, _, _, _, _]) dX8_different_3 (Nat.le_of_ble_eq_true rfl) rfl ?_
  have loop : ∀ (n a : Nat) (z4 z5 : Option Value), nb - a = n → a ≤ nb → G ab_x0 mX8_different (d + 1) 0 0 (fun w' v => ∃ r', w' = w8 r' ∧ r' = r ∧ v = some (.int (nI (dfr (hv F) nb)))) 4 [some (.ref 100), some (.ref 106), some (.int (nI (dfr (hv F) a))), some (.int (nI (a + 1))), z4, z5] [] (w8 r) := by
    intro n
    induction n using Nat.strongRecOn with
    | ind n ih =>
      intro a z4 z5 hn ha
      have hda := dfr_le (hv F) a
      refine G_iload_n dX8_different_4 rfl ?_
      refine G_aload_n dX8_different_5 rfl ?_
      refine G_get (f := 1) kc9 dX8_different_6 fX8_145 (by decide) rfl rfl ?_
      refine G_bipush (v := 8) dX8_different_9 (by decide) ?_
      refine G_ialdN (8) dX8_different_11 rfl rfl (by decide) (by decide) ?_
      refine G_icmp_gtN (tgt := 74) (a + 1) nb dX8_different_12 (by decide) rfl hb (by omega) (by omega) (fun hgt => ?_) (fun hle => ?_)
      · have e : a = nb := by omega
        subst e
        refine G_iload_n dX8_different_74 rfl ?_
        exact G_ret (v := some (.int _)) ⟨dX8_different_75, _, rfl, rfl⟩ ⟨r, rfl, rfl, rfl⟩
      refine G_iconst (v := 1) dX8_different_15 (by decide) ?_
      refine G_istore (L' := [_, _, _, _, _, _]) dX8_different_16 (Nat.le_of_ble_eq_true rfl) rfl ?_
      refine G_iconst (v := 1) dX8_different_18 (by decide) ?_
      refine G_istore (L' := [_, _, _, _, _, _]) dX8_different_19 (Nat.le_of_ble_eq_true rfl) rfl ?_
      have inner : ∀ (n2 b : Nat), a - b = n2 → b ≤ a → G ab_x0 mX8_different (d + 1) 0 0 (fun w' v => ∃ r', w' = w8 r' ∧ r' = r ∧ v = some (.int (nI (dfr (hv F) nb)))) 21 [some (.ref 100), some (.ref 106), some (.int (nI (dfr (hv F) a))), some (.int (nI (a + 1))), some (.int (bi (frB (hv F) a b))), some (.int (nI (b + 1)))] [] (w8 r) := by
        intro n2
        induction n2 using Nat.strongRecOn with
        | ind n2 ih2 =>
          intro b hn2 hb2
          refine G_iload dX8_different_21 rfl ?_
          refine G_iload_n dX8_different_23 rfl ?_
          refine G_icmp_geN (tgt := 55) (b + 1) (a + 1) dX8_different_24 (by decide) rfl rfl (by omega) (by omega) (fun hge => ?_) (fun hlt => ?_)
          · have e : b = a := by omega
            subst e
            have ed : dfr (hv F) (b + 1) = dfr (hv F) b + if frB (hv F) b b then 1 else 0 := rfl
            refine G_iload_n dX8_different_55 rfl ?_
            refine G_iload dX8_different_56 rfl ?_
            refine G_if_eq (tgt := 65) dX8_different_58 (by decide) (fun h0 => ?_) (fun h1 => ?_)
            · have ef : frB (hv F) b b = false := bi_0 h0
              rw [ef] at ed
              refine G_iconst (v := 0) dX8_different_65 (by decide) ?_
              refine G_iadd dX8_different_66 ?_
              refine G_topi (y := nI (dfr (hv F) (b + 1))) (by rw [ed]; exact nI_add _ 0) ?_
              refine G_istore_n (L' := [_, _, _, _, _, _]) dX8_different_67 (Nat.le_of_ble_eq_true rfl) rfl ?_
              refine G_iinc (L' := [_, _, _, _, _, _]) (v := nI (b + 1 + 1)) dX8_different_68 rfl (nI_1 _) rfl ?_
              refine G_goto (tgt := 4) dX8_different_71 (by decide) ?_
              exact ih (nb - (b + 1)) (by omega) (b + 1) _ _ rfl (by omega)
            · have ef : frB (hv F) b b = true := bi_1 h1
              rw [ef] at ed
              refine G_iconst (v := 1) dX8_different_61 (by decide) ?_
              refine G_goto (tgt := 66) dX8_different_62 (by decide) ?_
              refine G_iadd dX8_different_66 ?_
              refine G_topi (y := nI (dfr (hv F) (b + 1))) (by rw [ed]; exact nI_add _ 1) ?_
              refine G_istore_n (L' := [_, _, _, _, _, _]) dX8_different_67 (Nat.le_of_ble_eq_true rfl) rfl ?_
              refine G_iinc (L' := [_, _, _, _, _, _]) (v := nI (b + 1 + 1)) dX8_different_68 rfl (nI_1 _) rfl ?_
              refine G_goto (tgt := 4) dX8_different_71 (by decide) ?_
              exact ih (nb - (b + 1)) (by omega) (b + 1) _ _ rfl (by omega)
          have hs := frB_s (hv F) a b
          have go : ∀ (pc : Nat) (x : Bool), frB (hv F) a (b + 1) = x → G ab_x0 mX8_different (d + 1) 0 0 (fun w' v => ∃ r', w' = w8 r' ∧ r' = r ∧ v = some (.int (nI (dfr (hv F) nb)))) 47 [some (.ref 100), some (.ref 106), some (.int (nI (dfr (hv F) a))), some (.int (nI (a + 1))), some (.int (bi (frB (hv F) a b))), some (.int (nI (b + 1)))] [.int (bi x)] (w8 r) := by
            intro _ x hx
            refine G_istore (L' := [_, _, _, _, _, _]) dX8_different_47 (Nat.le_of_ble_eq_true rfl) rfl ?_
            refine G_iinc (L' := [_, _, _, _, _, _]) (v := nI (b + 1 + 1)) dX8_different_49 rfl (nI_1 _) rfl ?_
            refine G_goto (tgt := 21) dX8_different_52 (by decide) ?_
            rw [← hx]
            exact ih2 (a - (b + 1)) (by omega) (b + 1) rfl (by omega)
          refine G_iload dX8_different_27 rfl ?_
          refine G_if_eq (tgt := 46) dX8_different_29 (by decide) (fun h0 => ?_) (fun h1 => ?_)
          · have ef : frB (hv F) a b = false := bi_0 h0
            refine G_iconst (v := 0) dX8_different_46 (by decide) ?_
            exact go 0 false (by rw [hs, ef]; rfl)
          have ef : frB (hv F) a b = true := bi_1 h1
          refine G_aload_n dX8_different_32 rfl ?_
          refine G_iload_n dX8_different_33 rfl ?_
          refine G_iload dX8_different_34 rfl ?_
          refine G_S (is := [6]) (fo := []) (as := [.ref 100, .int (nI (a + 1)), .int (nI (b + 1))]) (as' := [.ref 106, .int (nI (a + 1)), .int (nI (b + 1))]) (st := []) (k := 0) (n := 0) cX8_different_36 (con8_compare d a b (by omega) (by omega) r.nw F (fun j hj => hF a j (by omega) hj) (fun j hj => hF b j (by omega) hj)) ab_pfx rfl (by decide) rfl rfl rfl rfl (Nat.le_of_ble_eq_true rfl) dX8_different_36 (fun w' v h => by rw [h.1]) (fun w2 v2 hq => ?_)
          obtain ⟨rfl, rfl⟩ := hq
          refine G_w (st' := [.int (cmpN (hv F a) (hv F b))]) (w' := w8 r) rfl rfl ?_
          refine G_if_eq (tgt := 46) dX8_different_39 (by decide) (fun h2 => ?_) (fun h2 => ?_)
          · refine G_iconst (v := 0) dX8_different_46 (by decide) ?_
            exact go 0 false (by rw [hs, ef, decide_eq_false (fun q => q h2)]; rfl)
          · refine G_iconst (v := 1) dX8_different_42 (by decide) ?_
            refine G_goto (tgt := 47) dX8_different_43 (by decide) ?_
            exact go 0 true (by rw [hs, ef, decide_eq_true h2]; rfl)
      have e0 : frB (hv F) a 0 = true := decide_eq_true (fun c hc => absurd hc (Nat.not_lt_zero c))
      have := inner a 0 rfl (by omega)
      rw [e0] at this
      exact this
  exact loop nb 0 none none rfl (by omega)
