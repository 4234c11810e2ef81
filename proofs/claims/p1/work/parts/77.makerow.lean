/-! The reference: namings, makeRow, take. -/
set_option maxRecDepth 20000 in
set_option maxHeartbeats 1000000 in
theorem con8_namings (d nb cn : Nat) (hnb : nb ≤ 8) (r : R8) (hb : r.bl 8 = nI nb) (H o rk st : Nat → Nat) (hG : GP H nb o rk st cn) (hgc : r.gc = nI cn) (hgr : ∀ b, b < nb → r.gr (b + 1) = nI (rk b)) : Con mX8_namings (d) 0 0 (w8 r) [.ref 100] (fun w' v => ∃ r', w' = w8 r' ∧ r' = r ∧ v = some (.long (lN (nmg st cn)))) := by
  refine Con.of (ab_okc rfl (by decide)) (Nat.le_of_ble_eq_true rfl) ?_
  show G ab_x0 mX8_namings (d) 0 0 _ 0 [some (.ref 100), none, none, none, none, none] [] _
  refine G_lconst (v := 1) dX8_namings_0 rfl ?_
  refine G_lstore_n (L' := [_, _, _, _, _, _]) dX8_namings_1 (Nat.le_of_ble_eq_true rfl) rfl ?_
  refine G_iconst (v := 0) dX8_namings_2 (by decide) ?_
  refine G_istore_n (L' := [_, _, _, _, _, _]) dX8_namings_3 (Nat.le_of_ble_eq_true rfl) rfl ?_
  have hcn : cn ≤ nb := hG.2.2.2.2.2.2.2.1
  have outer : ∀ (k g : Nat) (z4 z5 : Option Value), cn - g = k → g ≤ cn → G ab_x0 mX8_namings d 0 0 (fun w' v => ∃ r', w' = w8 r' ∧ r' = r ∧ v = some (.long (lN (nmg st cn)))) 4 [some (.ref 100), some (.long (lN (nmg st g))), none, some (.int (nI g)), z4, z5] [] (w8 r) := by
    intro k
    induction k using Nat.strongRecOn with
    | ind k ih =>
      intro g z4 z5 hk hg
      refine G_iload_n dX8_namings_4 rfl ?_
      refine G_aload_n dX8_namings_5 rfl ?_
      refine G_get (f := 11) kc9 dX8_namings_6 fX8_291 (by decide) rfl rfl ?_
      refine G_icmp_geN (tgt := 84) g cn dX8_namings_9 (by decide) rfl hgc (by omega) (by omega) (fun hge => ?_) (fun hlt => ?_)
      · have e : g = cn := by omega
        subst e
        refine G_lload_n dX8_namings_84 rfl ?_
        exact G_ret (v := some (.long _)) ⟨dX8_namings_85, rfl⟩ ⟨r, rfl, rfl, rfl⟩
      have hsz := gp_size hG hlt
      refine G_iconst (v := 0) dX8_namings_12 (by decide) ?_
      refine G_istore (L' := [_, _, _, _, _, _]) dX8_namings_13 (Nat.le_of_ble_eq_true rfl) rfl ?_
      refine G_iconst (v := 1) dX8_namings_15 (by decide) ?_
      refine G_istore (L' := [_, _, _, _, _, _]) dX8_namings_16 (Nat.le_of_ble_eq_true rfl) rfl ?_
      have inner : ∀ (k2 b : Nat), nb - b = k2 → b ≤ nb → G ab_x0 mX8_namings d 0 0 (fun w' v => ∃ r', w' = w8 r' ∧ r' = r ∧ v = some (.long (lN (nmg st cn)))) 18 [some (.ref 100), some (.long (lN (nmg st g * fct (cntP (fun c => rk c = g) 0 b)))), none, some (.int (nI g)), some (.int (nI (cntP (fun c => rk c = g) 0 b))), some (.int (nI (b + 1)))] [] (w8 r) := by
        intro k2
        induction k2 using Nat.strongRecOn with
        | ind k2 ih2 =>
          intro b hk2 hbn
          have hcl := cntP_le (P := fun c => rk c = g) (a := 0) b
          refine G_iload dX8_namings_18 rfl ?_
          refine G_aload_n dX8_namings_20 rfl ?_
          refine G_get (f := 1) kc9 dX8_namings_21 fX8_145 (by decide) rfl rfl ?_
          refine G_bipush (v := 8) dX8_namings_24 (by decide) ?_
          refine G_ialdN (8) dX8_namings_26 rfl rfl (by decide) (by decide) ?_
          refine G_icmp_gtN (tgt := 78) (b + 1) nb dX8_namings_27 (by decide) rfl hb (by omega) (by omega) (fun hgt => ?_) (fun hle => ?_)
          · have e : b = nb := by omega
            subst e
            refine G_iinc (L' := [_, _, _, _, _, _]) (v := nI (g + 1)) dX8_namings_78 rfl (nI_1 _) rfl ?_
            refine G_goto (tgt := 4) dX8_namings_81 (by decide) ?_
            have := ih (cn - (g + 1)) (by omega) (g + 1) (some (.int (nI (cntP (fun c => rk c = g) 0 b)))) (some (.int (nI (b + 1)))) rfl (by omega)
            rw [show nmg st (g + 1) = nmg st g * fct (cntP (fun c => rk c = g) 0 b) by rw [nmg, show st (g + 1) - st g = cntP (fun c => rk c = g) 0 b by omega]] at this
            exact this
          have hrb := hG.2.2.2.1 b (by omega)
          refine G_iload dX8_namings_30 rfl ?_
          refine G_aload_n dX8_namings_32 rfl ?_
          refine G_get (f := 9) kc9 dX8_namings_33 fX8_161 (by decide) rfl rfl ?_
          refine G_iload dX8_namings_36 rfl ?_
          refine G_ialdN (b + 1) dX8_namings_38 rfl rfl (by omega) (by decide) ?_
          refine G_iload_n dX8_namings_39 rfl ?_
          refine G_icmp_neN (tgt := 47) (rk b) g dX8_namings_40 (by decide) (hgr b (by omega)) rfl (by omega) (by omega) (fun hne => ?_) (fun heq => ?_)
          · have e1 : cntP (fun c => rk c = g) 0 (b + 1) = cntP (fun c => rk c = g) 0 b := cntP_no (fun q => hne q.2)
            refine G_iconst (v := 0) dX8_namings_47 (by decide) ?_
            refine G_iadd dX8_namings_48 ?_
            refine G_topi (y := nI (cntP (fun c => rk c = g) 0 (b + 1))) (by rw [e1]; exact nI_add _ 0) ?_
            refine G_istore (L' := [_, _, _, _, _, _]) dX8_namings_49 (Nat.le_of_ble_eq_true rfl) rfl ?_
            refine G_aload_n dX8_namings_51 rfl ?_
            refine G_get (f := 9) kc9 dX8_namings_52 fX8_161 (by decide) rfl rfl ?_
            refine G_iload dX8_namings_55 rfl ?_
            refine G_ialdN (b + 1) dX8_namings_57 rfl rfl (by omega) (by decide) ?_
            refine G_iload_n dX8_namings_58 rfl ?_
            refine G_icmp_neN (tgt := 70) (rk b) g dX8_namings_59 (by decide) (hgr b (by omega)) rfl (by omega) (by omega) (fun _ => ?_) (fun h => absurd h hne)
            refine G_lload_n dX8_namings_70 rfl ?_
            refine G_lstore_n (L' := [_, _, _, _, _, _]) dX8_namings_71 (Nat.le_of_ble_eq_true rfl) rfl ?_
            refine G_iinc (L' := [_, _, _, _, _, _]) (v := nI (b + 1 + 1)) dX8_namings_72 rfl (nI_1 _) rfl ?_
            refine G_goto (tgt := 18) dX8_namings_75 (by decide) ?_
            have := ih2 (nb - (b + 1)) (by omega) (b + 1) rfl (by omega)
            rw [e1] at this ⊢
            exact this
          · have e1 : cntP (fun c => rk c = g) 0 (b + 1) = cntP (fun c => rk c = g) 0 b + 1 := cntP_yes ⟨by omega, heq⟩
            refine G_iconst (v := 1) dX8_namings_43 (by decide) ?_
            refine G_goto (tgt := 48) dX8_namings_44 (by decide) ?_
            refine G_iadd dX8_namings_48 ?_
            refine G_topi (y := nI (cntP (fun c => rk c = g) 0 (b + 1))) (by rw [e1]; exact nI_add _ 1) ?_
            refine G_istore (L' := [_, _, _, _, _, _]) dX8_namings_49 (Nat.le_of_ble_eq_true rfl) rfl ?_
            refine G_aload_n dX8_namings_51 rfl ?_
            refine G_get (f := 9) kc9 dX8_namings_52 fX8_161 (by decide) rfl rfl ?_
            refine G_iload dX8_namings_55 rfl ?_
            refine G_ialdN (b + 1) dX8_namings_57 rfl rfl (by omega) (by decide) ?_
            refine G_iload_n dX8_namings_58 rfl ?_
            refine G_icmp_neN (tgt := 70) (rk b) g dX8_namings_59 (by decide) (hgr b (by omega)) rfl (by omega) (by omega) (fun h => absurd heq h) (fun _ => ?_)
            refine G_lload_n dX8_namings_62 rfl ?_
            refine G_iload dX8_namings_63 rfl ?_
            refine G_i2l dX8_namings_65 ?_
            refine G_lmul dX8_namings_66 ?_
            refine G_topl (y := lN (nmg st g * fct (cntP (fun c => rk c = g) 0 (b + 1)))) ?_ ?_
            · rw [nI_l (by omega), e1, fct, ← Nat.mul_assoc]
              unfold lN
              exact (Int64.ofNat_mul _ _).symm
            refine G_goto (tgt := 71) dX8_namings_67 (by decide) ?_
            refine G_lstore_n (L' := [_, _, _, _, _, _]) dX8_namings_71 (Nat.le_of_ble_eq_true rfl) rfl ?_
            refine G_iinc (L' := [_, _, _, _, _, _]) (v := nI (b + 1 + 1)) dX8_namings_72 rfl (nI_1 _) rfl ?_
            refine G_goto (tgt := 18) dX8_namings_75 (by decide) ?_
            exact ih2 (nb - (b + 1)) (by omega) (b + 1) rfl (by omega)
      have := inner nb 0 rfl (by omega)
      rw [show cntP (fun c => rk c = g) 0 0 = 0 from rfl, show nmg st g * fct 0 = nmg st g from Nat.mul_one _] at this
      exact this
  exact outer cn 0 none none rfl (by omega)
/-- the list L stands in a row of points -/
def hL (f : Nat → Int32) (L : List Nat) : Prop := ∀ i, i < L.length → L.getD i 0 < 2 ^ 30 ∧ ∀ p, p < 3 → f (3 * i + p) = pt (L.getD i 0) p
theorem getD_ins {L : List Nat} {t X i : Nat} (ht : t ≤ L.length) : (L.take t ++ X :: L.drop t).getD i 0 = if i < t then L.getD i 0 else if i = t then X else L.getD (i - 1) 0 := by
  rw [List.getD_eq_getElem?_getD, List.getD_eq_getElem?_getD, List.getD_eq_getElem?_getD]
  by_cases h1 : i < t
  · rw [if_pos h1, List.getElem?_append_left (by rw [List.length_take]; omega), List.getElem?_take_of_lt h1]
  · rw [if_neg h1, List.getElem?_append_right (by rw [List.length_take]; omega), List.length_take, Nat.min_eq_left ht]
    by_cases h2 : i = t
    · rw [if_pos h2, h2, Nat.sub_self]; rfl
    · rw [if_neg h2]
      obtain ⟨k, hk⟩ : ∃ k, i - t = k + 1 := ⟨i - t - 1, by omega⟩
      rw [hk, List.getElem?_cons_succ, List.getElem?_drop, show t + k = i - 1 by omega]
theorem ins_len {L : List Nat} {t X : Nat} : (L.take t ++ X :: L.drop t).length = L.length + 1 := by
  rw [List.length_append, List.length_cons, List.length_take, List.length_drop]
  omega
theorem ins_sorted {L : List Nat} {t X : Nat} (hs : L.Pairwise (· ≤ ·)) (ht : t ≤ L.length) (h1 : 0 < t → L.getD (t - 1) 0 ≤ X) (h2 : ∀ i, t ≤ i → i < L.length → X ≤ L.getD i 0) : (L.take t ++ X :: L.drop t).Pairwise (· ≤ ·) := by
  have get : ∀ i j, i < j → j < L.length → L.getD i 0 ≤ L.getD j 0 := fun i j hij hj => by
    rw [List.getD_eq_getElem?_getD, List.getD_eq_getElem?_getD, List.getElem?_eq_getElem hj, List.getElem?_eq_getElem (by omega)]
    exact List.pairwise_iff_getElem.mp hs i j (by omega) hj hij
  rw [List.pairwise_append]
  refine ⟨hs.sublist (List.take_sublist _ _), ?_, fun a ha b hb => ?_⟩
  · rw [List.pairwise_cons]
    refine ⟨fun a ha => ?_, hs.sublist (List.drop_sublist _ _)⟩
    obtain ⟨i, hi, rfl⟩ := List.mem_iff_getElem.mp ha
    rw [List.length_drop] at hi
    rw [List.getElem_drop]
    have := h2 (t + i) (by omega) (by omega)
    rw [List.getD_eq_getElem?_getD, List.getElem?_eq_getElem (by omega)] at this
    exact this
  · obtain ⟨i, hi, rfl⟩ := List.mem_iff_getElem.mp ha
    rw [List.length_take] at hi
    rw [List.getElem_take]
    have e1 : L[i] = L.getD i 0 := by rw [List.getD_eq_getElem?_getD, List.getElem?_eq_getElem (by omega)]; rfl
    have hiX : L.getD i 0 ≤ X := by
      have := h1 (by omega)
      by_cases e : i = t - 1
      · rw [e]; exact this
      · exact Nat.le_trans (get i (t - 1) (by omega) (by omega)) this
    rw [e1]
    rcases List.mem_cons.mp hb with rfl | hb
    · exact hiX
    · obtain ⟨j, hj, rfl⟩ := List.mem_iff_getElem.mp hb
      rw [List.length_drop] at hj
      rw [List.getElem_drop]
      have := h2 (t + j) (by omega) (by omega)
      rw [List.getD_eq_getElem?_getD, List.getElem?_eq_getElem (by omega)] at this
      exact Nat.le_trans hiX this
theorem swap3 {f f1 f2 f3 : Nat → Int32} {t : Nat} (h1 : f1 = upd (upd f (3 * (t + 1) + 0) (f (3 * t + 0))) (3 * t + 0) (f (3 * (t + 1) + 0))) (h2 : f2 = upd (upd f1 (3 * (t + 1) + 1) (f1 (3 * t + 1))) (3 * t + 1) (f1 (3 * (t + 1) + 1))) (h3 : f3 = upd (upd f2 (3 * (t + 1) + 2) (f2 (3 * t + 2))) (3 * t + 2) (f2 (3 * (t + 1) + 2))) : (∀ p, p < 3 → f3 (3 * t + p) = f (3 * (t + 1) + p) ∧ f3 (3 * (t + 1) + p) = f (3 * t + p)) ∧ ∀ i, (i < 3 * t ∨ 3 * (t + 2) ≤ i) → f3 i = f i := by
  subst h3; subst h2; subst h1
  refine ⟨fun p hp => ?_, fun i hi => ?_⟩
  · match p, hp with
    | 0, _ => constructor <;> simp [upd] <;> repeat (first | (split <;> first | omega | skip) | rfl)
    | 1, _ => constructor <;> simp [upd] <;> repeat (first | (split <;> first | omega | skip) | rfl)
    | 2, _ => constructor <;> simp [upd] <;> repeat (first | (split <;> first | omega | skip) | rfl)
  · rw [pk_un (by omega), pk_un (by omega), pk_un (by omega), pk_un (by omega), pk_un (by omega), pk_un (by omega)]
set_option maxRecDepth 20000 in
set_option maxHeartbeats 8000000 in
theorem con8_makeRow (d nb nt : Nat) (hnt : nt ≤ 40) (r : R8) (hc : r.co 8 = nI nt) (q h : Nat → Nat) (hp0 : pts r.po 960 q nt nb) (ht : ∀ c, c < nb → r.tr (c + 1) = nI (h c) ∧ h c ≤ 8) : Con mX8_makeRow (d + 1) 0 0 (w8 r) [.ref 100] (fun w' v => ∃ r', w' = w8 r' ∧ v = none ∧ ∃ rw, r' = ((((((r.bl, r.co), (r.po, r.ha)), ((r.nw, r.gr), r.go)), (((r.tr, rw), r.nm), ((r.fm, r.oc), r.ds))), ((((r.ms, r.wd), (r.sc, r.sd)), ((r.ke, r.ro), r.hs)), (((r.gc, r.nb), r.fc), ((r.de, r.si), r.th)))) : R8) ∧ hL rw (rowL q nt h)) := by
  refine Con.of (ab_okc rfl (by decide)) (Nat.le_of_ble_eq_true rfl) ?_
  show G ab_x0 mX8_makeRow (d + 1) 0 0 _ 0 [some (.ref 100), none, none, none, none, none, none, none, none] [] _
  refine G_iconst (v := 0) dX8_makeRow_0 (by decide) ?_
  refine G_istore_n (L' := [_, _, _, _, _, _, _, _, _]) dX8_makeRow_1 (Nat.le_of_ble_eq_true rfl) rfl ?_
  have loop : ∀ (n k : Nat) (f : Nat → Int32) (L : List Nat) (z2 z3 z4 z5 z6 z7 z8 : Option Value), nt - k = n → k ≤ nt → L.length = k → L.Perm ((List.range k).map (fun i => rnK h (q i))) → L.Pairwise (· ≤ ·) → hL f L → G ab_x0 mX8_makeRow (d + 1) 0 0 (fun w' v => ∃ r', w' = w8 r' ∧ v = none ∧ ∃ rw, r' = ((((((r.bl, r.co), (r.po, r.ha)), ((r.nw, r.gr), r.go)), (((r.tr, rw), r.nm), ((r.fm, r.oc), r.ds))), ((((r.ms, r.wd), (r.sc, r.sd)), ((r.ke, r.ro), r.hs)), (((r.gc, r.nb), r.fc), ((r.de, r.si), r.th)))) : R8) ∧ hL rw (rowL q nt h)) 2 [some (.ref 100), some (.int (nI k)), z2, z3, z4, z5, z6, z7, z8] [] (w8 ((((((r.bl, r.co), (r.po, r.ha)), ((r.nw, r.gr), r.go)), (((r.tr, f), r.nm), ((r.fm, r.oc), r.ds))), ((((r.ms, r.wd), (r.sc, r.sd)), ((r.ke, r.ro), r.hs)), (((r.gc, r.nb), r.fc), ((r.de, r.si), r.th)))) : R8)) := by
    intro n
    induction n using Nat.strongRecOn with
    | ind n ih =>
      intro k f L z2 z3 z4 z5 z6 z7 z8 hn hk hLk hPm hSo hf
      refine G_iload_n dX8_makeRow_2 rfl ?_
      refine G_aload_n dX8_makeRow_3 rfl ?_
      refine G_get (f := 2) kc9 dX8_makeRow_4 fX8_149 (by decide) rfl rfl ?_
      refine G_bipush (v := 8) dX8_makeRow_7 (by decide) ?_
      refine G_ialdN (8) dX8_makeRow_9 rfl rfl (by decide) (by decide) ?_
      refine G_icmp_geN (tgt := 197) k nt dX8_makeRow_10 (by decide) rfl hc (by omega) (by omega) (fun hge => ?_) (fun hlt => ?_)
      · have e : k = nt := by omega
        subst e
        have eL : L = rowL q k h := perm_sorted_eq _ _ (hPm.trans (srtN_perm _).symm) hSo (srtN_sorted _)
        exact G_ret (v := none) ⟨dX8_makeRow_197, rfl⟩ ⟨_, rfl, rfl, f, rfl, eL ▸ hf⟩
      have hp := hp0 k hlt
      have hX30 := rnK_lt h (q k)
      refine G_bipush (v := 8) dX8_makeRow_13 (by decide) ?_
      refine G_iload_n dX8_makeRow_15 rfl ?_
      refine G_S (is := []) (fo := []) (as := [.int (nI 8), .int (nI k)]) (as' := [.int (nI 8), .int (nI k)]) (st := []) (k := 0) (n := 0) cX8_makeRow_16 (con8_at _ 8 k (by omega) (by omega)) ab_pfx rfl (by decide) rfl rfl rfl rfl (Nat.le_of_ble_eq_true rfl) dX8_makeRow_16 (fun w' v h => by rw [h.1]) (fun w2 v2 hq => ?_)
      obtain ⟨rfl, rfl⟩ := hq
      refine G_w (st' := [.int (nI (960 + 3 * k))]) (w' := w8 ((((((r.bl, r.co), (r.po, r.ha)), ((r.nw, r.gr), r.go)), (((r.tr, f), r.nm), ((r.fm, r.oc), r.ds))), ((((r.ms, r.wd), (r.sc, r.sd)), ((r.ke, r.ro), r.hs)), (((r.gc, r.nb), r.fc), ((r.de, r.si), r.th)))) : R8)) rfl rfl ?_
      refine G_istore_n (L' := [_, _, _, _, _, _, _, _, _]) dX8_makeRow_19 (Nat.le_of_ble_eq_true rfl) rfl ?_
      refine G_iload_n dX8_makeRow_20 rfl ?_
      refine G_istore_n (L' := [_, _, _, _, _, _, _, _, _]) dX8_makeRow_21 (Nat.le_of_ble_eq_true rfl) rfl ?_
      refine G_aload_n dX8_makeRow_22 rfl ?_
      refine G_aload_n dX8_makeRow_23 rfl ?_
      refine G_get (f := 3) kc9 dX8_makeRow_24 fX8_152 (by decide) rfl rfl ?_
      refine G_iload_n dX8_makeRow_27 rfl ?_
      refine G_ialdN (960 + 3 * k) dX8_makeRow_28 rfl rfl (by omega) (by decide) ?_
      refine G_topi (y := nI (kp (q k) 0) - 8) (hp.2 0 (by omega)).1 ?_
      refine G_V8 (as := [.int (nI (kp (q k) 0) - 8)]) (st := []) cX8_makeRow_29 (con8_numbered _ nb (kp (q k) 0) (kp_lt _ _) ((hp.2 0 (by omega)).2.1) ((hp.2 0 (by omega)).2.2.2) ((((((r.bl, r.co), (r.po, r.ha)), ((r.nw, r.gr), r.go)), (((r.tr, f), r.nm), ((r.fm, r.oc), r.ds))), ((((r.ms, r.wd), (r.sc, r.sd)), ((r.ke, r.ro), r.hs)), (((r.gc, r.nb), r.fc), ((r.de, r.si), r.th)))) : R8) h ht) rfl rfl rfl rfl rfl (Nat.le_of_ble_eq_true rfl) dX8_makeRow_29 (fun r2 v2 hq => ?_)
      obtain ⟨rfl, rfl⟩ := hq
      refine G_topi (y := pt (rnK h (q k)) 0) (by unfold pt; rw [kp_rnK h (q k) 0 (by omega)]) ?_
      refine G_w (st' := [.int (pt (rnK h (q k)) 0)]) (w' := w8 ((((((r.bl, r.co), (r.po, r.ha)), ((r.nw, r.gr), r.go)), (((r.tr, f), r.nm), ((r.fm, r.oc), r.ds))), ((((r.ms, r.wd), (r.sc, r.sd)), ((r.ke, r.ro), r.hs)), (((r.gc, r.nb), r.fc), ((r.de, r.si), r.th)))) : R8)) rfl rfl ?_
      refine G_istore (L' := [_, _, _, _, _, _, _, _, _]) dX8_makeRow_32 (Nat.le_of_ble_eq_true rfl) rfl ?_
      refine G_aload_n dX8_makeRow_34 rfl ?_
      refine G_aload_n dX8_makeRow_35 rfl ?_
      refine G_get (f := 3) kc9 dX8_makeRow_36 fX8_152 (by decide) rfl rfl ?_
      refine G_iload_n dX8_makeRow_39 rfl ?_
      refine G_iconst (v := 1) dX8_makeRow_40 (by decide) ?_
      refine G_iadd dX8_makeRow_41 ?_
      refine G_ialdN (960 + 3 * k + 1) dX8_makeRow_42 rfl (nI_1 _) (by omega) (by decide) ?_
      refine G_topi (y := nI (kp (q k) 1) - 8) (hp.2 1 (by omega)).1 ?_
      refine G_V8 (as := [.int (nI (kp (q k) 1) - 8)]) (st := []) cX8_makeRow_43 (con8_numbered _ nb (kp (q k) 1) (kp_lt _ _) ((hp.2 1 (by omega)).2.1) ((hp.2 1 (by omega)).2.2.2) ((((((r.bl, r.co), (r.po, r.ha)), ((r.nw, r.gr), r.go)), (((r.tr, f), r.nm), ((r.fm, r.oc), r.ds))), ((((r.ms, r.wd), (r.sc, r.sd)), ((r.ke, r.ro), r.hs)), (((r.gc, r.nb), r.fc), ((r.de, r.si), r.th)))) : R8) h ht) rfl rfl rfl rfl rfl (Nat.le_of_ble_eq_true rfl) dX8_makeRow_43 (fun r2 v2 hq => ?_)
      obtain ⟨rfl, rfl⟩ := hq
      refine G_topi (y := pt (rnK h (q k)) 1) (by unfold pt; rw [kp_rnK h (q k) 1 (by omega)]) ?_
      refine G_w (st' := [.int (pt (rnK h (q k)) 1)]) (w' := w8 ((((((r.bl, r.co), (r.po, r.ha)), ((r.nw, r.gr), r.go)), (((r.tr, f), r.nm), ((r.fm, r.oc), r.ds))), ((((r.ms, r.wd), (r.sc, r.sd)), ((r.ke, r.ro), r.hs)), (((r.gc, r.nb), r.fc), ((r.de, r.si), r.th)))) : R8)) rfl rfl ?_
      refine G_istore (L' := [_, _, _, _, _, _, _, _, _]) dX8_makeRow_46 (Nat.le_of_ble_eq_true rfl) rfl ?_
      refine G_aload_n dX8_makeRow_48 rfl ?_
      refine G_aload_n dX8_makeRow_49 rfl ?_
      refine G_get (f := 3) kc9 dX8_makeRow_50 fX8_152 (by decide) rfl rfl ?_
      refine G_iload_n dX8_makeRow_53 rfl ?_
      refine G_iconst (v := 2) dX8_makeRow_54 (by decide) ?_
      refine G_iadd dX8_makeRow_55 ?_
      refine G_ialdN (960 + 3 * k + 2) dX8_makeRow_56 rfl (nI_add _ 2) (by omega) (by decide) ?_
      refine G_topi (y := nI (kp (q k) 2) - 8) (hp.2 2 (by omega)).1 ?_
      refine G_V8 (as := [.int (nI (kp (q k) 2) - 8)]) (st := []) cX8_makeRow_57 (con8_numbered _ nb (kp (q k) 2) (kp_lt _ _) ((hp.2 2 (by omega)).2.1) ((hp.2 2 (by omega)).2.2.2) ((((((r.bl, r.co), (r.po, r.ha)), ((r.nw, r.gr), r.go)), (((r.tr, f), r.nm), ((r.fm, r.oc), r.ds))), ((((r.ms, r.wd), (r.sc, r.sd)), ((r.ke, r.ro), r.hs)), (((r.gc, r.nb), r.fc), ((r.de, r.si), r.th)))) : R8) h ht) rfl rfl rfl rfl rfl (Nat.le_of_ble_eq_true rfl) dX8_makeRow_57 (fun r2 v2 hq => ?_)
      obtain ⟨rfl, rfl⟩ := hq
      refine G_topi (y := pt (rnK h (q k)) 2) (by unfold pt; rw [kp_rnK h (q k) 2 (by omega)]) ?_
      refine G_w (st' := [.int (pt (rnK h (q k)) 2)]) (w' := w8 ((((((r.bl, r.co), (r.po, r.ha)), ((r.nw, r.gr), r.go)), (((r.tr, f), r.nm), ((r.fm, r.oc), r.ds))), ((((r.ms, r.wd), (r.sc, r.sd)), ((r.ke, r.ro), r.hs)), (((r.gc, r.nb), r.fc), ((r.de, r.si), r.th)))) : R8)) rfl rfl ?_
      refine G_istore (L' := [_, _, _, _, _, _, _, _, _]) dX8_makeRow_60 (Nat.le_of_ble_eq_true rfl) rfl ?_
      refine G_aload_n dX8_makeRow_62 rfl ?_
      refine G_get (f := 13) kc9 dX8_makeRow_63 fX8_170 (by decide) rfl rfl ?_
      refine G_iconst (v := 3) dX8_makeRow_66 (by decide) ?_
      refine G_iload_n dX8_makeRow_67 rfl ?_
      refine G_imul dX8_makeRow_68 ?_
      refine G_topi (y := nI (3 * k)) (pk_mul 3 _) ?_
      refine G_iload dX8_makeRow_69 rfl ?_
      refine G_iastN (w' := w8 ((((((r.bl, r.co), (r.po, r.ha)), ((r.nw, r.gr), r.go)), (((r.tr, upd f (3 * k) (pt (rnK h (q k)) 0)), r.nm), ((r.fm, r.oc), r.ds))), ((((r.ms, r.wd), (r.sc, r.sd)), ((r.ke, r.ro), r.hs)), (((r.gc, r.nb), r.fc), ((r.de, r.si), r.th)))) : R8)) (3 * k) dX8_makeRow_71 rfl rfl (by omega) (by decide) rfl ?_
      refine G_aload_n dX8_makeRow_72 rfl ?_
      refine G_get (f := 13) kc9 dX8_makeRow_73 fX8_170 (by decide) rfl rfl ?_
      refine G_iconst (v := 3) dX8_makeRow_76 (by decide) ?_
      refine G_iload_n dX8_makeRow_77 rfl ?_
      refine G_imul dX8_makeRow_78 ?_
      refine G_topi (y := nI (3 * k)) (pk_mul 3 _) ?_
      refine G_iconst (v := 1) dX8_makeRow_79 (by decide) ?_
      refine G_iadd dX8_makeRow_80 ?_
      refine G_iload dX8_makeRow_81 rfl ?_
      refine G_iastN (w' := w8 ((((((r.bl, r.co), (r.po, r.ha)), ((r.nw, r.gr), r.go)), (((r.tr, upd (upd f (3 * k) (pt (rnK h (q k)) 0)) (3 * k + 1) (pt (rnK h (q k)) 1)), r.nm), ((r.fm, r.oc), r.ds))), ((((r.ms, r.wd), (r.sc, r.sd)), ((r.ke, r.ro), r.hs)), (((r.gc, r.nb), r.fc), ((r.de, r.si), r.th)))) : R8)) (3 * k + 1) dX8_makeRow_83 rfl (nI_1 _) (by omega) (by decide) rfl ?_
      refine G_aload_n dX8_makeRow_84 rfl ?_
      refine G_get (f := 13) kc9 dX8_makeRow_85 fX8_170 (by decide) rfl rfl ?_
      refine G_iconst (v := 3) dX8_makeRow_88 (by decide) ?_
      refine G_iload_n dX8_makeRow_89 rfl ?_
      refine G_imul dX8_makeRow_90 ?_
      refine G_topi (y := nI (3 * k)) (pk_mul 3 _) ?_
      refine G_iconst (v := 2) dX8_makeRow_91 (by decide) ?_
      refine G_iadd dX8_makeRow_92 ?_
      refine G_iload dX8_makeRow_93 rfl ?_
      refine G_iastN (w' := w8 ((((((r.bl, r.co), (r.po, r.ha)), ((r.nw, r.gr), r.go)), (((r.tr, upd (upd (upd f (3 * k) (pt (rnK h (q k)) 0)) (3 * k + 1) (pt (rnK h (q k)) 1)) (3 * k + 2) (pt (rnK h (q k)) 2)), r.nm), ((r.fm, r.oc), r.ds))), ((((r.ms, r.wd), (r.sc, r.sd)), ((r.ke, r.ro), r.hs)), (((r.gc, r.nb), r.fc), ((r.de, r.si), r.th)))) : R8)) (3 * k + 2) dX8_makeRow_95 rfl (nI_add _ 2) (by omega) (by decide) rfl ?_
      have ins : ∀ (t : Nat) (f : Nat → Int32) (z7 z8 : Option Value), t ≤ k → hL f (L.take t ++ rnK h (q k) :: L.drop t) → (∀ i, t ≤ i → i < k → rnK h (q k) ≤ L.getD i 0) → G ab_x0 mX8_makeRow (d + 1) 0 0 (fun w' v => ∃ r', w' = w8 r' ∧ v = none ∧ ∃ rw, r' = ((((((r.bl, r.co), (r.po, r.ha)), ((r.nw, r.gr), r.go)), (((r.tr, rw), r.nm), ((r.fm, r.oc), r.ds))), ((((r.ms, r.wd), (r.sc, r.sd)), ((r.ke, r.ro), r.hs)), (((r.gc, r.nb), r.fc), ((r.de, r.si), r.th)))) : R8) ∧ hL rw (rowL q nt h)) 96 [some (.ref 100), some (.int (nI k)), some (.int (nI (960 + 3 * k))), some (.int (nI t)), some (.int (pt (rnK h (q k)) 0)), some (.int (pt (rnK h (q k)) 1)), some (.int (pt (rnK h (q k)) 2)), z7, z8] [] (w8 ((((((r.bl, r.co), (r.po, r.ha)), ((r.nw, r.gr), r.go)), (((r.tr, f), r.nm), ((r.fm, r.oc), r.ds))), ((((r.ms, r.wd), (r.sc, r.sd)), ((r.ke, r.ro), r.hs)), (((r.gc, r.nb), r.fc), ((r.de, r.si), r.th)))) : R8)) := by
        intro t
        induction t with
        | zero =>
          intro f z7 z8 _ hf0 hge0
          refine G_iload_n dX8_makeRow_96 rfl ?_
          refine G_if_le (tgt := 191) dX8_makeRow_97 (by decide) (fun _ => ?_) (fun h => absurd (by decide) h)
          refine G_iinc (L' := [_, _, _, _, _, _, _, _, _]) (v := nI (k + 1)) dX8_makeRow_191 rfl (nI_1 _) rfl ?_
          refine G_goto (tgt := 2) dX8_makeRow_194 (by decide) ?_
          refine ih (nt - (k + 1)) (by omega) (k + 1) f (L.take 0 ++ rnK h (q k) :: L.drop 0) _ _ _ _ _ _ _ rfl (by omega) (by rw [ins_len, hLk]) ?_ ?_ hf0
          · rw [List.range_succ, List.map_append]
            exact (List.perm_middle.trans (List.Perm.of_eq (by simp))).trans ((hPm.cons _).trans (List.perm_append_singleton _ _).symm)
          · exact ins_sorted hSo (by omega) (fun h => by omega) (fun i h1 h2 => hge0 i h1 (by omega))
        | succ t iht =>
          intro f z7 z8 htk hf0 hge0
          have hlen : (L.take (t + 1) ++ rnK h (q k) :: L.drop (t + 1)).length = k + 1 := by rw [ins_len, hLk]
          have gt := hf0 t (by omega)
          have gt1 := hf0 (t + 1) (by omega)
          rw [getD_ins (by omega), if_pos (by omega)] at gt
          rw [getD_ins (by omega), if_neg (by omega), if_pos rfl] at gt1
          refine G_iload_n dX8_makeRow_96 rfl ?_
          refine G_if_le (tgt := 191) dX8_makeRow_97 (by decide) (fun h => absurd h (nI_nle (by omega) (by omega))) (fun _ => ?_)
          refine G_aload_n dX8_makeRow_100 rfl ?_
          refine G_get (f := 13) kc9 dX8_makeRow_101 fX8_170 (by decide) rfl rfl ?_
          refine G_iload_n dX8_makeRow_104 rfl ?_
          refine G_aload_n dX8_makeRow_105 rfl ?_
          refine G_get (f := 13) kc9 dX8_makeRow_106 fX8_170 (by decide) rfl rfl ?_
          refine G_iload_n dX8_makeRow_109 rfl ?_
          refine G_iconst (v := 1) dX8_makeRow_110 (by decide) ?_
          refine G_isub dX8_makeRow_111 ?_
          refine G_topi (y := nI t) (nI_pred t) ?_
          refine G_S (is := [10]) (fo := []) (as := [.ref 100, .int (nI (t + 1)), .ref 100, .int (nI t)]) (as' := [.ref 110, .int (nI (t + 1)), .ref 110, .int (nI t)]) (st := []) (k := 0) (n := 0) cX8_makeRow_112 (con8_compareTriplesS d (t + 1) t (rnK h (q k)) (L.getD t 0) (by omega) (by omega) f gt1.1 gt.1 gt1.2 gt.2) ab_pfx rfl (by decide) rfl rfl rfl rfl (Nat.le_of_ble_eq_true rfl) dX8_makeRow_112 (fun w' v h => by rw [h.1]) (fun w2 v2 hq => ?_)
          obtain ⟨rfl, rfl⟩ := hq
          refine G_w (st' := [.int (cmpN (rnK h (q k)) (L.getD t 0))]) (w' := w8 ((((((r.bl, r.co), (r.po, r.ha)), ((r.nw, r.gr), r.go)), (((r.tr, f), r.nm), ((r.fm, r.oc), r.ds))), ((((r.ms, r.wd), (r.sc, r.sd)), ((r.ke, r.ro), r.hs)), (((r.gc, r.nb), r.fc), ((r.de, r.si), r.th)))) : R8)) rfl rfl ?_
          refine G_if_ge (tgt := 191) dX8_makeRow_115 (by decide) (fun hc0 => ?_) (fun hc0 => ?_)
          · have hle : L.getD t 0 ≤ rnK h (q k) := by
              rcases Nat.lt_or_ge (rnK h (q k)) (L.getD t 0) with z | z
              · unfold cmpN at hc0; rw [if_pos z] at hc0; exact absurd hc0 (by decide)
              · exact z
            refine G_iinc (L' := [_, _, _, _, _, _, _, _, _]) (v := nI (k + 1)) dX8_makeRow_191 rfl (nI_1 _) rfl ?_
            refine G_goto (tgt := 2) dX8_makeRow_194 (by decide) ?_
            refine ih (nt - (k + 1)) (by omega) (k + 1) f (L.take (t + 1) ++ rnK h (q k) :: L.drop (t + 1)) _ _ _ _ _ _ _ rfl (by omega) hlen ?_ ?_ hf0
            · rw [List.range_succ, List.map_append]
              refine (List.perm_middle.trans (List.Perm.of_eq ?_)).trans ((hPm.cons _).trans (List.perm_append_singleton _ _).symm)
              rw [List.take_append_drop]
            · exact ins_sorted hSo (by omega) (fun _ => hle) (fun i h1 h2 => hge0 i h1 (by omega))
          have hlt2 : rnK h (q k) < L.getD t 0 := by
            rcases Nat.lt_or_ge (rnK h (q k)) (L.getD t 0) with z | z
            · exact z
            · exfalso
              apply hc0
              unfold cmpN
              rw [if_neg (by omega)]
              split <;> decide
          refine G_iconst (v := 0) dX8_makeRow_118 (by decide) ?_
          refine G_istore (L' := [_, _, _, _, _, _, _, _, _]) dX8_makeRow_119 (Nat.le_of_ble_eq_true rfl) rfl ?_
          refine G_iload dX8_makeRow_121 rfl ?_
          refine G_iconst (v := 3) dX8_makeRow_123 (by decide) ?_
          refine G_icmp_geN (tgt := 185) 0 3 dX8_makeRow_124 (by decide) rfl rfl (by omega) (by omega) (fun h => by omega) (fun _ => ?_)
          refine G_aload_n dX8_makeRow_127 rfl ?_
          refine G_get (f := 13) kc9 dX8_makeRow_128 fX8_170 (by decide) rfl rfl ?_
          refine G_iconst (v := 3) dX8_makeRow_131 (by decide) ?_
          refine G_iload_n dX8_makeRow_132 rfl ?_
          refine G_imul dX8_makeRow_133 ?_
          refine G_topi (y := nI (3 * (t + 1))) (pk_mul 3 _) ?_
          refine G_iload dX8_makeRow_134 rfl ?_
          refine G_iadd dX8_makeRow_136 ?_
          refine G_ialdN (3 * (t + 1) + 0) dX8_makeRow_137 rfl (nI_add _ 0) (by omega) (by decide) ?_
          refine G_istore (L' := [_, _, _, _, _, _, _, _, _]) dX8_makeRow_138 (Nat.le_of_ble_eq_true rfl) rfl ?_
          refine G_aload_n dX8_makeRow_140 rfl ?_
          refine G_get (f := 13) kc9 dX8_makeRow_141 fX8_170 (by decide) rfl rfl ?_
          refine G_iconst (v := 3) dX8_makeRow_144 (by decide) ?_
          refine G_iload_n dX8_makeRow_145 rfl ?_
          refine G_imul dX8_makeRow_146 ?_
          refine G_topi (y := nI (3 * (t + 1))) (pk_mul 3 _) ?_
          refine G_iload dX8_makeRow_147 rfl ?_
          refine G_iadd dX8_makeRow_149 ?_
          refine G_topi (y := nI (3 * (t + 1) + 0)) (nI_add _ 0) ?_
          refine G_aload_n dX8_makeRow_150 rfl ?_
          refine G_get (f := 13) kc9 dX8_makeRow_151 fX8_170 (by decide) rfl rfl ?_
          refine G_iconst (v := 3) dX8_makeRow_154 (by decide) ?_
          refine G_iload_n dX8_makeRow_155 rfl ?_
          refine G_imul dX8_makeRow_156 ?_
          refine G_topi (y := nI (3 * (t + 1))) (pk_mul 3 _) ?_
          refine G_iconst (v := 3) dX8_makeRow_157 (by decide) ?_
          refine G_isub dX8_makeRow_158 ?_
          refine G_topi (y := nI (3 * t)) ((pk_sub (a := 3 * (t + 1)) (b := 3) (by omega)).trans (congrArg nI (by omega))) ?_
          refine G_iload dX8_makeRow_159 rfl ?_
          refine G_iadd dX8_makeRow_161 ?_
          refine G_ialdN (3 * t + 0) dX8_makeRow_162 rfl (nI_add _ 0) (by omega) (by decide) ?_
          refine G_iastN (w' := w8 ((((((r.bl, r.co), (r.po, r.ha)), ((r.nw, r.gr), r.go)), (((r.tr, (upd f (3 * (t + 1) + 0) (f (3 * t + 0)))), r.nm), ((r.fm, r.oc), r.ds))), ((((r.ms, r.wd), (r.sc, r.sd)), ((r.ke, r.ro), r.hs)), (((r.gc, r.nb), r.fc), ((r.de, r.si), r.th)))) : R8)) (3 * (t + 1) + 0) dX8_makeRow_163 rfl rfl (by omega) (by decide) rfl ?_
          refine G_aload_n dX8_makeRow_164 rfl ?_
          refine G_get (f := 13) kc9 dX8_makeRow_165 fX8_170 (by decide) rfl rfl ?_
          refine G_iconst (v := 3) dX8_makeRow_168 (by decide) ?_
          refine G_iload_n dX8_makeRow_169 rfl ?_
          refine G_imul dX8_makeRow_170 ?_
          refine G_topi (y := nI (3 * (t + 1))) (pk_mul 3 _) ?_
          refine G_iconst (v := 3) dX8_makeRow_171 (by decide) ?_
          refine G_isub dX8_makeRow_172 ?_
          refine G_topi (y := nI (3 * t)) ((pk_sub (a := 3 * (t + 1)) (b := 3) (by omega)).trans (congrArg nI (by omega))) ?_
          refine G_iload dX8_makeRow_173 rfl ?_
          refine G_iadd dX8_makeRow_175 ?_
          refine G_topi (y := nI (3 * t + 0)) (nI_add _ 0) ?_
          refine G_iload dX8_makeRow_176 rfl ?_
          refine G_iastN (w' := w8 ((((((r.bl, r.co), (r.po, r.ha)), ((r.nw, r.gr), r.go)), (((r.tr, (upd (upd f (3 * (t + 1) + 0) (f (3 * t + 0))) (3 * t + 0) (f (3 * (t + 1) + 0)))), r.nm), ((r.fm, r.oc), r.ds))), ((((r.ms, r.wd), (r.sc, r.sd)), ((r.ke, r.ro), r.hs)), (((r.gc, r.nb), r.fc), ((r.de, r.si), r.th)))) : R8)) (3 * t + 0) dX8_makeRow_178 rfl rfl (by omega) (by decide) rfl ?_
          obtain ⟨f1, hf1⟩ : ∃ z, z = (upd (upd f (3 * (t + 1) + 0) (f (3 * t + 0))) (3 * t + 0) (f (3 * (t + 1) + 0))) := ⟨_, rfl⟩
          refine G_w (st' := []) (w' := w8 ((((((r.bl, r.co), (r.po, r.ha)), ((r.nw, r.gr), r.go)), (((r.tr, f1), r.nm), ((r.fm, r.oc), r.ds))), ((((r.ms, r.wd), (r.sc, r.sd)), ((r.ke, r.ro), r.hs)), (((r.gc, r.nb), r.fc), ((r.de, r.si), r.th)))) : R8)) rfl (by rw [hf1]) ?_
          refine G_iinc (L' := [_, _, _, _, _, _, _, _, _]) (v := nI 1) dX8_makeRow_179 rfl rfl rfl ?_
          refine G_goto (tgt := 121) dX8_makeRow_182 (by decide) ?_
          refine G_iload dX8_makeRow_121 rfl ?_
          refine G_iconst (v := 3) dX8_makeRow_123 (by decide) ?_
          refine G_icmp_geN (tgt := 185) 1 3 dX8_makeRow_124 (by decide) rfl rfl (by omega) (by omega) (fun h => by omega) (fun _ => ?_)
          refine G_aload_n dX8_makeRow_127 rfl ?_
          refine G_get (f := 13) kc9 dX8_makeRow_128 fX8_170 (by decide) rfl rfl ?_
          refine G_iconst (v := 3) dX8_makeRow_131 (by decide) ?_
          refine G_iload_n dX8_makeRow_132 rfl ?_
          refine G_imul dX8_makeRow_133 ?_
          refine G_topi (y := nI (3 * (t + 1))) (pk_mul 3 _) ?_
          refine G_iload dX8_makeRow_134 rfl ?_
          refine G_iadd dX8_makeRow_136 ?_
          refine G_ialdN (3 * (t + 1) + 1) dX8_makeRow_137 rfl (nI_add _ 1) (by omega) (by decide) ?_
          refine G_istore (L' := [_, _, _, _, _, _, _, _, _]) dX8_makeRow_138 (Nat.le_of_ble_eq_true rfl) rfl ?_
          refine G_aload_n dX8_makeRow_140 rfl ?_
          refine G_get (f := 13) kc9 dX8_makeRow_141 fX8_170 (by decide) rfl rfl ?_
          refine G_iconst (v := 3) dX8_makeRow_144 (by decide) ?_
          refine G_iload_n dX8_makeRow_145 rfl ?_
          refine G_imul dX8_makeRow_146 ?_
          refine G_topi (y := nI (3 * (t + 1))) (pk_mul 3 _) ?_
          refine G_iload dX8_makeRow_147 rfl ?_
          refine G_iadd dX8_makeRow_149 ?_
          refine G_topi (y := nI (3 * (t + 1) + 1)) (nI_add _ 1) ?_
          refine G_aload_n dX8_makeRow_150 rfl ?_
          refine G_get (f := 13) kc9 dX8_makeRow_151 fX8_170 (by decide) rfl rfl ?_
          refine G_iconst (v := 3) dX8_makeRow_154 (by decide) ?_
          refine G_iload_n dX8_makeRow_155 rfl ?_
          refine G_imul dX8_makeRow_156 ?_
          refine G_topi (y := nI (3 * (t + 1))) (pk_mul 3 _) ?_
          refine G_iconst (v := 3) dX8_makeRow_157 (by decide) ?_
          refine G_isub dX8_makeRow_158 ?_
          refine G_topi (y := nI (3 * t)) ((pk_sub (a := 3 * (t + 1)) (b := 3) (by omega)).trans (congrArg nI (by omega))) ?_
          refine G_iload dX8_makeRow_159 rfl ?_
          refine G_iadd dX8_makeRow_161 ?_
          refine G_ialdN (3 * t + 1) dX8_makeRow_162 rfl (nI_add _ 1) (by omega) (by decide) ?_
          refine G_iastN (w' := w8 ((((((r.bl, r.co), (r.po, r.ha)), ((r.nw, r.gr), r.go)), (((r.tr, (upd f1 (3 * (t + 1) + 1) (f1 (3 * t + 1)))), r.nm), ((r.fm, r.oc), r.ds))), ((((r.ms, r.wd), (r.sc, r.sd)), ((r.ke, r.ro), r.hs)), (((r.gc, r.nb), r.fc), ((r.de, r.si), r.th)))) : R8)) (3 * (t + 1) + 1) dX8_makeRow_163 rfl rfl (by omega) (by decide) rfl ?_
          refine G_aload_n dX8_makeRow_164 rfl ?_
          refine G_get (f := 13) kc9 dX8_makeRow_165 fX8_170 (by decide) rfl rfl ?_
          refine G_iconst (v := 3) dX8_makeRow_168 (by decide) ?_
          refine G_iload_n dX8_makeRow_169 rfl ?_
          refine G_imul dX8_makeRow_170 ?_
          refine G_topi (y := nI (3 * (t + 1))) (pk_mul 3 _) ?_
          refine G_iconst (v := 3) dX8_makeRow_171 (by decide) ?_
          refine G_isub dX8_makeRow_172 ?_
          refine G_topi (y := nI (3 * t)) ((pk_sub (a := 3 * (t + 1)) (b := 3) (by omega)).trans (congrArg nI (by omega))) ?_
          refine G_iload dX8_makeRow_173 rfl ?_
          refine G_iadd dX8_makeRow_175 ?_
          refine G_topi (y := nI (3 * t + 1)) (nI_add _ 1) ?_
          refine G_iload dX8_makeRow_176 rfl ?_
          refine G_iastN (w' := w8 ((((((r.bl, r.co), (r.po, r.ha)), ((r.nw, r.gr), r.go)), (((r.tr, (upd (upd f1 (3 * (t + 1) + 1) (f1 (3 * t + 1))) (3 * t + 1) (f1 (3 * (t + 1) + 1)))), r.nm), ((r.fm, r.oc), r.ds))), ((((r.ms, r.wd), (r.sc, r.sd)), ((r.ke, r.ro), r.hs)), (((r.gc, r.nb), r.fc), ((r.de, r.si), r.th)))) : R8)) (3 * t + 1) dX8_makeRow_178 rfl rfl (by omega) (by decide) rfl ?_
          obtain ⟨f2, hf2⟩ : ∃ z, z = (upd (upd f1 (3 * (t + 1) + 1) (f1 (3 * t + 1))) (3 * t + 1) (f1 (3 * (t + 1) + 1))) := ⟨_, rfl⟩
          refine G_w (st' := []) (w' := w8 ((((((r.bl, r.co), (r.po, r.ha)), ((r.nw, r.gr), r.go)), (((r.tr, f2), r.nm), ((r.fm, r.oc), r.ds))), ((((r.ms, r.wd), (r.sc, r.sd)), ((r.ke, r.ro), r.hs)), (((r.gc, r.nb), r.fc), ((r.de, r.si), r.th)))) : R8)) rfl (by rw [hf2]) ?_
          refine G_iinc (L' := [_, _, _, _, _, _, _, _, _]) (v := nI 2) dX8_makeRow_179 rfl rfl rfl ?_
          refine G_goto (tgt := 121) dX8_makeRow_182 (by decide) ?_
          refine G_iload dX8_makeRow_121 rfl ?_
          refine G_iconst (v := 3) dX8_makeRow_123 (by decide) ?_
          refine G_icmp_geN (tgt := 185) 2 3 dX8_makeRow_124 (by decide) rfl rfl (by omega) (by omega) (fun h => by omega) (fun _ => ?_)
          refine G_aload_n dX8_makeRow_127 rfl ?_
          refine G_get (f := 13) kc9 dX8_makeRow_128 fX8_170 (by decide) rfl rfl ?_
          refine G_iconst (v := 3) dX8_makeRow_131 (by decide) ?_
          refine G_iload_n dX8_makeRow_132 rfl ?_
          refine G_imul dX8_makeRow_133 ?_
          refine G_topi (y := nI (3 * (t + 1))) (pk_mul 3 _) ?_
          refine G_iload dX8_makeRow_134 rfl ?_
          refine G_iadd dX8_makeRow_136 ?_
          refine G_ialdN (3 * (t + 1) + 2) dX8_makeRow_137 rfl (nI_add _ 2) (by omega) (by decide) ?_
          refine G_istore (L' := [_, _, _, _, _, _, _, _, _]) dX8_makeRow_138 (Nat.le_of_ble_eq_true rfl) rfl ?_
          refine G_aload_n dX8_makeRow_140 rfl ?_
          refine G_get (f := 13) kc9 dX8_makeRow_141 fX8_170 (by decide) rfl rfl ?_
          refine G_iconst (v := 3) dX8_makeRow_144 (by decide) ?_
          refine G_iload_n dX8_makeRow_145 rfl ?_
          refine G_imul dX8_makeRow_146 ?_
          refine G_topi (y := nI (3 * (t + 1))) (pk_mul 3 _) ?_
          refine G_iload dX8_makeRow_147 rfl ?_
          refine G_iadd dX8_makeRow_149 ?_
          refine G_topi (y := nI (3 * (t + 1) + 2)) (nI_add _ 2) ?_
          refine G_aload_n dX8_makeRow_150 rfl ?_
          refine G_get (f := 13) kc9 dX8_makeRow_151 fX8_170 (by decide) rfl rfl ?_
          refine G_iconst (v := 3) dX8_makeRow_154 (by decide) ?_
          refine G_iload_n dX8_makeRow_155 rfl ?_
          refine G_imul dX8_makeRow_156 ?_
          refine G_topi (y := nI (3 * (t + 1))) (pk_mul 3 _) ?_
          refine G_iconst (v := 3) dX8_makeRow_157 (by decide) ?_
          refine G_isub dX8_makeRow_158 ?_
          refine G_topi (y := nI (3 * t)) ((pk_sub (a := 3 * (t + 1)) (b := 3) (by omega)).trans (congrArg nI (by omega))) ?_
          refine G_iload dX8_makeRow_159 rfl ?_
          refine G_iadd dX8_makeRow_161 ?_
          refine G_ialdN (3 * t + 2) dX8_makeRow_162 rfl (nI_add _ 2) (by omega) (by decide) ?_
          refine G_iastN (w' := w8 ((((((r.bl, r.co), (r.po, r.ha)), ((r.nw, r.gr), r.go)), (((r.tr, (upd f2 (3 * (t + 1) + 2) (f2 (3 * t + 2)))), r.nm), ((r.fm, r.oc), r.ds))), ((((r.ms, r.wd), (r.sc, r.sd)), ((r.ke, r.ro), r.hs)), (((r.gc, r.nb), r.fc), ((r.de, r.si), r.th)))) : R8)) (3 * (t + 1) + 2) dX8_makeRow_163 rfl rfl (by omega) (by decide) rfl ?_
          refine G_aload_n dX8_makeRow_164 rfl ?_
          refine G_get (f := 13) kc9 dX8_makeRow_165 fX8_170 (by decide) rfl rfl ?_
          refine G_iconst (v := 3) dX8_makeRow_168 (by decide) ?_
          refine G_iload_n dX8_makeRow_169 rfl ?_
          refine G_imul dX8_makeRow_170 ?_
          refine G_topi (y := nI (3 * (t + 1))) (pk_mul 3 _) ?_
          refine G_iconst (v := 3) dX8_makeRow_171 (by decide) ?_
          refine G_isub dX8_makeRow_172 ?_
          refine G_topi (y := nI (3 * t)) ((pk_sub (a := 3 * (t + 1)) (b := 3) (by omega)).trans (congrArg nI (by omega))) ?_
          refine G_iload dX8_makeRow_173 rfl ?_
          refine G_iadd dX8_makeRow_175 ?_
          refine G_topi (y := nI (3 * t + 2)) (nI_add _ 2) ?_
          refine G_iload dX8_makeRow_176 rfl ?_
          refine G_iastN (w' := w8 ((((((r.bl, r.co), (r.po, r.ha)), ((r.nw, r.gr), r.go)), (((r.tr, (upd (upd f2 (3 * (t + 1) + 2) (f2 (3 * t + 2))) (3 * t + 2) (f2 (3 * (t + 1) + 2)))), r.nm), ((r.fm, r.oc), r.ds))), ((((r.ms, r.wd), (r.sc, r.sd)), ((r.ke, r.ro), r.hs)), (((r.gc, r.nb), r.fc), ((r.de, r.si), r.th)))) : R8)) (3 * t + 2) dX8_makeRow_178 rfl rfl (by omega) (by decide) rfl ?_
          obtain ⟨f3, hf3⟩ : ∃ z, z = (upd (upd f2 (3 * (t + 1) + 2) (f2 (3 * t + 2))) (3 * t + 2) (f2 (3 * (t + 1) + 2))) := ⟨_, rfl⟩
          refine G_w (st' := []) (w' := w8 ((((((r.bl, r.co), (r.po, r.ha)), ((r.nw, r.gr), r.go)), (((r.tr, f3), r.nm), ((r.fm, r.oc), r.ds))), ((((r.ms, r.wd), (r.sc, r.sd)), ((r.ke, r.ro), r.hs)), (((r.gc, r.nb), r.fc), ((r.de, r.si), r.th)))) : R8)) rfl (by rw [hf3]) ?_
          refine G_iinc (L' := [_, _, _, _, _, _, _, _, _]) (v := nI 3) dX8_makeRow_179 rfl rfl rfl ?_
          refine G_goto (tgt := 121) dX8_makeRow_182 (by decide) ?_
          refine G_iload dX8_makeRow_121 rfl ?_
          refine G_iconst (v := 3) dX8_makeRow_123 (by decide) ?_
          refine G_icmp_geN (tgt := 185) 3 3 dX8_makeRow_124 (by decide) rfl rfl (by omega) (by omega) (fun _ => ?_) (fun h => by omega)
          obtain ⟨sw1, sw2⟩ := swap3 hf1 hf2 hf3
          refine G_iinc (L' := [_, _, _, _, _, _, _, _, _]) (v := nI t) dX8_makeRow_185 rfl (pk_m1 t) rfl ?_
          refine G_goto (tgt := 96) dX8_makeRow_188 (by decide) ?_
          refine iht f3 _ _ (by omega) (fun i hi => ?_) (fun i h1 h2 => ?_)
          · rw [ins_len, hLk] at hi
            rw [getD_ins (by omega)]
            by_cases e1 : i = t
            · rw [if_neg (by omega), if_pos e1, e1]
              exact ⟨hX30, fun p hp3 => by rw [(sw1 p hp3).1]; exact gt1.2 p hp3⟩
            · by_cases e2 : i = t + 1
              · rw [if_neg (by omega), if_neg e1, e2]
                exact ⟨gt.1, fun p hp3 => by rw [(sw1 p hp3).2]; exact gt.2 p hp3⟩
              · have h0 := hf0 i (by omega)
                rw [getD_ins (by omega)] at h0
                have ee : (if i < t then L.getD i 0 else if i = t then rnK h (q k) else L.getD (i - 1) 0) = if i < t + 1 then L.getD i 0 else if i = t + 1 then rnK h (q k) else L.getD (i - 1) 0 := by
                  by_cases e3 : i < t
                  · rw [if_pos e3, if_pos (by omega)]
                  · rw [if_neg e3, if_neg e1, if_neg (by omega), if_neg e2]
                rw [ee]
                exact ⟨h0.1, fun p hp3 => by rw [sw2 _ (by omega)]; exact h0.2 p hp3⟩
          · by_cases e : i = t
            · rw [e]; omega
            · exact hge0 i (by omega) h2
      refine ins k _ _ _ (Nat.le_refl _) (fun i hi => ?_) (fun i h1 h2 => by omega)
      rw [ins_len, hLk] at hi
      rw [getD_ins (by omega)]
      by_cases e : i = k
      · rw [if_neg (by omega), if_pos e, e]
        refine ⟨hX30, fun p hp3 => ?_⟩
        match p, hp3 with
        | 0, _ => rw [pk_un (by omega), pk_un (by omega)]; exact pk_us
        | 1, _ => rw [pk_un (by omega)]; exact pk_us
        | 2, _ => exact pk_us
      · rw [if_pos (by omega)]
        have h0 := hf i (by omega)
        exact ⟨h0.1, fun p hp3 => by rw [pk_un (by omega), pk_un (by omega), pk_un (by omega)]; exact h0.2 p hp3⟩
  exact loop nt 0 r.rw [] none none none none none none none rfl (by omega) rfl (List.Perm.refl _) List.Pairwise.nil (fun i hi => by simp at hi)
