/-! The reference: makeGroups. -/
theorem cntP_up {P : Nat → Prop} {a m : Nat} : ∀ {n : Nat}, m ≤ n → cntP P a m ≤ cntP P a n
  | 0, h => by rw [show m = 0 by omega]; exact Nat.le_refl _
  | n + 1, h => by
    by_cases e : m = n + 1
    · rw [e]; exact Nat.le_refl _
    · have ih := cntP_up (P := P) (a := a) (m := m) (n := n) (by omega)
      by_cases q : a ≤ n ∧ P n
      · rw [cntP_yes q]; omega
      · rw [cntP_no q]; exact ih
set_option maxRecDepth 20000 in
set_option maxHeartbeats 4000000 in
theorem con8_makeGroups (d n cn : Nat) (hn : n ≤ 8) (r : R8) (F : Nat → Int32) (hF : hOk r.ha F n) (o rk st : Nat → Nat) (hG : GP (hv F) n o rk st cn) : Con mX8_makeGroups (d + 1) 0 0 (w8 r) [.ref 100, .int (nI n)] (fun w' v => ∃ r', w' = w8 r' ∧ v = none ∧ ∃ gr go, r' = ((((((r.bl, r.co), (r.po, r.ha)), ((r.nw, gr), go)), (((r.tr, r.rw), r.nm), ((r.fm, r.oc), r.ds))), ((((r.ms, r.wd), (r.sc, r.sd)), ((r.ke, r.ro), r.hs)), (((nI cn, r.nb), r.fc), ((r.de, r.si), r.th)))) : R8) ∧ (∀ b, b < n → gr (b + 1) = nI (rk b)) ∧ ∀ j, j < n → go (j + 1) = nI (rk (o j))) := by
  refine Con.of (ab_okc rfl (by decide)) (Nat.le_of_ble_eq_true rfl) ?_
  show G ab_x0 mX8_makeGroups (d + 1) 0 0 _ 0 [some (.ref 100), some (.int (nI n)), none, none, none, none] [] _
  have hcn : cn ≤ n := hG.2.2.2.2.2.2.2.1
  have outer : ∀ (m g : Nat) (gr go : Nat → Int32) (z4 z5 : Option Value), cn - g = m → g ≤ cn → (∀ b, b < n → gr (b + 1) = if rk b < g then nI (rk b) else -1) → (∀ j, j < st g → go (j + 1) = nI (rk (o j))) → G ab_x0 mX8_makeGroups (d + 1) 0 0 (fun w' v => ∃ r', w' = w8 r' ∧ v = none ∧ ∃ gr go, r' = ((((((r.bl, r.co), (r.po, r.ha)), ((r.nw, gr), go)), (((r.tr, r.rw), r.nm), ((r.fm, r.oc), r.ds))), ((((r.ms, r.wd), (r.sc, r.sd)), ((r.ke, r.ro), r.hs)), (((nI cn, r.nb), r.fc), ((r.de, r.si), r.th)))) : R8) ∧ (∀ b, b < n → gr (b + 1) = nI (rk b)) ∧ ∀ j, j < n → go (j + 1) = nI (rk (o j))) 29 [some (.ref 100), some (.int (nI n)), some (.int (nI (st g + 1))), some (.int (nI (st g))), z4, z5] [] (w8 ((((((r.bl, r.co), (r.po, r.ha)), ((r.nw, gr), go)), (((r.tr, r.rw), r.nm), ((r.fm, r.oc), r.ds))), ((((r.ms, r.wd), (r.sc, r.sd)), ((r.ke, r.ro), r.hs)), ((((nI g), r.nb), r.fc), ((r.de, r.si), r.th)))) : R8)) := by
    intro m
    induction m using Nat.strongRecOn with
    | ind m ih =>
      intro g gr go z4 z5 hm hg hgr hgo
      have hsg := gp_le hG hg
      refine G_iload_n dX8_makeGroups_29 rfl ?_
      refine G_iload_n dX8_makeGroups_30 rfl ?_
      refine G_icmp_geN (tgt := 167) (st g) n dX8_makeGroups_31 (by decide) rfl rfl (by omega) (by omega) (fun hge => ?_) (fun hlt => ?_)
      · have eg : g = cn := by
          rcases Nat.lt_or_ge g cn with q | q
          · have := gp_stlt hG q; omega
          · omega
        subst eg
        refine G_ret (v := none) ⟨dX8_makeGroups_167, rfl⟩ ⟨_, rfl, rfl, gr, go, rfl, fun b hb => ?_, fun j hj => hgo j (by omega)⟩
        rw [hgr b hb, if_pos (hG.2.2.2.1 b hb)]
      have hgc : g < cn := by
        rcases Nat.lt_or_ge g cn with q | q
        · exact q
        · have h7 := hG.2.2.2.2.2.2.1; rw [show g = cn by omega] at hlt; omega
      have hsz := gp_size hG hgc
      have hst1 := gp_le hG (g := g + 1) (by omega)
      have h6 := (hG.2.2.2.2.2.1 g hgc).2
      have ho6 := hG.1 _ hlt
      have neg : ∀ e, e < n → (0 ≤ gr (e + 1) ↔ rk e < g) := fun e he => by
        rw [hgr e he]
        by_cases q : rk e < g
        · rw [if_pos q]; exact ⟨fun _ => q, fun _ => nI_pos' (by omega)⟩
        · rw [if_neg q]; exact ⟨fun h => absurd h (by decide), fun h => absurd h q⟩
      refine G_iconst (v := 0) dX8_makeGroups_34 (by decide) ?_
      refine G_istore (L' := [_, _, _, _, _, _]) dX8_makeGroups_35 (Nat.le_of_ble_eq_true rfl) rfl ?_
      refine G_iconst (v := 1) dX8_makeGroups_37 (by decide) ?_
      refine G_istore (L' := [_, _, _, _, _, _]) dX8_makeGroups_38 (Nat.le_of_ble_eq_true rfl) rfl ?_
      have second : ∀ (m2 e c : Nat) (gr go : Nat → Int32), n - e = m2 → e ≤ n → c < n → rk c = g → (∀ b, b < n → gr (b + 1) = if rk b < g ∨ (rk b = g ∧ b < e) then nI (rk b) else -1) → (∀ j, j < st g + cntP (fun c => rk c = g) 0 e → go (j + 1) = nI (rk (o j))) → G ab_x0 mX8_makeGroups (d + 1) 0 0 (fun w' v => ∃ r', w' = w8 r' ∧ v = none ∧ ∃ gr go, r' = ((((((r.bl, r.co), (r.po, r.ha)), ((r.nw, gr), go)), (((r.tr, r.rw), r.nm), ((r.fm, r.oc), r.ds))), ((((r.ms, r.wd), (r.sc, r.sd)), ((r.ke, r.ro), r.hs)), (((nI cn, r.nb), r.fc), ((r.de, r.si), r.th)))) : R8) ∧ (∀ b, b < n → gr (b + 1) = nI (rk b)) ∧ ∀ j, j < n → go (j + 1) = nI (rk (o j))) 88 [some (.ref 100), some (.int (nI n)), some (.int (nI (st g + cntP (fun c => rk c = g) 0 e + 1))), some (.int (nI (st g + cntP (fun c => rk c = g) 0 e))), some (.int (nI (c + 1))), some (.int (nI (e + 1)))] [] (w8 ((((((r.bl, r.co), (r.po, r.ha)), ((r.nw, gr), go)), (((r.tr, r.rw), r.nm), ((r.fm, r.oc), r.ds))), ((((r.ms, r.wd), (r.sc, r.sd)), ((r.ke, r.ro), r.hs)), ((((nI g), r.nb), r.fc), ((r.de, r.si), r.th)))) : R8)) := by
        intro m2
        induction m2 using Nat.strongRecOn with
        | ind m2 ih2 =>
          intro e c gr go hm2 he hc hrc hgr hgo
          have hup := cntP_up (P := fun c => rk c = g) (a := 0) he
          refine G_iload dX8_makeGroups_88 rfl ?_
          refine G_iload_n dX8_makeGroups_90 rfl ?_
          refine G_icmp_gtN (tgt := 154) (e + 1) n dX8_makeGroups_91 (by decide) rfl rfl (by omega) (by omega) (fun hgt => ?_) (fun hle => ?_)
          · have ee : e = n := by omega
            subst ee
            refine G_aload_n dX8_makeGroups_154 rfl ?_
            refine G_dup dX8_makeGroups_155 rfl ?_
            refine G_get (f := 11) kc9 dX8_makeGroups_156 fX8_291 (by decide) rfl rfl ?_
            refine G_iconst (v := 1) dX8_makeGroups_159 (by decide) ?_
            refine G_iadd dX8_makeGroups_160 ?_
            refine G_topi (y := nI (g + 1)) (nI_1 g) ?_
            refine G_put (w' := w8 ((((((r.bl, r.co), (r.po, r.ha)), ((r.nw, gr), go)), (((r.tr, r.rw), r.nm), ((r.fm, r.oc), r.ds))), ((((r.ms, r.wd), (r.sc, r.sd)), ((r.ke, r.ro), r.hs)), ((((nI (g + 1)), r.nb), r.fc), ((r.de, r.si), r.th)))) : R8)) (f := 11) kc9 dX8_makeGroups_161 fX8_291 (by decide) rfl rfl rfl rfl (Nat.le_of_ble_eq_true rfl) rfl ?_
            refine G_goto (tgt := 29) dX8_makeGroups_164 (by decide) ?_
            rw [hsz] at hgo ⊢
            refine ih (cn - (g + 1)) (by omega) (g + 1) gr go _ _ rfl (by omega) (fun b hb => ?_) hgo
            rw [hgr b hb]
            by_cases q : rk b < g + 1
            · rw [if_pos q, if_pos (by omega)]
            · rw [if_neg q, if_neg (by omega)]
          have skip : ¬ rk e = g → G ab_x0 mX8_makeGroups (d + 1) 0 0 (fun w' v => ∃ r', w' = w8 r' ∧ v = none ∧ ∃ gr go, r' = ((((((r.bl, r.co), (r.po, r.ha)), ((r.nw, gr), go)), (((r.tr, r.rw), r.nm), ((r.fm, r.oc), r.ds))), ((((r.ms, r.wd), (r.sc, r.sd)), ((r.ke, r.ro), r.hs)), (((nI cn, r.nb), r.fc), ((r.de, r.si), r.th)))) : R8) ∧ (∀ b, b < n → gr (b + 1) = nI (rk b)) ∧ ∀ j, j < n → go (j + 1) = nI (rk (o j))) 148 [some (.ref 100), some (.int (nI n)), some (.int (nI (st g + cntP (fun c => rk c = g) 0 e + 1))), some (.int (nI (st g + cntP (fun c => rk c = g) 0 e))), some (.int (nI (c + 1))), some (.int (nI (e + 1)))] [] (w8 ((((((r.bl, r.co), (r.po, r.ha)), ((r.nw, gr), go)), (((r.tr, r.rw), r.nm), ((r.fm, r.oc), r.ds))), ((((r.ms, r.wd), (r.sc, r.sd)), ((r.ke, r.ro), r.hs)), ((((nI g), r.nb), r.fc), ((r.de, r.si), r.th)))) : R8)) := by
            intro hne
            have e0 : cntP (fun c => rk c = g) 0 (e + 1) = cntP (fun c => rk c = g) 0 e := cntP_no (fun q => hne q.2)
            refine G_iinc (L' := [_, _, _, _, _, _]) (v := nI (e + 1 + 1)) dX8_makeGroups_148 rfl (nI_1 _) rfl ?_
            refine G_goto (tgt := 88) dX8_makeGroups_151 (by decide) ?_
            rw [← e0] at hgo ⊢
            refine ih2 (n - (e + 1)) (by omega) (e + 1) c gr go rfl (by omega) hc hrc (fun b hb => ?_) hgo
            rw [hgr b hb]
            by_cases q : rk b < g ∨ (rk b = g ∧ b < e)
            · rw [if_pos q, if_pos (by omega)]
            · rw [if_neg q, if_neg (fun q2 => q (by
                rcases q2 with q2 | ⟨q2, q3⟩
                · exact Or.inl q2
                · refine Or.inr ⟨q2, ?_⟩
                  rcases Nat.lt_or_ge b e with q4 | q4
                  · exact q4
                  · rw [show b = e by omega] at q2; exact absurd q2 hne))]
          refine G_aload_n dX8_makeGroups_94 rfl ?_
          refine G_get (f := 9) kc9 dX8_makeGroups_95 fX8_161 (by decide) rfl rfl ?_
          refine G_iload dX8_makeGroups_98 rfl ?_
          refine G_ialdN (e + 1) dX8_makeGroups_100 rfl rfl (by omega) (by decide) ?_
          refine G_if_ge (tgt := 148) dX8_makeGroups_101 (by decide) (fun h => skip (fun q => ?_)) (fun h => ?_)
          · replace h : 0 ≤ gr (e + 1) := h
            rw [hgr e (by omega), if_neg (by omega)] at h
            exact absurd h (by decide)
          refine G_aload_n dX8_makeGroups_104 rfl ?_
          refine G_get (f := 5) kc9 dX8_makeGroups_105 fX8_155 (by decide) rfl rfl ?_
          refine G_iload dX8_makeGroups_108 rfl ?_
          refine G_iload dX8_makeGroups_110 rfl ?_
          refine G_S (is := [5]) (fo := []) (as := [.ref 100, .int (nI (e + 1)), .int (nI (c + 1))]) (as' := [.ref 105, .int (nI (e + 1)), .int (nI (c + 1))]) (st := []) (k := 0) (n := 0) cX8_makeGroups_112 (con8_compare d e c (by omega) (by omega) r.ha F (fun j hj => hF e j (by omega) hj) (fun j hj => hF c j (by omega) hj)) ab_pfx rfl (by decide) rfl rfl rfl rfl (Nat.le_of_ble_eq_true rfl) dX8_makeGroups_112 (fun w' v h => by rw [h.1]) (fun w2 v2 hq => ?_)
          obtain ⟨rfl, rfl⟩ := hq
          refine G_w (st' := [.int (cmpN (hv F e) (hv F c))]) (w' := w8 ((((((r.bl, r.co), (r.po, r.ha)), ((r.nw, gr), go)), (((r.tr, r.rw), r.nm), ((r.fm, r.oc), r.ds))), ((((r.ms, r.wd), (r.sc, r.sd)), ((r.ke, r.ro), r.hs)), ((((nI g), r.nb), r.fc), ((r.de, r.si), r.th)))) : R8)) rfl rfl ?_
          have hrk := gp_rkH hG (b := e) (c := c) (by omega) hc
          refine G_if_eq (tgt := 121) dX8_makeGroups_115 (by decide) (fun h2 => ?_) (fun h2 => ?_)
          rotate_left
          · refine G_goto (tgt := 148) dX8_makeGroups_118 (by decide) ?_
            exact skip (fun q => h2 (cmpN_0.mpr (hrk.1.mp (by omega))))
          have hre : rk e = g := by have := hrk.1.mpr (cmpN_0.mp h2); omega
          have e1 : cntP (fun c => rk c = g) 0 (e + 1) = cntP (fun c => rk c = g) 0 e + 1 := cntP_yes ⟨by omega, hre⟩
          have hup1 := cntP_up (P := fun c => rk c = g) (a := 0) (m := e + 1) (n := n) (by omega)
          refine G_aload_n dX8_makeGroups_121 rfl ?_
          refine G_get (f := 9) kc9 dX8_makeGroups_122 fX8_161 (by decide) rfl rfl ?_
          refine G_iload dX8_makeGroups_125 rfl ?_
          refine G_aload_n dX8_makeGroups_127 rfl ?_
          refine G_get (f := 11) kc9 dX8_makeGroups_128 fX8_291 (by decide) rfl rfl ?_
          refine G_iastN (w' := w8 ((((((r.bl, r.co), (r.po, r.ha)), ((r.nw, upd gr (e + 1) (nI g)), go)), (((r.tr, r.rw), r.nm), ((r.fm, r.oc), r.ds))), ((((r.ms, r.wd), (r.sc, r.sd)), ((r.ke, r.ro), r.hs)), ((((nI g), r.nb), r.fc), ((r.de, r.si), r.th)))) : R8)) (e + 1) dX8_makeGroups_131 rfl rfl (by omega) (by decide) rfl ?_
          refine G_aload_n dX8_makeGroups_132 rfl ?_
          refine G_get (f := 10) kc9 dX8_makeGroups_133 fX8_164 (by decide) rfl rfl ?_
          refine G_iload_n dX8_makeGroups_136 rfl ?_
          refine G_aload_n dX8_makeGroups_137 rfl ?_
          refine G_get (f := 11) kc9 dX8_makeGroups_138 fX8_291 (by decide) rfl rfl ?_
          refine G_iastN (w' := w8 ((((((r.bl, r.co), (r.po, r.ha)), ((r.nw, upd gr (e + 1) (nI g)), upd go (st g + cntP (fun c => rk c = g) 0 e + 1) (nI g))), (((r.tr, r.rw), r.nm), ((r.fm, r.oc), r.ds))), ((((r.ms, r.wd), (r.sc, r.sd)), ((r.ke, r.ro), r.hs)), ((((nI g), r.nb), r.fc), ((r.de, r.si), r.th)))) : R8)) (st g + cntP (fun c => rk c = g) 0 e + 1) dX8_makeGroups_141 rfl rfl (by omega) (by decide) rfl ?_
          refine G_iinc (L' := [_, _, _, _, _, _]) (v := nI (st g + cntP (fun c => rk c = g) 0 (e + 1) + 1)) dX8_makeGroups_142 rfl (by rw [e1]; exact nI_1 _) rfl ?_
          refine G_iinc (L' := [_, _, _, _, _, _]) (v := nI (st g + cntP (fun c => rk c = g) 0 (e + 1))) dX8_makeGroups_145 rfl (by rw [e1]; exact nI_1 _) rfl ?_
          refine G_iinc (L' := [_, _, _, _, _, _]) (v := nI (e + 1 + 1)) dX8_makeGroups_148 rfl (nI_1 _) rfl ?_
          refine G_goto (tgt := 88) dX8_makeGroups_151 (by decide) ?_
          refine ih2 (n - (e + 1)) (by omega) (e + 1) c _ _ rfl (by omega) hc hrc (fun b hb => ?_) (fun j hj => ?_)
          · by_cases eb : b = e
            · rw [eb, pk_us, if_pos (by omega), hre]
            · rw [pk_un (by omega), hgr b hb]
              by_cases q : rk b < g ∨ (rk b = g ∧ b < e)
              · rw [if_pos q, if_pos (by omega)]
              · rw [if_neg q, if_neg (by omega)]
          · by_cases ej : j = st g + cntP (fun c => rk c = g) 0 e
            · rw [ej, pk_us]
              have hjn : st g + cntP (fun c => rk c = g) 0 e < n := by omega
              have j1 := gp_jlt hG hjn (g := g + 1) (by omega)
              have j2 := gp_jlt hG hjn (g := g) (by omega)
              rw [show rk (o (st g + cntP (fun c => rk c = g) 0 e)) = g by omega]
            · rw [pk_un (by omega)]
              exact hgo j (by omega)
      have least : ∀ (m2 e : Nat) (lv : Int32), n - e = m2 → e ≤ n → ((lv = 0 ∧ ∀ c, c < e → rk c < g) ∨ ∃ c, lv = nI (c + 1) ∧ c < e ∧ g ≤ rk c ∧ ∀ c', c' < e → g ≤ rk c' → hv F c ≤ hv F c') → G ab_x0 mX8_makeGroups (d + 1) 0 0 (fun w' v => ∃ r', w' = w8 r' ∧ v = none ∧ ∃ gr go, r' = ((((((r.bl, r.co), (r.po, r.ha)), ((r.nw, gr), go)), (((r.tr, r.rw), r.nm), ((r.fm, r.oc), r.ds))), ((((r.ms, r.wd), (r.sc, r.sd)), ((r.ke, r.ro), r.hs)), (((nI cn, r.nb), r.fc), ((r.de, r.si), r.th)))) : R8) ∧ (∀ b, b < n → gr (b + 1) = nI (rk b)) ∧ ∀ j, j < n → go (j + 1) = nI (rk (o j))) 40 [some (.ref 100), some (.int (nI n)), some (.int (nI (st g + 1))), some (.int (nI (st g))), some (.int lv), some (.int (nI (e + 1)))] [] (w8 ((((((r.bl, r.co), (r.po, r.ha)), ((r.nw, gr), go)), (((r.tr, r.rw), r.nm), ((r.fm, r.oc), r.ds))), ((((r.ms, r.wd), (r.sc, r.sd)), ((r.ke, r.ro), r.hs)), ((((nI g), r.nb), r.fc), ((r.de, r.si), r.th)))) : R8)) := by
        intro m2
        induction m2 using Nat.strongRecOn with
        | ind m2 ih2 =>
          intro e lv hm2 he hlv
          refine G_iload dX8_makeGroups_40 rfl ?_
          refine G_iload_n dX8_makeGroups_42 rfl ?_
          refine G_icmp_gtN (tgt := 85) (e + 1) n dX8_makeGroups_43 (by decide) rfl rfl (by omega) (by omega) (fun hgt => ?_) (fun hle => ?_)
          · have ee : e = n := by omega
            subst ee
            obtain ⟨c, rfl, hc, hgc2, hmin⟩ : ∃ c, lv = nI (c + 1) ∧ c < e ∧ g ≤ rk c ∧ ∀ c', c' < e → g ≤ rk c' → hv F c ≤ hv F c' := by
              rcases hlv with ⟨_, hno⟩ | h
              · have := hno _ ho6; omega
              · exact h
            have hrc : rk c = g := by
              have a := hmin _ ho6 (by omega)
              have b := hG.2.2.1 c (o (st g)) hc ho6
              omega
            refine G_iconst (v := 1) dX8_makeGroups_85 (by decide) ?_
            refine G_istore (L' := [_, _, _, _, _, _]) dX8_makeGroups_86 (Nat.le_of_ble_eq_true rfl) rfl ?_
            have := second e 0 c gr go rfl (by omega) hc hrc (fun b hb => by
              rw [hgr b hb]
              by_cases q : rk b < g
              · rw [if_pos q, if_pos (Or.inl q)]
              · rw [if_neg q, if_neg (by omega)]) (fun j hj => hgo j (by rw [show cntP (fun c => rk c = g) 0 0 = 0 from rfl] at hj; omega))
            rw [show cntP (fun c => rk c = g) 0 0 = 0 from rfl] at this
            exact this
          have next : ∀ lv', ((lv' = 0 ∧ ∀ c, c < e + 1 → rk c < g) ∨ ∃ c, lv' = nI (c + 1) ∧ c < e + 1 ∧ g ≤ rk c ∧ ∀ c', c' < e + 1 → g ≤ rk c' → hv F c ≤ hv F c') → G ab_x0 mX8_makeGroups (d + 1) 0 0 (fun w' v => ∃ r', w' = w8 r' ∧ v = none ∧ ∃ gr go, r' = ((((((r.bl, r.co), (r.po, r.ha)), ((r.nw, gr), go)), (((r.tr, r.rw), r.nm), ((r.fm, r.oc), r.ds))), ((((r.ms, r.wd), (r.sc, r.sd)), ((r.ke, r.ro), r.hs)), (((nI cn, r.nb), r.fc), ((r.de, r.si), r.th)))) : R8) ∧ (∀ b, b < n → gr (b + 1) = nI (rk b)) ∧ ∀ j, j < n → go (j + 1) = nI (rk (o j))) 79 [some (.ref 100), some (.int (nI n)), some (.int (nI (st g + 1))), some (.int (nI (st g))), some (.int lv'), some (.int (nI (e + 1)))] [] (w8 ((((((r.bl, r.co), (r.po, r.ha)), ((r.nw, gr), go)), (((r.tr, r.rw), r.nm), ((r.fm, r.oc), r.ds))), ((((r.ms, r.wd), (r.sc, r.sd)), ((r.ke, r.ro), r.hs)), ((((nI g), r.nb), r.fc), ((r.de, r.si), r.th)))) : R8)) := by
            intro lv' h
            refine G_iinc (L' := [_, _, _, _, _, _]) (v := nI (e + 1 + 1)) dX8_makeGroups_79 rfl (nI_1 _) rfl ?_
            refine G_goto (tgt := 40) dX8_makeGroups_82 (by decide) ?_
            exact ih2 (n - (e + 1)) (by omega) (e + 1) lv' rfl (by omega) h
          have takes : g ≤ rk e → (∀ c', c' < e → g ≤ rk c' → hv F e ≤ hv F c') → G ab_x0 mX8_makeGroups (d + 1) 0 0 (fun w' v => ∃ r', w' = w8 r' ∧ v = none ∧ ∃ gr go, r' = ((((((r.bl, r.co), (r.po, r.ha)), ((r.nw, gr), go)), (((r.tr, r.rw), r.nm), ((r.fm, r.oc), r.ds))), ((((r.ms, r.wd), (r.sc, r.sd)), ((r.ke, r.ro), r.hs)), (((nI cn, r.nb), r.fc), ((r.de, r.si), r.th)))) : R8) ∧ (∀ b, b < n → gr (b + 1) = nI (rk b)) ∧ ∀ j, j < n → go (j + 1) = nI (rk (o j))) 75 [some (.ref 100), some (.int (nI n)), some (.int (nI (st g + 1))), some (.int (nI (st g))), some (.int lv), some (.int (nI (e + 1)))] [] (w8 ((((((r.bl, r.co), (r.po, r.ha)), ((r.nw, gr), go)), (((r.tr, r.rw), r.nm), ((r.fm, r.oc), r.ds))), ((((r.ms, r.wd), (r.sc, r.sd)), ((r.ke, r.ro), r.hs)), ((((nI g), r.nb), r.fc), ((r.de, r.si), r.th)))) : R8)) := by
            intro hz h
            refine G_iload dX8_makeGroups_75 rfl ?_
            refine G_istore (L' := [_, _, _, _, _, _]) dX8_makeGroups_77 (Nat.le_of_ble_eq_true rfl) rfl ?_
            refine next (nI (e + 1)) (Or.inr ⟨e, rfl, by omega, hz, fun c' hc' hz' => ?_⟩)
            by_cases ee : c' = e
            · rw [ee]; exact Nat.le_refl _
            · exact h c' (by omega) hz'
          refine G_aload_n dX8_makeGroups_46 rfl ?_
          refine G_get (f := 9) kc9 dX8_makeGroups_47 fX8_161 (by decide) rfl rfl ?_
          refine G_iload dX8_makeGroups_50 rfl ?_
          refine G_ialdN (e + 1) dX8_makeGroups_52 rfl rfl (by omega) (by decide) ?_
          refine G_if_ge (tgt := 79) dX8_makeGroups_53 (by decide) (fun h => ?_) (fun h => ?_)
          · have hre := (neg e (by omega)).mp h
            refine next lv ?_
            rcases hlv with ⟨h1, h2⟩ | ⟨c, h1, h2, h3, h4⟩
            · refine Or.inl ⟨h1, fun c hc => ?_⟩
              by_cases ee : c = e
              · rw [ee]; exact hre
              · exact h2 c (by omega)
            · refine Or.inr ⟨c, h1, by omega, h3, fun c' hc' hz' => ?_⟩
              by_cases ee : c' = e
              · rw [ee] at hz'; omega
              · exact h4 c' (by omega) hz'
          have hre : g ≤ rk e := by
            rcases Nat.lt_or_ge (rk e) g with q | q
            · exact absurd ((neg e (by omega)).mpr q) h
            · exact q
          refine G_iload dX8_makeGroups_56 rfl ?_
          rcases hlv with ⟨rfl, h2⟩ | ⟨c, rfl, h2, h3, h4⟩
          · refine G_if_eq (tgt := 75) dX8_makeGroups_58 (by decide) (fun _ => ?_) (fun h => absurd rfl h)
            exact takes hre (fun c' hc' hz' => by have := h2 c' hc'; omega)
          refine G_if_eq (tgt := 75) dX8_makeGroups_58 (by decide) (fun h => absurd h (nI_ne0 (by omega) (by omega))) (fun _ => ?_)
          refine G_aload_n dX8_makeGroups_61 rfl ?_
          refine G_get (f := 5) kc9 dX8_makeGroups_62 fX8_155 (by decide) rfl rfl ?_
          refine G_iload dX8_makeGroups_65 rfl ?_
          refine G_iload dX8_makeGroups_67 rfl ?_
          refine G_S (is := [5]) (fo := []) (as := [.ref 100, .int (nI (e + 1)), .int (nI (c + 1))]) (as' := [.ref 105, .int (nI (e + 1)), .int (nI (c + 1))]) (st := []) (k := 0) (n := 0) cX8_makeGroups_69 (con8_compare d e c (by omega) (by omega) r.ha F (fun j hj => hF e j (by omega) hj) (fun j hj => hF c j (by omega) hj)) ab_pfx rfl (by decide) rfl rfl rfl rfl (Nat.le_of_ble_eq_true rfl) dX8_makeGroups_69 (fun w' v h => by rw [h.1]) (fun w2 v2 hq => ?_)
          obtain ⟨rfl, rfl⟩ := hq
          refine G_w (st' := [.int (cmpN (hv F e) (hv F c))]) (w' := w8 ((((((r.bl, r.co), (r.po, r.ha)), ((r.nw, gr), go)), (((r.tr, r.rw), r.nm), ((r.fm, r.oc), r.ds))), ((((r.ms, r.wd), (r.sc, r.sd)), ((r.ke, r.ro), r.hs)), ((((nI g), r.nb), r.fc), ((r.de, r.si), r.th)))) : R8)) rfl rfl ?_
          refine G_if_ge (tgt := 79) dX8_makeGroups_72 (by decide) (fun h5 => ?_) (fun h5 => ?_)
          · have h6' : hv F c ≤ hv F e := by
              rcases Nat.lt_or_ge (hv F e) (hv F c) with q | q
              · unfold cmpN at h5; rw [if_pos q] at h5; exact absurd h5 (by decide)
              · exact q
            refine next _ (Or.inr ⟨c, rfl, by omega, h3, fun c' hc' hz' => ?_⟩)
            by_cases ee : c' = e
            · rw [ee]; exact h6'
            · exact h4 c' (by omega) hz'
          · have h6' : hv F e < hv F c := by
              rcases Nat.lt_or_ge (hv F e) (hv F c) with q | q
              · exact q
              · exfalso
                apply h5
                unfold cmpN
                rw [if_neg (by omega)]
                split <;> decide
            exact takes hre (fun c' hc' hz' => by have := h4 c' hc' hz'; omega)
      exact least n 0 0 rfl (by omega) (Or.inl ⟨rfl, fun c hc => by omega⟩)
  refine G_aload_n dX8_makeGroups_0 rfl ?_
  refine G_iconst (v := 0) dX8_makeGroups_1 (by decide) ?_
  refine G_put (w' := w8 ((((((r.bl, r.co), (r.po, r.ha)), ((r.nw, r.gr), r.go)), (((r.tr, r.rw), r.nm), ((r.fm, r.oc), r.ds))), ((((r.ms, r.wd), (r.sc, r.sd)), ((r.ke, r.ro), r.hs)), ((((nI 0), r.nb), r.fc), ((r.de, r.si), r.th)))) : R8)) (f := 11) kc9 dX8_makeGroups_2 fX8_291 (by decide) rfl rfl rfl rfl (Nat.le_of_ble_eq_true rfl) rfl ?_
  refine G_iconst (v := 1) dX8_makeGroups_5 (by decide) ?_
  refine G_istore_n (L' := [_, _, _, _, _, _]) dX8_makeGroups_6 (Nat.le_of_ble_eq_true rfl) rfl ?_
  have init : ∀ (m e : Nat) (gr : Nat → Int32), n - e = m → e ≤ n → (∀ b, b < e → gr (b + 1) = -1) → G ab_x0 mX8_makeGroups (d + 1) 0 0 (fun w' v => ∃ r', w' = w8 r' ∧ v = none ∧ ∃ gr go, r' = ((((((r.bl, r.co), (r.po, r.ha)), ((r.nw, gr), go)), (((r.tr, r.rw), r.nm), ((r.fm, r.oc), r.ds))), ((((r.ms, r.wd), (r.sc, r.sd)), ((r.ke, r.ro), r.hs)), (((nI cn, r.nb), r.fc), ((r.de, r.si), r.th)))) : R8) ∧ (∀ b, b < n → gr (b + 1) = nI (rk b)) ∧ ∀ j, j < n → go (j + 1) = nI (rk (o j))) 7 [some (.ref 100), some (.int (nI n)), some (.int (nI (e + 1))), none, none, none] [] (w8 ((((((r.bl, r.co), (r.po, r.ha)), ((r.nw, gr), r.go)), (((r.tr, r.rw), r.nm), ((r.fm, r.oc), r.ds))), ((((r.ms, r.wd), (r.sc, r.sd)), ((r.ke, r.ro), r.hs)), ((((nI 0), r.nb), r.fc), ((r.de, r.si), r.th)))) : R8)) := by
    intro m
    induction m using Nat.strongRecOn with
    | ind m ih =>
      intro e gr hm he hgr
      refine G_iload_n dX8_makeGroups_7 rfl ?_
      refine G_iload_n dX8_makeGroups_8 rfl ?_
      refine G_icmp_gtN (tgt := 25) (e + 1) n dX8_makeGroups_9 (by decide) rfl rfl (by omega) (by omega) (fun hgt => ?_) (fun hle => ?_)
      · have ee : e = n := by omega
        subst ee
        refine G_iconst (v := 1) dX8_makeGroups_25 (by decide) ?_
        refine G_istore_n (L' := [_, _, _, _, _, _]) dX8_makeGroups_26 (Nat.le_of_ble_eq_true rfl) rfl ?_
        refine G_iconst (v := 0) dX8_makeGroups_27 (by decide) ?_
        refine G_istore_n (L' := [_, _, _, _, _, _]) dX8_makeGroups_28 (Nat.le_of_ble_eq_true rfl) rfl ?_
        have h9 := hG.2.2.2.2.2.2.2.2
        have := outer cn 0 gr r.go none none rfl (by omega) (fun b hb => by rw [hgr b hb, if_neg (by omega)]) (fun j hj => by omega)
        rw [h9] at this
        exact this
      refine G_aload_n dX8_makeGroups_12 rfl ?_
      refine G_get (f := 9) kc9 dX8_makeGroups_13 fX8_161 (by decide) rfl rfl ?_
      refine G_iload_n dX8_makeGroups_16 rfl ?_
      refine G_iconst (v := (-1)) dX8_makeGroups_17 (by decide) ?_
      refine G_iastN (w' := w8 ((((((r.bl, r.co), (r.po, r.ha)), ((r.nw, upd gr (e + 1) (-1)), r.go)), (((r.tr, r.rw), r.nm), ((r.fm, r.oc), r.ds))), ((((r.ms, r.wd), (r.sc, r.sd)), ((r.ke, r.ro), r.hs)), ((((nI 0), r.nb), r.fc), ((r.de, r.si), r.th)))) : R8)) (e + 1) dX8_makeGroups_18 rfl rfl (by omega) (by decide) rfl ?_
      refine G_iinc (L' := [_, _, _, _, _, _]) (v := nI (e + 1 + 1)) dX8_makeGroups_19 rfl (nI_1 _) rfl ?_
      refine G_goto (tgt := 7) dX8_makeGroups_22 (by decide) ?_
      refine ih (n - (e + 1)) (by omega) (e + 1) _ rfl (by omega) (fun b hb => ?_)
      by_cases q : b = e
      · rw [q, pk_us]
      · rw [pk_un (by omega)]; exact hgr b (by omega)
  exact init n 0 r.gr rfl (by omega) (fun b hb => by omega)
