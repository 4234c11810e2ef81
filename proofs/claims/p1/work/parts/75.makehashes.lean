/-! The reference: makeHashes, hash, rounds, first. -/
/-- what making hashes leaves alone -/
def Sm (r r' : R8) : Prop := r'.bl = r.bl ∧ r'.co = r.co ∧ r'.po = r.po ∧ r'.tr = r.tr ∧ r'.nm = r.nm ∧ r'.fm = r.fm ∧ r'.oc = r.oc ∧ r'.ke = r.ke ∧ r'.nb = r.nb ∧ r'.fc = r.fc ∧ r'.th = r.th
theorem Sm_refl (r : R8) : Sm r r := ⟨rfl, rfl, rfl, rfl, rfl, rfl, rfl, rfl, rfl, rfl, rfl⟩
/-- the reference's hashes and groups are those of the graph -/
def Hd (r : R8) (q : Nat → Nat) (nb nt : Nat) (F : Nat → Int32) (R : Nat) (o rk st : Nat → Nat) (cn : Nat) : Prop := Hsh nb nt q F R ∧ hOk r.ha F nb ∧ GP (hv F) nb o rk st cn ∧ r.ro = nI R ∧ r.gc = nI cn ∧ (∀ b, b < nb → r.gr (b + 1) = nI (rk b)) ∧ ∀ j, j < nb → r.go (j + 1) = nI (rk (o j))
def HS8 (r : R8) (q : Nat → Nat) (nb nt : Nat) : Prop := r.hs = 0 ∨ (r.hs = 1 ∧ ∃ F R o rk st cn, Hd r q nb nt F R o rk st cn)
theorem Rnd_of {nb nt : Nat} {q : Nat → Nat} {F : Nat → Int32} {o rk st : Nat → Nat} {cn : Nat} (hG : GP (hv F) nb o rk st cn) : Rnd nb nt q F (fun i => dig (msgB F (fun g => o (st g)) rk q nt (i / 8)) (i % 8)) := ⟨o, rk, st, cn, hG, fun b j hb hj => by show dig (msgB F _ rk q nt ((b * 8 + j) / 8)) ((b * 8 + j) % 8) = _; rw [show (b * 8 + j) / 8 = b by omega, show (b * 8 + j) % 8 = j by omega]⟩
theorem cntIs_dfr {F : Nat → Int32} {nb : Nat} : cntIs F nb (dfr (hv F) nb) := by
  obtain ⟨o, rk, st, cn, h⟩ := gp_exists (hv F) nb
  rw [← gp_cn h]
  exact ⟨o, rk, st, h⟩
theorem cntIs_eq {F : Nat → Int32} {nb cn : Nat} (h : cntIs F nb cn) : cn = dfr (hv F) nb := by
  obtain ⟨o, rk, st, h⟩ := h
  exact gp_cn h
set_option maxRecDepth 20000 in
set_option maxHeartbeats 8000000 in
theorem con8_makeHashes (d nb nt : Nat) (hnb : nb ≤ 8) (hnt : nt ≤ 40) (r : R8) (hb : r.bl 8 = nI nb) (hc : r.co 8 = nI nt) (q : Nat → Nat) (hp : pts r.po 960 q nt nb) (hs : HS8 r q nb nt) : Con mX8_makeHashes (d + 4) 0 0 (w8 r) [.ref 100] (fun w' v => ∃ r', w' = w8 r' ∧ v = none ∧ Sm r r' ∧ r'.hs = 1 ∧ ∃ F R o rk st cn, Hd r' q nb nt F R o rk st cn) := by
  refine Con.of (ab_okc rfl (by decide)) (Nat.le_of_ble_eq_true rfl) ?_
  show G ab_x0 mX8_makeHashes (d + 4) 0 0 _ 0 [some (.ref 100), none, none, none, none] [] _
  rcases hs with hs0 | ⟨hs1, hHd⟩
  rotate_left
  · refine G_aload_n dX8_makeHashes_0 rfl ?_
    refine G_get (f := 8) kc9 dX8_makeHashes_1 fX8_241 (by decide) rfl rfl ?_
    refine G_topi hs1 ?_
    refine G_if_eq (tgt := 8) dX8_makeHashes_4 (by decide) (fun h => absurd h (by decide)) (fun _ => ?_)
    exact G_ret (v := none) ⟨dX8_makeHashes_7, rfl⟩ ⟨r, rfl, rfl, Sm_refl r, hs1, hHd⟩
  have done : ∀ (r1 : R8) (F : Nat → Int32) (R : Nat) (z3 z4 : Option Value), Sm r r1 → Hsh nb nt q F R → hOk r1.ha F nb → r1.ro = nI R → G ab_x0 mX8_makeHashes (d + 4) 0 0 (fun w' v => ∃ r', w' = w8 r' ∧ v = none ∧ Sm r r' ∧ r'.hs = 1 ∧ ∃ F R o rk st cn, Hd r' q nb nt F R o rk st cn) 186 [some (.ref 100), some (.int (nI nb)), some (.int 0), z3, z4] [] (w8 r1) := by
    intro r1 F R z3 z4 hSm hH hF hR
    obtain ⟨o, rk, st, cn, hG⟩ := gp_exists (hv F) nb
    refine G_aload_n dX8_makeHashes_186 rfl ?_
    refine G_iload_n dX8_makeHashes_187 rfl ?_
    refine G_V8 (as := [.int (nI nb)]) (st := []) cX8_makeHashes_188 (con8_makeGroups _ nb cn hnb r1 F hF o rk st hG) rfl rfl rfl rfl rfl (Nat.le_of_ble_eq_true rfl) dX8_makeHashes_188 (fun r2 v2 hq => ?_)
    obtain ⟨rfl, gr, go, rfl, hgr, hgo⟩ := hq
    refine G_w (st' := []) (w' := w8 ((((((r1.bl, r1.co), (r1.po, r1.ha)), ((r1.nw, gr), go)), (((r1.tr, r1.rw), r1.nm), ((r1.fm, r1.oc), r1.ds))), ((((r1.ms, r1.wd), (r1.sc, r1.sd)), ((r1.ke, r1.ro), r1.hs)), (((nI cn, r1.nb), r1.fc), ((r1.de, r1.si), r1.th)))) : R8)) rfl rfl ?_
    refine G_aload_n dX8_makeHashes_191 rfl ?_
    refine G_iconst (v := 1) dX8_makeHashes_192 (by decide) ?_
    refine G_put (w' := w8 ((((((r1.bl, r1.co), (r1.po, r1.ha)), ((r1.nw, gr), go)), (((r1.tr, r1.rw), r1.nm), ((r1.fm, r1.oc), r1.ds))), ((((r1.ms, r1.wd), (r1.sc, r1.sd)), ((r1.ke, r1.ro), 1)), (((nI cn, r1.nb), r1.fc), ((r1.de, r1.si), r1.th)))) : R8)) (f := 8) kc9 dX8_makeHashes_193 fX8_241 (by decide) rfl (by decide) (by decide) rfl (Nat.le_of_ble_eq_true rfl) rfl ?_
    exact G_ret (v := none) ⟨dX8_makeHashes_196, rfl⟩ ⟨_, rfl, rfl, hSm, rfl, F, R, o, rk, st, cn, hH, hF, hG, hR, rfl, hgr, hgo⟩
  have main : ∀ (k m : Nat) (F : Nat → Int32) (r1 : R8) (z3 z4 : Option Value), nb - dfr (hv F) nb = k → Sm r r1 → Rns nb nt q m F (dfr (hv F) nb) → (nb < 2 → m = 0) → hOk r1.ha F nb → r1.ro = nI m → m < 100 → G ab_x0 mX8_makeHashes (d + 4) 0 0 (fun w' v => ∃ r', w' = w8 r' ∧ v = none ∧ Sm r r' ∧ r'.hs = 1 ∧ ∃ F R o rk st cn, Hd r' q nb nt F R o rk st cn) 72 [some (.ref 100), some (.int (nI nb)), some (.int 1), z3, z4] [] (w8 r1) := by
    intro k
    induction k using Nat.strongRecOn with
    | ind k ih =>
      intro m F r1 z3 z4 hk hSm hRns hm0 hF hro hm100
      obtain ⟨o, rk, st, cn, hG⟩ := gp_exists (hv F) nb
      obtain ⟨E, hE⟩ : ∃ E : Nat → Int32, E = fun i => dig (msgB F (fun g => o (st g)) rk q nt (i / 8)) (i % 8) := ⟨_, rfl⟩
      have hRnd : Rnd nb nt q F E := by rw [hE]; exact Rnd_of hG
      have hEv : ∀ b j, b < nb → j < 8 → E (b * 8 + j) = dig (msgB F (fun g => o (st g)) rk q nt b) j := fun b j _ hj => by
        rw [hE]
        show dig (msgB F _ rk q nt ((b * 8 + j) / 8)) ((b * 8 + j) % 8) = _
        rw [show (b * 8 + j) / 8 = b by omega, show (b * 8 + j) % 8 = j by omega]
      refine G_iload_n dX8_makeHashes_72 rfl ?_
      refine G_if_eq (tgt := 186) dX8_makeHashes_73 (by decide) (fun h => absurd h (by decide)) (fun _ => ?_)
      refine G_iconst (v := 1) dX8_makeHashes_76 (by decide) ?_
      refine G_istore_n (L' := [_, _, _, _, _]) dX8_makeHashes_77 (Nat.le_of_ble_eq_true rfl) rfl ?_
      have stop : ∀ (r1 : R8) (F' : Nat → Int32) (tv : Int32) (z4 : Option Value), Sm r r1 → Hsh nb nt q F' (m + 1) → hOk r1.ha F' nb → r1.ro = nI (m + 1) → (tv = 0 ∨ nb < 2) → G ab_x0 mX8_makeHashes (d + 4) 0 0 (fun w' v => ∃ r', w' = w8 r' ∧ v = none ∧ Sm r r' ∧ r'.hs = 1 ∧ ∃ F R o rk st cn, Hd r' q nb nt F R o rk st cn) 168 [some (.ref 100), some (.int (nI nb)), some (.int 1), some (.int tv), z4] [] (w8 r1) := by
        intro r1 F' tv z4 hSm hH hF' hro htv
        refine G_iload_n dX8_makeHashes_168 rfl ?_
        have fin : G ab_x0 mX8_makeHashes (d + 4) 0 0 (fun w' v => ∃ r', w' = w8 r' ∧ v = none ∧ Sm r r' ∧ r'.hs = 1 ∧ ∃ F R o rk st cn, Hd r' q nb nt F R o rk st cn) 181 [some (.ref 100), some (.int (nI nb)), some (.int 1), some (.int tv), z4] [] (w8 r1) := by
          refine G_iconst (v := 0) dX8_makeHashes_181 (by decide) ?_
          refine G_istore_n (L' := [_, _, _, _, _]) dX8_makeHashes_182 (Nat.le_of_ble_eq_true rfl) rfl ?_
          refine G_goto (tgt := 72) dX8_makeHashes_183 (by decide) ?_
          refine G_iload_n dX8_makeHashes_72 rfl ?_
          refine G_if_eq (tgt := 186) dX8_makeHashes_73 (by decide) (fun _ => ?_) (fun h => absurd rfl h)
          exact done r1 F' (m + 1) _ _ hSm hH hF' hro
        refine G_if_eq (tgt := 181) dX8_makeHashes_169 (by decide) (fun _ => fin) (fun h => ?_)
        refine G_iload_n dX8_makeHashes_172 rfl ?_
        refine G_iconst (v := 1) dX8_makeHashes_173 (by decide) ?_
        refine G_icmp_leN (tgt := 181) nb 1 dX8_makeHashes_174 (by decide) rfl rfl (by omega) (by omega) (fun _ => fin) (fun h2 => ?_)
        rcases htv with e | e
        · exact absurd e h
        · omega
      have copy : ∀ (k2 e : Nat) (r1 : R8), 72 - e = k2 → e ≤ 72 → Sm r r1 → hOk r1.nw E nb → (∀ i, i < e → r1.ha i = r1.nw i) → r1.ro = nI (m + 1) → (nb < 2 ∨ dfr (hv F) nb < dfr (hv E) nb) → G ab_x0 mX8_makeHashes (d + 4) 0 0 (fun w' v => ∃ r', w' = w8 r' ∧ v = none ∧ Sm r r' ∧ r'.hs = 1 ∧ ∃ F R o rk st cn, Hd r' q nb nt F R o rk st cn) 137 [some (.ref 100), some (.int (nI nb)), some (.int 1), some (.int 1), some (.int (nI e))] [] (w8 r1) := by
        intro k2
        induction k2 using Nat.strongRecOn with
        | ind k2 ih2 =>
          intro e r1 hk2 he hSm hnw hcp hro htk
          refine G_iload dX8_makeHashes_137 rfl ?_
          refine G_bipush (v := 72) dX8_makeHashes_139 (by decide) ?_
          refine G_icmp_geN (tgt := 168) e 72 dX8_makeHashes_141 (by decide) rfl rfl (by omega) (by omega) (fun hge => ?_) (fun hlt => ?_)
          · have hha : hOk r1.ha E nb := fun b j hb2 hj => by rw [hcp _ (by omega)]; exact hnw b j hb2 hj
            by_cases h2 : nb < 2
            · refine stop r1 E 1 _ hSm (Or.inl ⟨h2, by have := hm0 h2; omega, F, ?_, hRnd⟩) hha hro (Or.inr h2)
              have hm := hm0 h2
              subst hm
              exact hRns.1
            · have hlt2 : dfr (hv F) nb < dfr (hv E) nb := htk.resolve_left h2
              have hle := dfr_le (hv E) nb
              have hR2 : Rns nb nt q (m + 1) E (dfr (hv E) nb) := ⟨F, dfr (hv F) nb, hRns, hRnd, cntIs_dfr, hlt2⟩
              have hge2 := Rns_ge (by omega) hR2
              refine G_iload_n dX8_makeHashes_168 rfl ?_
              refine G_if_eq (tgt := 181) dX8_makeHashes_169 (by decide) (fun h => absurd h (by decide)) (fun _ => ?_)
              refine G_iload_n dX8_makeHashes_172 rfl ?_
              refine G_iconst (v := 1) dX8_makeHashes_173 (by decide) ?_
              refine G_icmp_leN (tgt := 181) nb 1 dX8_makeHashes_174 (by decide) rfl rfl (by omega) (by omega) (fun h => by omega) (fun _ => ?_)
              refine G_iconst (v := 1) dX8_makeHashes_177 (by decide) ?_
              refine G_goto (tgt := 182) dX8_makeHashes_178 (by decide) ?_
              refine G_istore_n (L' := [_, _, _, _, _]) dX8_makeHashes_182 (Nat.le_of_ble_eq_true rfl) rfl ?_
              refine G_goto (tgt := 72) dX8_makeHashes_183 (by decide) ?_
              exact ih (nb - dfr (hv E) nb) (by omega) (m + 1) E r1 _ _ rfl hSm hR2 (fun h => absurd h h2) hha hro (by omega)
          refine G_iload_n dX8_makeHashes_144 rfl ?_
          refine G_if_eq (tgt := 168) dX8_makeHashes_145 (by decide) (fun h => absurd h (by decide)) (fun _ => ?_)
          refine G_aload_n dX8_makeHashes_148 rfl ?_
          refine G_get (f := 5) kc9 dX8_makeHashes_149 fX8_155 (by decide) rfl rfl ?_
          refine G_iload dX8_makeHashes_152 rfl ?_
          refine G_aload_n dX8_makeHashes_154 rfl ?_
          refine G_get (f := 6) kc9 dX8_makeHashes_155 fX8_158 (by decide) rfl rfl ?_
          refine G_iload dX8_makeHashes_158 rfl ?_
          refine G_laldN (e) dX8_makeHashes_160 rfl rfl (by omega) (by decide) ?_
          refine G_lastN (w' := w8 ((((((r1.bl, r1.co), (r1.po, vp_updL r1.ha e (r1.nw e))), ((r1.nw, r1.gr), r1.go)), (((r1.tr, r1.rw), r1.nm), ((r1.fm, r1.oc), r1.ds))), ((((r1.ms, r1.wd), (r1.sc, r1.sd)), ((r1.ke, r1.ro), r1.hs)), (((r1.gc, r1.nb), r1.fc), ((r1.de, r1.si), r1.th)))) : R8)) (e) dX8_makeHashes_161 rfl rfl (by omega) (by decide) rfl ?_
          refine G_iinc (L' := [_, _, _, _, _]) (v := nI (e + 1)) dX8_makeHashes_162 rfl (nI_1 _) rfl ?_
          refine G_goto (tgt := 137) dX8_makeHashes_165 (by decide) ?_
          refine ih2 (72 - (e + 1)) (by omega) (e + 1) ((((((r1.bl, r1.co), (r1.po, vp_updL r1.ha e (r1.nw e))), ((r1.nw, r1.gr), r1.go)), (((r1.tr, r1.rw), r1.nm), ((r1.fm, r1.oc), r1.ds))), ((((r1.ms, r1.wd), (r1.sc, r1.sd)), ((r1.ke, r1.ro), r1.hs)), (((r1.gc, r1.nb), r1.fc), ((r1.de, r1.si), r1.th)))) : R8) rfl (by omega) hSm hnw (fun i hi => ?_) hro htk
          show vp_updL r1.ha e (r1.nw e) i = r1.nw i
          by_cases ee : i = e
          · rw [ee, pk_uLs]
          · rw [pk_uLn ee]; exact hcp i (by omega)
      have news : ∀ (k2 e : Nat) (r1 : R8) (z4 : Option Value), nb - e = k2 → e ≤ nb → Sm r r1 → hOk r1.ha F nb → (∀ b j, b < e → j < 8 → r1.nw (8 * (b + 1) + j) = zx (E (b * 8 + j))) → r1.ro = nI m → G ab_x0 mX8_makeHashes (d + 4) 0 0 (fun w' v => ∃ r', w' = w8 r' ∧ v = none ∧ Sm r r' ∧ r'.hs = 1 ∧ ∃ F R o rk st cn, Hd r' q nb nt F R o rk st cn) 78 [some (.ref 100), some (.int (nI nb)), some (.int 1), some (.int (nI (e + 1))), z4] [] (w8 r1) := by
        intro k2
        induction k2 using Nat.strongRecOn with
        | ind k2 ih2 =>
          intro e r1 z4 hk2 he hSm hF hnw hro
          have hb1 : r1.bl 8 = nI nb := by rw [hSm.1]; exact hb
          have hc1 : r1.co 8 = nI nt := by rw [hSm.2.1]; exact hc
          have hp1 : pts r1.po 960 q nt nb := by rw [hSm.2.2.1]; exact hp
          refine G_iload_n dX8_makeHashes_78 rfl ?_
          refine G_iload_n dX8_makeHashes_79 rfl ?_
          refine G_icmp_gtN (tgt := 94) (e + 1) nb dX8_makeHashes_80 (by decide) rfl rfl (by omega) (by omega) (fun hgt => ?_) (fun hle => ?_)
          rotate_left
          · refine G_aload_n dX8_makeHashes_83 rfl ?_
            refine G_iload_n dX8_makeHashes_84 rfl ?_
            refine G_V8 (as := [.int (nI (e + 1))]) (st := []) cX8_makeHashes_85 (con8_next _ nb nt e hnb hnt (by omega) r1 hc1 q hp1 F hF o rk st cn hG) rfl rfl rfl rfl rfl (Nat.le_of_ble_eq_true rfl) dX8_makeHashes_85 (fun r2 v2 hq => ?_)
            obtain ⟨rfl, ds, ms, sd, wd, sc, nw, si, de, rfl, hn1, hn2⟩ := hq
            refine G_w (st' := []) (w' := w8 ((((((r1.bl, r1.co), (r1.po, r1.ha)), ((nw, r1.gr), r1.go)), (((r1.tr, r1.rw), r1.nm), ((r1.fm, r1.oc), ds))), ((((ms, wd), (sc, sd)), ((r1.ke, r1.ro), r1.hs)), (((r1.gc, r1.nb), r1.fc), ((de, si), r1.th)))) : R8)) rfl rfl ?_
            refine G_iinc (L' := [_, _, _, _, _]) (v := nI (e + 1 + 1)) dX8_makeHashes_88 rfl (nI_1 _) rfl ?_
            refine G_goto (tgt := 78) dX8_makeHashes_91 (by decide) ?_
            refine ih2 (nb - (e + 1)) (by omega) (e + 1) ((((((r1.bl, r1.co), (r1.po, r1.ha)), ((nw, r1.gr), r1.go)), (((r1.tr, r1.rw), r1.nm), ((r1.fm, r1.oc), ds))), ((((ms, wd), (sc, sd)), ((r1.ke, r1.ro), r1.hs)), (((r1.gc, r1.nb), r1.fc), ((de, si), r1.th)))) : R8) _ rfl (by omega) hSm hF (fun b j hb2 hj => ?_) hro
            show nw (8 * (b + 1) + j) = _
            by_cases eb : b = e
            · rw [eb, hn1 j hj, hEv e j (by omega) hj]
            · rw [hn2 _ (by omega)]; exact hnw b j (by omega) hj
          have hnwE : hOk r1.nw E nb := fun b j hb2 hj => hnw b j (by omega) hj
          have hrd : r1.ro + 1 = nI (m + 1) := by rw [hro]; exact nI_1 m
          refine G_aload_n dX8_makeHashes_94 rfl ?_
          refine G_dup dX8_makeHashes_95 rfl ?_
          refine G_get (f := 7) kc9 dX8_makeHashes_96 fX8_278 (by decide) rfl rfl ?_
          refine G_iconst (v := 1) dX8_makeHashes_99 (by decide) ?_
          refine G_iadd dX8_makeHashes_100 ?_
          refine G_topi hrd ?_
          refine G_put (w' := w8 ((((((r1.bl, r1.co), (r1.po, r1.ha)), ((r1.nw, r1.gr), r1.go)), (((r1.tr, r1.rw), r1.nm), ((r1.fm, r1.oc), r1.ds))), ((((r1.ms, r1.wd), (r1.sc, r1.sd)), ((r1.ke, nI (m + 1)), r1.hs)), (((r1.gc, r1.nb), r1.fc), ((r1.de, r1.si), r1.th)))) : R8)) (f := 7) kc9 dX8_makeHashes_101 fX8_278 (by decide) rfl rfl rfl rfl (Nat.le_of_ble_eq_true rfl) rfl ?_
          refine G_iload_n dX8_makeHashes_104 rfl ?_
          refine G_iconst (v := 2) dX8_makeHashes_105 (by decide) ?_
          have yes : (nb < 2 ∨ dfr (hv F) nb < dfr (hv E) nb) → G ab_x0 mX8_makeHashes (d + 4) 0 0 (fun w' v => ∃ r', w' = w8 r' ∧ v = none ∧ Sm r r' ∧ r'.hs = 1 ∧ ∃ F R o rk st cn, Hd r' q nb nt F R o rk st cn) 128 [some (.ref 100), some (.int (nI nb)), some (.int 1), some (.int (nI (e + 1))), z4] [] (w8 ((((((r1.bl, r1.co), (r1.po, r1.ha)), ((r1.nw, r1.gr), r1.go)), (((r1.tr, r1.rw), r1.nm), ((r1.fm, r1.oc), r1.ds))), ((((r1.ms, r1.wd), (r1.sc, r1.sd)), ((r1.ke, nI (m + 1)), r1.hs)), (((r1.gc, r1.nb), r1.fc), ((r1.de, r1.si), r1.th)))) : R8)) := by
            intro h
            refine G_iconst (v := 1) dX8_makeHashes_128 (by decide) ?_
            refine G_goto (tgt := 133) dX8_makeHashes_129 (by decide) ?_
            refine G_istore_n (L' := [_, _, _, _, _]) dX8_makeHashes_133 (Nat.le_of_ble_eq_true rfl) rfl ?_
            refine G_iconst (v := 0) dX8_makeHashes_134 (by decide) ?_
            refine G_istore (L' := [_, _, _, _, _]) dX8_makeHashes_135 (Nat.le_of_ble_eq_true rfl) rfl ?_
            exact copy 72 0 ((((((r1.bl, r1.co), (r1.po, r1.ha)), ((r1.nw, r1.gr), r1.go)), (((r1.tr, r1.rw), r1.nm), ((r1.fm, r1.oc), r1.ds))), ((((r1.ms, r1.wd), (r1.sc, r1.sd)), ((r1.ke, nI (m + 1)), r1.hs)), (((r1.gc, r1.nb), r1.fc), ((r1.de, r1.si), r1.th)))) : R8) rfl (by omega) hSm hnwE (fun i hi => by omega) rfl h
          refine G_icmp_ltN (tgt := 128) nb 2 dX8_makeHashes_106 (by decide) rfl rfl (by omega) (by omega) (fun h => yes (Or.inl h)) (fun h2 => ?_)
          refine G_aload_n dX8_makeHashes_109 rfl ?_
          refine G_aload_n dX8_makeHashes_110 rfl ?_
          refine G_get (f := 6) kc9 dX8_makeHashes_111 fX8_158 (by decide) rfl rfl ?_
          refine G_V8 (as := [.ref 106]) (st := []) cX8_makeHashes_114 (con8_differentN _ nb ((((((r1.bl, r1.co), (r1.po, r1.ha)), ((r1.nw, r1.gr), r1.go)), (((r1.tr, r1.rw), r1.nm), ((r1.fm, r1.oc), r1.ds))), ((((r1.ms, r1.wd), (r1.sc, r1.sd)), ((r1.ke, nI (m + 1)), r1.hs)), (((r1.gc, r1.nb), r1.fc), ((r1.de, r1.si), r1.th)))) : R8) hb1 hnb E hnwE) rfl rfl rfl rfl rfl (Nat.le_of_ble_eq_true rfl) dX8_makeHashes_114 (fun r2 v2 hq => ?_)
          obtain ⟨rfl, rfl⟩ := hq
          refine G_w (st' := [.int (nI (dfr (hv E) nb))]) (w' := w8 ((((((r1.bl, r1.co), (r1.po, r1.ha)), ((r1.nw, r1.gr), r1.go)), (((r1.tr, r1.rw), r1.nm), ((r1.fm, r1.oc), r1.ds))), ((((r1.ms, r1.wd), (r1.sc, r1.sd)), ((r1.ke, nI (m + 1)), r1.hs)), (((r1.gc, r1.nb), r1.fc), ((r1.de, r1.si), r1.th)))) : R8)) rfl rfl ?_
          refine G_aload_n dX8_makeHashes_117 rfl ?_
          refine G_aload_n dX8_makeHashes_118 rfl ?_
          refine G_get (f := 5) kc9 dX8_makeHashes_119 fX8_155 (by decide) rfl rfl ?_
          refine G_V8 (as := [.ref 105]) (st := [.int (nI (dfr (hv E) nb))]) cX8_makeHashes_122 (con8_differentH _ nb ((((((r1.bl, r1.co), (r1.po, r1.ha)), ((r1.nw, r1.gr), r1.go)), (((r1.tr, r1.rw), r1.nm), ((r1.fm, r1.oc), r1.ds))), ((((r1.ms, r1.wd), (r1.sc, r1.sd)), ((r1.ke, nI (m + 1)), r1.hs)), (((r1.gc, r1.nb), r1.fc), ((r1.de, r1.si), r1.th)))) : R8) hb1 hnb F hF) rfl rfl rfl rfl rfl (Nat.le_of_ble_eq_true rfl) dX8_makeHashes_122 (fun r2 v2 hq => ?_)
          obtain ⟨rfl, rfl⟩ := hq
          refine G_w (st' := [.int (nI (dfr (hv F) nb)), .int (nI (dfr (hv E) nb))]) (w' := w8 ((((((r1.bl, r1.co), (r1.po, r1.ha)), ((r1.nw, r1.gr), r1.go)), (((r1.tr, r1.rw), r1.nm), ((r1.fm, r1.oc), r1.ds))), ((((r1.ms, r1.wd), (r1.sc, r1.sd)), ((r1.ke, nI (m + 1)), r1.hs)), (((r1.gc, r1.nb), r1.fc), ((r1.de, r1.si), r1.th)))) : R8)) rfl rfl ?_
          have l1 := dfr_le (hv E) nb
          have l2 := dfr_le (hv F) nb
          refine G_icmp_leN (tgt := 132) (dfr (hv E) nb) (dfr (hv F) nb) dX8_makeHashes_125 (by decide) rfl rfl (by omega) (by omega) (fun h => ?_) (fun h => yes (Or.inr h))
          refine G_iconst (v := 0) dX8_makeHashes_132 (by decide) ?_
          refine G_istore_n (L' := [_, _, _, _, _]) dX8_makeHashes_133 (Nat.le_of_ble_eq_true rfl) rfl ?_
          refine G_iconst (v := 0) dX8_makeHashes_134 (by decide) ?_
          refine G_istore (L' := [_, _, _, _, _]) dX8_makeHashes_135 (Nat.le_of_ble_eq_true rfl) rfl ?_
          refine G_iload dX8_makeHashes_137 rfl ?_
          refine G_bipush (v := 72) dX8_makeHashes_139 (by decide) ?_
          refine G_icmp_geN (tgt := 168) 0 72 dX8_makeHashes_141 (by decide) rfl rfl (by omega) (by omega) (fun h => by omega) (fun _ => ?_)
          refine G_iload_n dX8_makeHashes_144 rfl ?_
          refine G_if_eq (tgt := 168) dX8_makeHashes_145 (by decide) (fun _ => ?_) (fun h => absurd rfl h)
          exact stop ((((((r1.bl, r1.co), (r1.po, r1.ha)), ((r1.nw, r1.gr), r1.go)), (((r1.tr, r1.rw), r1.nm), ((r1.fm, r1.oc), r1.ds))), ((((r1.ms, r1.wd), (r1.sc, r1.sd)), ((r1.ke, nI (m + 1)), r1.hs)), (((r1.gc, r1.nb), r1.fc), ((r1.de, r1.si), r1.th)))) : R8) F 0 _ hSm (Or.inr ⟨h2, m, dfr (hv F) nb, rfl, hRns, Or.inr ⟨E, dfr (hv E) nb, hRnd, cntIs_dfr, h⟩⟩) hF rfl (Or.inl rfl)
      exact news nb 0 r1 _ rfl (by omega) hSm hF (fun b j hb2 _ => by omega) hro
  have hN0 : hOk r.ha (fun i => ab_l ab_noBytes (i % 8)) 0 := fun b j hb2 _ => by omega
  have outer : ∀ (k e : Nat) (r1 : R8) (z3 : Option Value), nb - e = k → e ≤ nb → Sm r r1 → hOk r1.ha (fun i => ab_l ab_noBytes (i % 8)) e → (∀ j, j < 8 → r1.wd j = zx (ab_l ab_noBytes j)) → G ab_x0 mX8_makeHashes (d + 4) 0 0 (fun w' v => ∃ r', w' = w8 r' ∧ v = none ∧ Sm r r' ∧ r'.hs = 1 ∧ ∃ F R o rk st cn, Hd r' q nb nt F R o rk st cn) 23 [some (.ref 100), some (.int (nI nb)), some (.int (nI (e + 1))), z3, none] [] (w8 r1) := by
    intro k
    induction k using Nat.strongRecOn with
    | ind k ih =>
      intro e r1 z3 hk he hSm hF hwd
      refine G_iload_n dX8_makeHashes_23 rfl ?_
      refine G_iload_n dX8_makeHashes_24 rfl ?_
      refine G_icmp_gtN (tgt := 65) (e + 1) nb dX8_makeHashes_25 (by decide) rfl rfl (by omega) (by omega) (fun hgt => ?_) (fun hle => ?_)
      · have ee : e = nb := by omega
        subst ee
        refine G_aload_n dX8_makeHashes_65 rfl ?_
        refine G_iconst (v := 0) dX8_makeHashes_66 (by decide) ?_
        refine G_put (w' := w8 ((((((r1.bl, r1.co), (r1.po, r1.ha)), ((r1.nw, r1.gr), r1.go)), (((r1.tr, r1.rw), r1.nm), ((r1.fm, r1.oc), r1.ds))), ((((r1.ms, r1.wd), (r1.sc, r1.sd)), ((r1.ke, (nI 0)), r1.hs)), (((r1.gc, r1.nb), r1.fc), ((r1.de, r1.si), r1.th)))) : R8)) (f := 7) kc9 dX8_makeHashes_67 fX8_278 (by decide) rfl rfl rfl rfl (Nat.le_of_ble_eq_true rfl) rfl ?_
        refine G_iconst (v := 1) dX8_makeHashes_70 (by decide) ?_
        refine G_istore_n (L' := [_, _, _, _, _]) dX8_makeHashes_71 (Nat.le_of_ble_eq_true rfl) rfl ?_
        exact main _ 0 (fun i => ab_l ab_noBytes (i % 8)) ((((((r1.bl, r1.co), (r1.po, r1.ha)), ((r1.nw, r1.gr), r1.go)), (((r1.tr, r1.rw), r1.nm), ((r1.fm, r1.oc), r1.ds))), ((((r1.ms, r1.wd), (r1.sc, r1.sd)), ((r1.ke, nI 0), r1.hs)), (((r1.gc, r1.nb), r1.fc), ((r1.de, r1.si), r1.th)))) : R8) _ _ rfl hSm ⟨fun b j _ hj => by show ab_l ab_noBytes ((b * 8 + j) % 8) = _; rw [show (b * 8 + j) % 8 = j by omega], cntIs_dfr⟩ (fun _ => rfl) hF rfl (by omega)
      refine G_iconst (v := 0) dX8_makeHashes_28 (by decide) ?_
      refine G_istore_n (L' := [_, _, _, _, _]) dX8_makeHashes_29 (Nat.le_of_ble_eq_true rfl) rfl ?_
      have inner : ∀ (k2 i : Nat) (r1 : R8), 8 - i = k2 → i ≤ 8 → Sm r r1 → hOk r1.ha (fun i => ab_l ab_noBytes (i % 8)) e → (∀ j, j < i → r1.ha (8 * (e + 1) + j) = zx (ab_l ab_noBytes j)) → (∀ j, j < 8 → r1.wd j = zx (ab_l ab_noBytes j)) → G ab_x0 mX8_makeHashes (d + 4) 0 0 (fun w' v => ∃ r', w' = w8 r' ∧ v = none ∧ Sm r r' ∧ r'.hs = 1 ∧ ∃ F R o rk st cn, Hd r' q nb nt F R o rk st cn) 30 [some (.ref 100), some (.int (nI nb)), some (.int (nI (e + 1))), some (.int (nI i)), none] [] (w8 r1) := by
        intro k2
        induction k2 using Nat.strongRecOn with
        | ind k2 ih2 =>
          intro i r1 hk2 hi hSm hF hE hwd
          refine G_iload_n dX8_makeHashes_30 rfl ?_
          refine G_bipush (v := 8) dX8_makeHashes_31 (by decide) ?_
          refine G_icmp_geN (tgt := 59) i 8 dX8_makeHashes_33 (by decide) rfl rfl (by omega) (by omega) (fun hge => ?_) (fun hlt => ?_)
          · refine G_iinc (L' := [_, _, _, _, _]) (v := nI (e + 1 + 1)) dX8_makeHashes_59 rfl (nI_1 _) rfl ?_
            refine G_goto (tgt := 23) dX8_makeHashes_62 (by decide) ?_
            refine ih (nb - (e + 1)) (by omega) (e + 1) r1 _ rfl (by omega) hSm (fun b j hb2 hj => ?_) hwd
            by_cases eb : b = e
            · rw [eb, hE j (by omega)]
              show _ = zx (ab_l ab_noBytes ((e * 8 + j) % 8))
              rw [show (e * 8 + j) % 8 = j by omega]
            · exact hF b j (by omega) hj
          refine G_aload_n dX8_makeHashes_36 rfl ?_
          refine G_get (f := 5) kc9 dX8_makeHashes_37 fX8_155 (by decide) rfl rfl ?_
          refine G_bipush (v := 8) dX8_makeHashes_40 (by decide) ?_
          refine G_iload_n dX8_makeHashes_42 rfl ?_
          refine G_imul dX8_makeHashes_43 ?_
          refine G_topi (y := nI (8 * (e + 1))) (pk_mul 8 _) ?_
          refine G_iload_n dX8_makeHashes_44 rfl ?_
          refine G_iadd dX8_makeHashes_45 ?_
          refine G_topi (y := nI (8 * (e + 1) + i)) (nI_add _ _) ?_
          refine G_aload_n dX8_makeHashes_46 rfl ?_
          refine G_get (f := 23) kc9 dX8_makeHashes_47 fX8_189 (by decide) rfl rfl ?_
          refine G_iload_n dX8_makeHashes_50 rfl ?_
          refine G_laldN (i) dX8_makeHashes_51 rfl rfl (by omega) (by decide) ?_
          refine G_topl (hwd i hlt) ?_
          refine G_lastN (w' := w8 ((((((r1.bl, r1.co), (r1.po, vp_updL r1.ha (8 * (e + 1) + i) (zx (ab_l ab_noBytes i)))), ((r1.nw, r1.gr), r1.go)), (((r1.tr, r1.rw), r1.nm), ((r1.fm, r1.oc), r1.ds))), ((((r1.ms, r1.wd), (r1.sc, r1.sd)), ((r1.ke, r1.ro), r1.hs)), (((r1.gc, r1.nb), r1.fc), ((r1.de, r1.si), r1.th)))) : R8)) (8 * (e + 1) + i) dX8_makeHashes_52 rfl rfl (by omega) (by decide) rfl ?_
          refine G_iinc (L' := [_, _, _, _, _]) (v := nI (i + 1)) dX8_makeHashes_53 rfl (nI_1 _) rfl ?_
          refine G_goto (tgt := 30) dX8_makeHashes_56 (by decide) ?_
          refine ih2 (8 - (i + 1)) (by omega) (i + 1) ((((((r1.bl, r1.co), (r1.po, vp_updL r1.ha (8 * (e + 1) + i) (zx (ab_l ab_noBytes i)))), ((r1.nw, r1.gr), r1.go)), (((r1.tr, r1.rw), r1.nm), ((r1.fm, r1.oc), r1.ds))), ((((r1.ms, r1.wd), (r1.sc, r1.sd)), ((r1.ke, r1.ro), r1.hs)), (((r1.gc, r1.nb), r1.fc), ((r1.de, r1.si), r1.th)))) : R8) rfl (by omega) hSm (fun b j hb2 hj => ?_) (fun j hj => ?_) hwd
          · show vp_updL _ _ _ _ = _
            rw [pk_uLn (by omega)]; exact hF b j hb2 hj
          · show vp_updL _ _ _ _ = _
            by_cases ej : j = i
            · rw [ej, pk_uLs]
            · rw [pk_uLn (by omega)]; exact hE j (by omega)
      exact inner 8 0 r1 rfl (by omega) hSm hF (fun j hj => by omega) hwd
  refine G_aload_n dX8_makeHashes_0 rfl ?_
  refine G_get (f := 8) kc9 dX8_makeHashes_1 fX8_241 (by decide) rfl rfl ?_
  refine G_topi hs0 ?_
  refine G_if_eq (tgt := 8) dX8_makeHashes_4 (by decide) (fun _ => ?_) (fun h => absurd rfl h)
  refine G_aload_n dX8_makeHashes_8 rfl ?_
  refine G_get (f := 1) kc9 dX8_makeHashes_9 fX8_145 (by decide) rfl rfl ?_
  refine G_bipush (v := 8) dX8_makeHashes_12 (by decide) ?_
  refine G_ialdN (8) dX8_makeHashes_14 rfl rfl (by decide) (by decide) ?_
  refine G_topi hb ?_
  refine G_istore_n (L' := [_, _, _, _, _]) dX8_makeHashes_15 (Nat.le_of_ble_eq_true rfl) rfl ?_
  refine G_aload_n dX8_makeHashes_16 rfl ?_
  refine G_iconst (v := 0) dX8_makeHashes_17 (by decide) ?_
  refine G_V8 (as := [.int (nI 0)]) (st := []) cX8_makeHashes_18 (con8_digestOf _ r [] (by decide) (fun x hx => absurd hx List.not_mem_nil) (fun i hi => absurd hi (Nat.not_lt_zero i))) rfl rfl rfl rfl rfl (Nat.le_of_ble_eq_true rfl) dX8_makeHashes_18 (fun r2 v2 hq => ?_)
  obtain ⟨rfl, wd, sc, ms, rfl, hwd⟩ := hq
  refine G_w (st' := []) (w' := w8 ((((((r.bl, r.co), (r.po, r.ha)), ((r.nw, r.gr), r.go)), (((r.tr, r.rw), r.nm), ((r.fm, r.oc), r.ds))), ((((ms, wd), (sc, r.sd)), ((r.ke, r.ro), r.hs)), (((r.gc, r.nb), r.fc), ((r.de, r.si), r.th)))) : R8)) rfl rfl ?_
  refine G_iconst (v := 1) dX8_makeHashes_21 (by decide) ?_
  refine G_istore_n (L' := [_, _, _, _, _]) dX8_makeHashes_22 (Nat.le_of_ble_eq_true rfl) rfl ?_
  exact outer nb 0 ((((((r.bl, r.co), (r.po, r.ha)), ((r.nw, r.gr), r.go)), (((r.tr, r.rw), r.nm), ((r.fm, r.oc), r.ds))), ((((ms, wd), (sc, r.sd)), ((r.ke, r.ro), r.hs)), (((r.gc, r.nb), r.fc), ((r.de, r.si), r.th)))) : R8) none rfl (by omega) ⟨rfl, rfl, rfl, rfl, rfl, rfl, rfl, rfl, rfl, rfl, rfl⟩ (fun b j hb2 _ => by omega) (fun j hj => by rw [← dig_nil hj]; exact hwd j hj)
