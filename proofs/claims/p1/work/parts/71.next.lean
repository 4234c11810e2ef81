theorem neg_b {b : Nat} (hb : b < 8) : -(nI (b + 1)) = (-1 : Int32) - nI b := by
  revert b
  decide +kernel
theorem dR_len (F : Nat → Int32) (b K : Nat) : (dR F b K).length ≤ 99 := preR_len F b K 3
theorem DSl_kept {ds ds' : Nat → Int32} {s d : Nat} {l : List Int32} (h : DSl ds d l) (hl : l.length ≤ 99) (hd : d < s) (hk : ∀ j, (j < 128 * s ∨ 128 * (s + 1) ≤ j) → ds' j = ds j) : DSl ds' d l := ⟨by rw [hk _ (by omega)]; exact h.1, fun i hi => by rw [hk _ (by omega)]; exact h.2 i hi⟩
/-- the slots hold the descriptions l -/
def SL (F : Nat → Int32) (nb b : Nat) (rk : Nat → Nat) (ds : Nat → Int32) (l : List Nat) : Prop := ∀ d, d < l.length → ∃ K, keyK K nb ∧ l.getD d 0 = dsc b rk K ∧ DSl ds d (dR F b K)
theorem SL_add {F : Nat → Int32} {nb b K : Nat} {rk : Nat → Nat} {ds ds' : Nat → Int32} {l : List Nat} (h : SL F nb b rk ds l) (hK : keyK K nb) (hd : DSl ds' l.length (dR F b K)) (hk : ∀ j, (j < 128 * l.length ∨ 128 * (l.length + 1) ≤ j) → ds' j = ds j) : SL F nb b rk ds' (l ++ [dsc b rk K]) := by
  intro d hdl
  rw [List.length_append, List.length_singleton] at hdl
  by_cases e : d = l.length
  · refine ⟨K, hK, ?_, e ▸ hd⟩
    rw [e, List.getD_eq_getElem?_getD, List.getElem?_append_right (Nat.le_refl _), Nat.sub_self]
    rfl
  · obtain ⟨K', h1, h2, h3⟩ := h d (by omega)
    refine ⟨K', h1, ?_, DSl_kept h3 (dR_len _ _ _) (by omega) hk⟩
    rw [← h2, List.getD_eq_getElem?_getD, List.getD_eq_getElem?_getD, List.getElem?_append_left (by omega)]
theorem key_pts {f : Nat → Int32} {q : Nat → Nat} {nt nb base i : Nat} (h : pts f base q nt nb) (hi : i < nt) : keyK (q i) nb := ⟨(h i hi).1, fun p hp => ⟨((h i hi).2 p hp).2.2.1, ((h i hi).2 p hp).2.2.2⟩⟩
theorem fm_len {α : Type} (f : α → List Int32) : ∀ (l : List α), (∀ x ∈ l, (f x).length ≤ 99) → (l.flatMap f).length ≤ 99 * l.length
  | [], _ => Nat.le_refl _
  | x :: l, h => by
    rw [List.flatMap_cons, List.length_append, List.length_cons]
    have := h x (List.mem_cons_self ..)
    have := fm_len f l (fun y hy => h y (List.mem_cons_of_mem _ hy))
    omega
theorem take_s {l : List Int32} {i : Nat} (h : i < l.length) : l.take (i + 1) = l.take i ++ [l.getD i 0] := by
  rw [List.take_add_one, List.getElem?_eq_getElem h, List.getD_eq_getElem?_getD, List.getElem?_eq_getElem h]
  rfl
set_option maxRecDepth 20000 in
set_option maxHeartbeats 8000000 in
theorem con8_next (d nb nt b : Nat) (hnb : nb ≤ 8) (hnt : nt ≤ 40) (hb : b < nb) (r : R8) (hc : r.co 8 = nI nt) (q : Nat → Nat) (hp : pts r.po 960 q nt nb) (F : Nat → Int32) (hF : hOk r.ha F nb) (o rk st : Nat → Nat) (cn : Nat) (hG : GP (hv F) nb o rk st cn) : Con mX8_next (d + 3) 0 0 (w8 r) [.ref 100, .int (nI (b + 1))] (fun w' v => ∃ r', w' = w8 r' ∧ v = none ∧ ∃ ds ms sd wd sc nw si de, r' = ((((((r.bl, r.co), (r.po, r.ha)), ((nw, r.gr), r.go)), (((r.tr, r.rw), r.nm), ((r.fm, r.oc), ds))), ((((ms, wd), (sc, sd)), ((r.ke, r.ro), r.hs)), (((r.gc, r.nb), r.fc), ((de, si), r.th)))) : R8) ∧ (∀ j, j < 8 → nw (8 * (b + 1) + j) = zx (dig (msgB F (fun g => o (st g)) rk q nt b) j)) ∧ ∀ j, (j < 8 * (b + 1) ∨ 8 * (b + 2) ≤ j) → nw j = r.nw j) := by
  refine Con.of (ab_okc rfl (by decide)) (Nat.le_of_ble_eq_true rfl) ?_
  show G ab_x0 mX8_next (d + 3) 0 0 _ 0 [some (.ref 100), some (.int (nI (b + 1))), none, none, none] [] _
  have hr := gp_rkOk hnb hG
  obtain ⟨dl, hdl⟩ : ∃ z, z = dls b rk q nt := ⟨_, rfl⟩
  have hM : dl.length ≤ nt := by rw [hdl]; exact dls_len b rk q nt
  have hbl : F (o (st (rk b)) * 8 + 0) = F (b * 8 + 0) ∧ hbs F (o (st (rk b))) 8 0 = hbs F b 8 0 := by
    obtain ⟨g1, g2, g3, g4', g5, g6, g7, g8, g9⟩ := id hG
    have hrb := g4' _ hb
    have hs := (g6 _ hrb).2
    have hlt : st (rk b) < nb := by
      have h1 := (g6 _ hrb).1
      have h2 := gp_le hG (g := rk b + 1) (by omega)
      omega
    have ho := g1 _ hlt
    have q1 := g3 _ _ ho hb
    have q2 := g3 _ _ hb ho
    have e : hv F (o (st (rk b))) = hv F b := by omega
    exact ⟨hvx_eq.mp e 0 (by omega), hbs_eq (fun j hj => by rw [Nat.zero_add]; exact hvx_eq.mp e j hj)⟩
  have hmsg : msgB F (fun g => o (st g)) rk q nt b = hbs F b 8 0 ++ (srtN dl).flatMap (dsB F (fun g => o (st g))) := by
    unfold msgB
    rw [← hdl]
    congr 1
    unfold pcB
    rw [if_neg (by omega), if_neg (by omega), show 1002 + rk b - 1002 = rk b by omega]
    exact hbl.2
  have dsl : ∀ x ∈ dl, ∃ K, keyK K nb ∧ x = dsc b rk K ∧ dsB F (fun g => o (st g)) x = dR F b K := fun x hx => by
    rw [hdl] at hx
    obtain ⟨i, hi, rfl⟩ := dls_mem hx
    exact ⟨q i, key_pts hp hi, rfl, dsB_dR hnb hG (key_pts hp hi)⟩
  have small : ∀ E : List Nat, (∀ x ∈ E, x ∈ dl) → (E.flatMap (dsB F (fun g => o (st g)))).length ≤ 99 * E.length ∧ ∀ y ∈ hbs F b 8 0 ++ E.flatMap (dsB F (fun g => o (st g))), uw y < 256 := fun E hE => by
    refine ⟨fm_len _ E (fun x hx => ?_), fun y hy => ?_⟩
    · obtain ⟨K, _, _, e⟩ := dsl x (hE x hx)
      rw [e]
      exact dR_len _ _ _
    · rcases List.mem_append.mp hy with h | h
      · rw [hbs32] at h
        obtain ⟨j, _, rfl⟩ := List.mem_map.mp h
        exact g4_lt _ _
      · obtain ⟨x, hx, hy2⟩ := List.mem_flatMap.mp h
        obtain ⟨K, _, _, e⟩ := dsl x (hE x hx)
        rw [e] at hy2
        exact preR_lt _ _ _ 3 y hy2
  have loopE : ∀ (m j : Nat) (ds ms sd : Nat → Int32) (wd sc nw : Nat → Int64) (si de : Int32) (z3 z4 : Option Value), 8 - j = m → j ≤ 8 → (∀ j, j < 8 → wd j = zx (dig (msgB F (fun g => o (st g)) rk q nt b) j)) → (∀ i, i < j → nw (8 * (b + 1) + i) = zx (dig (msgB F (fun g => o (st g)) rk q nt b) i)) → (∀ i, (i < 8 * (b + 1) ∨ 8 * (b + 2) ≤ i) → nw i = r.nw i) → G ab_x0 mX8_next (d + 3) 0 0 (fun w' v => ∃ r', w' = w8 r' ∧ v = none ∧ ∃ ds ms sd wd sc nw si de, r' = ((((((r.bl, r.co), (r.po, r.ha)), ((nw, r.gr), r.go)), (((r.tr, r.rw), r.nm), ((r.fm, r.oc), ds))), ((((ms, wd), (sc, sd)), ((r.ke, r.ro), r.hs)), (((r.gc, r.nb), r.fc), ((de, si), r.th)))) : R8) ∧ (∀ j, j < 8 → nw (8 * (b + 1) + j) = zx (dig (msgB F (fun g => o (st g)) rk q nt b) j)) ∧ ∀ j, (j < 8 * (b + 1) ∨ 8 * (b + 2) ≤ j) → nw j = r.nw j) 252 [some (.ref 100), some (.int (nI (b + 1))), some (.int (nI j)), z3, z4] [] (w8 ((((((r.bl, r.co), (r.po, r.ha)), ((nw, r.gr), r.go)), (((r.tr, r.rw), r.nm), ((r.fm, r.oc), ds))), ((((ms, wd), (sc, sd)), ((r.ke, r.ro), r.hs)), (((r.gc, r.nb), r.fc), ((de, si), r.th)))) : R8)) := by
    intro m
    induction m using Nat.strongRecOn with
    | ind m ih =>
      intro j ds ms sd wd sc nw si de z3 z4 hm hj hwd h1 h2
      refine G_iload_n dX8_next_252 rfl ?_
      refine G_bipush (v := 8) dX8_next_253 (by decide) ?_
      refine G_icmp_geN (tgt := 281) j 8 dX8_next_255 (by decide) rfl rfl (by omega) (by omega) (fun hge => ?_) (fun hlt => ?_)
      · exact G_ret (v := none) ⟨dX8_next_281, rfl⟩ ⟨_, rfl, rfl, ds, ms, sd, wd, sc, nw, si, de, rfl, fun i hi => h1 i (by omega), h2⟩
      refine G_aload_n dX8_next_258 rfl ?_
      refine G_get (f := 6) kc9 dX8_next_259 fX8_158 (by decide) rfl rfl ?_
      refine G_bipush (v := 8) dX8_next_262 (by decide) ?_
      refine G_iload_n dX8_next_264 rfl ?_
      refine G_imul dX8_next_265 ?_
      refine G_topi (y := nI (8 * (b + 1))) (pk_mul 8 _) ?_
      refine G_iload_n dX8_next_266 rfl ?_
      refine G_iadd dX8_next_267 ?_
      refine G_topi (y := nI (8 * (b + 1) + j)) (nI_add _ _) ?_
      refine G_aload_n dX8_next_268 rfl ?_
      refine G_get (f := 23) kc9 dX8_next_269 fX8_189 (by decide) rfl rfl ?_
      refine G_iload_n dX8_next_272 rfl ?_
      refine G_laldN (j) dX8_next_273 rfl rfl (by omega) (by decide) ?_
      refine G_topl (hwd j hlt) ?_
      refine G_lastN (w' := w8 ((((((r.bl, r.co), (r.po, r.ha)), ((vp_updL nw (8 * (b + 1) + j) (zx (dig (msgB F (fun g => o (st g)) rk q nt b) j)), r.gr), r.go)), (((r.tr, r.rw), r.nm), ((r.fm, r.oc), ds))), ((((ms, wd), (sc, sd)), ((r.ke, r.ro), r.hs)), (((r.gc, r.nb), r.fc), ((de, si), r.th)))) : R8)) (8 * (b + 1) + j) dX8_next_274 rfl rfl (by omega) (by decide) rfl ?_
      refine G_iinc (L' := [_, _, _, _, _]) (v := nI (j + 1)) dX8_next_275 rfl (nI_1 _) rfl ?_
      refine G_goto (tgt := 252) dX8_next_278 (by decide) ?_
      refine ih (8 - (j + 1)) (by omega) (j + 1) ds ms sd wd sc _ si de _ _ rfl (by omega) hwd (fun i hi => ?_) (fun i hi => ?_)
      · by_cases e : i = j
        · rw [e, pk_uLs]
        · rw [pk_uLn (by omega)]; exact h1 i (by omega)
      · rw [pk_uLn (by omega)]; exact h2 i hi
  have loopD : ∀ (m n : Nat) (E : List Nat) (ds ms sd : Nat → Int32) (si : Int32) (z3 z4 : Option Value), dl.length - n = m → n ≤ dl.length → E.length = n → Sel dl E sd → (∀ d, sd d = 0 ∨ sd d = 1 ∨ dl.length ≤ d) → SL F nb b rk ds dl → MS ((((((r.bl, r.co), (r.po, r.ha)), ((r.nw, r.gr), r.go)), (((r.tr, r.rw), r.nm), ((r.fm, r.oc), ds))), ((((ms, r.wd), (r.sc, sd)), ((r.ke, r.ro), r.hs)), (((r.gc, r.nb), r.fc), (((nI dl.length), si), r.th)))) : R8) (hbs F b 8 0 ++ E.flatMap (dsB F (fun g => o (st g)))) → G ab_x0 mX8_next (d + 3) 0 0 (fun w' v => ∃ r', w' = w8 r' ∧ v = none ∧ ∃ ds ms sd wd sc nw si de, r' = ((((((r.bl, r.co), (r.po, r.ha)), ((nw, r.gr), r.go)), (((r.tr, r.rw), r.nm), ((r.fm, r.oc), ds))), ((((ms, wd), (sc, sd)), ((r.ke, r.ro), r.hs)), (((r.gc, r.nb), r.fc), ((de, si), r.th)))) : R8) ∧ (∀ j, j < 8 → nw (8 * (b + 1) + j) = zx (dig (msgB F (fun g => o (st g)) rk q nt b) j)) ∧ ∀ j, (j < 8 * (b + 1) ∨ 8 * (b + 2) ≤ j) → nw j = r.nw j) 133 [some (.ref 100), some (.int (nI (b + 1))), some (.int (nI n)), z3, z4] [] (w8 ((((((r.bl, r.co), (r.po, r.ha)), ((r.nw, r.gr), r.go)), (((r.tr, r.rw), r.nm), ((r.fm, r.oc), ds))), ((((ms, r.wd), (r.sc, sd)), ((r.ke, r.ro), r.hs)), (((r.gc, r.nb), r.fc), (((nI dl.length), si), r.th)))) : R8)) := by
    intro m
    induction m using Nat.strongRecOn with
    | ind m ih =>
      intro n E ds ms sd si z3 z4 hm hn hE hS h01 hSL hMS
      have hEd : ∀ x ∈ E, x ∈ dl := fun x hx => hS.1.subset (List.mem_append_left _ hx)
      obtain ⟨hsm1, hsm2⟩ := small E hEd
      have hml : (hbs F b 8 0 ++ E.flatMap (dsB F (fun g => o (st g)))).length ≤ 32 + 99 * n := by rw [List.length_append, hbs_len]; omega
      refine G_iload_n dX8_next_133 rfl ?_
      refine G_aload_n dX8_next_134 rfl ?_
      refine G_get (f := 20) kc9 dX8_next_135 fX8_257 (by decide) rfl rfl ?_
      refine G_icmp_geN (tgt := 242) n dl.length dX8_next_138 (by decide) rfl rfl (by omega) (by omega) (fun hge => ?_) (fun hlt => ?_)
      · have en : n = dl.length := by omega
        subst en
        rw [Sel_end hS hE, ← hmsg] at hMS
        rw [Sel_end hS hE, ← hmsg] at hsm2 hml
        refine G_aload_n dX8_next_242 rfl ?_
        refine G_aload_n dX8_next_243 rfl ?_
        refine G_get (f := 22) kc9 dX8_next_244 fX8_235 (by decide) rfl rfl ?_
        refine G_topi hMS.1 ?_
        refine G_V8 (as := [.int (nI (msgB F (fun g => o (st g)) rk q nt b).length)]) (st := []) cX8_next_247 (con8_digestOf d ((((((r.bl, r.co), (r.po, r.ha)), ((r.nw, r.gr), r.go)), (((r.tr, r.rw), r.nm), ((r.fm, r.oc), ds))), ((((ms, r.wd), (r.sc, sd)), ((r.ke, r.ro), r.hs)), (((r.gc, r.nb), r.fc), (((nI dl.length), si), r.th)))) : R8) (msgB F (fun g => o (st g)) rk q nt b) (by omega) hsm2 hMS.2) rfl rfl rfl rfl rfl (Nat.le_of_ble_eq_true rfl) dX8_next_247 (fun r2 v2 hq => ?_)
        obtain ⟨rfl, wd, sc, ms2, rfl, hwd⟩ := hq
        refine G_w (st' := []) (w' := w8 ((((((r.bl, r.co), (r.po, r.ha)), ((r.nw, r.gr), r.go)), (((r.tr, r.rw), r.nm), ((r.fm, r.oc), ds))), ((((ms2, wd), (sc, sd)), ((r.ke, r.ro), r.hs)), (((r.gc, r.nb), r.fc), (((nI dl.length), si), r.th)))) : R8)) rfl rfl ?_
        refine G_iconst (v := 0) dX8_next_250 (by decide) ?_
        refine G_istore_n (L' := [_, _, _, _, _]) dX8_next_251 (Nat.le_of_ble_eq_true rfl) rfl ?_
        exact loopE 8 0 ds ms2 sd wd sc r.nw si _ _ _ rfl (by omega) hwd (fun i hi => by omega) (fun i _ => rfl)
      refine G_iconst (v := (-1)) dX8_next_141 (by decide) ?_
      refine G_istore_n (L' := [_, _, _, _, _]) dX8_next_142 (Nat.le_of_ble_eq_true rfl) rfl ?_
      refine G_iconst (v := 0) dX8_next_143 (by decide) ?_
      refine G_istore (L' := [_, _, _, _, _]) dX8_next_144 (Nat.le_of_ble_eq_true rfl) rfl ?_
      have sel : ∀ (m2 e : Nat) (lv : Int32), dl.length - e = m2 → e ≤ dl.length → ((lv = -1 ∧ ∀ e', e' < e → sd e' ≠ 0) ∨ ∃ e0, lv = nI e0 ∧ e0 < e ∧ sd e0 = 0 ∧ ∀ e', e' < e → sd e' = 0 → dl.getD e0 0 ≤ dl.getD e' 0) → G ab_x0 mX8_next (d + 3) 0 0 (fun w' v => ∃ r', w' = w8 r' ∧ v = none ∧ ∃ ds ms sd wd sc nw si de, r' = ((((((r.bl, r.co), (r.po, r.ha)), ((nw, r.gr), r.go)), (((r.tr, r.rw), r.nm), ((r.fm, r.oc), ds))), ((((ms, wd), (sc, sd)), ((r.ke, r.ro), r.hs)), (((r.gc, r.nb), r.fc), ((de, si), r.th)))) : R8) ∧ (∀ j, j < 8 → nw (8 * (b + 1) + j) = zx (dig (msgB F (fun g => o (st g)) rk q nt b) j)) ∧ ∀ j, (j < 8 * (b + 1) ∨ 8 * (b + 2) ≤ j) → nw j = r.nw j) 146 [some (.ref 100), some (.int (nI (b + 1))), some (.int (nI n)), some (.int lv), some (.int (nI e))] [] (w8 ((((((r.bl, r.co), (r.po, r.ha)), ((r.nw, r.gr), r.go)), (((r.tr, r.rw), r.nm), ((r.fm, r.oc), ds))), ((((ms, r.wd), (r.sc, sd)), ((r.ke, r.ro), r.hs)), (((r.gc, r.nb), r.fc), (((nI dl.length), si), r.th)))) : R8)) := by
        intro m2
        induction m2 using Nat.strongRecOn with
        | ind m2 ih2 =>
          intro e lv hm2 he hlv
          refine G_iload dX8_next_146 rfl ?_
          refine G_aload_n dX8_next_148 rfl ?_
          refine G_get (f := 20) kc9 dX8_next_149 fX8_257 (by decide) rfl rfl ?_
          refine G_icmp_geN (tgt := 188) e dl.length dX8_next_152 (by decide) rfl rfl (by omega) (by omega) (fun hge2 => ?_) (fun hlt2 => ?_)
          · have ee : e = dl.length := by omega
            subst ee
            obtain ⟨e0, rfl, he0, hz, hmin⟩ : ∃ e0, lv = nI e0 ∧ e0 < dl.length ∧ sd e0 = 0 ∧ ∀ e', e' < dl.length → sd e' = 0 → dl.getD e0 0 ≤ dl.getD e' 0 := by
              rcases hlv with ⟨_, hno⟩ | h
              · obtain ⟨d0, h1, h2⟩ := Sel_more hS (by omega)
                exact absurd h2 (hno d0 h1)
              · exact h
            obtain ⟨K, hK, hKd, hDS⟩ := hSL e0 he0
            have hdm : dl.getD e0 0 ∈ dl := by rw [List.getD_eq_getElem?_getD, List.getElem?_eq_getElem he0]; exact List.getElem_mem he0
            have hdB : dsB F (fun g => o (st g)) (dl.getD e0 0) = dR F b K := by rw [hKd]; exact dsB_dR hnb hG hK
            have hS2 := Sel_say hS he0 hz hmin
            have hKl := dR_len F b K
            refine G_aload_n dX8_next_188 rfl ?_
            refine G_get (f := 26) kc9 dX8_next_189 fX8_195 (by decide) rfl rfl ?_
            refine G_iload_n dX8_next_192 rfl ?_
            refine G_iconst (v := 1) dX8_next_193 (by decide) ?_
            refine G_zastN (w' := w8 ((((((r.bl, r.co), (r.po, r.ha)), ((r.nw, r.gr), r.go)), (((r.tr, r.rw), r.nm), ((r.fm, r.oc), ds))), ((((ms, r.wd), (r.sc, upd sd e0 1)), ((r.ke, r.ro), r.hs)), (((r.gc, r.nb), r.fc), (((nI dl.length), si), r.th)))) : R8)) (e0) dX8_next_194 rfl rfl (by omega) (by decide) rfl ?_
            refine G_iconst (v := 1) dX8_next_195 (by decide) ?_
            refine G_istore (L' := [_, _, _, _, _]) dX8_next_196 (Nat.le_of_ble_eq_true rfl) rfl ?_
            have sayl : ∀ (m3 i : Nat) (ms : Nat → Int32) (si : Int32), (dR F b K).length - i = m3 → i ≤ (dR F b K).length → MS ((((((r.bl, r.co), (r.po, r.ha)), ((r.nw, r.gr), r.go)), (((r.tr, r.rw), r.nm), ((r.fm, r.oc), ds))), ((((ms, r.wd), (r.sc, upd sd e0 1)), ((r.ke, r.ro), r.hs)), (((r.gc, r.nb), r.fc), (((nI dl.length), si), r.th)))) : R8) ((hbs F b 8 0 ++ E.flatMap (dsB F (fun g => o (st g)))) ++ (dR F b K).take i) → G ab_x0 mX8_next (d + 3) 0 0 (fun w' v => ∃ r', w' = w8 r' ∧ v = none ∧ ∃ ds ms sd wd sc nw si de, r' = ((((((r.bl, r.co), (r.po, r.ha)), ((nw, r.gr), r.go)), (((r.tr, r.rw), r.nm), ((r.fm, r.oc), ds))), ((((ms, wd), (sc, sd)), ((r.ke, r.ro), r.hs)), (((r.gc, r.nb), r.fc), ((de, si), r.th)))) : R8) ∧ (∀ j, j < 8 → nw (8 * (b + 1) + j) = zx (dig (msgB F (fun g => o (st g)) rk q nt b) j)) ∧ ∀ j, (j < 8 * (b + 1) ∨ 8 * (b + 2) ≤ j) → nw j = r.nw j) 198 [some (.ref 100), some (.int (nI (b + 1))), some (.int (nI n)), some (.int (nI e0)), some (.int (nI (i + 1)))] [] (w8 ((((((r.bl, r.co), (r.po, r.ha)), ((r.nw, r.gr), r.go)), (((r.tr, r.rw), r.nm), ((r.fm, r.oc), ds))), ((((ms, r.wd), (r.sc, upd sd e0 1)), ((r.ke, r.ro), r.hs)), (((r.gc, r.nb), r.fc), (((nI dl.length), si), r.th)))) : R8)) := by
              intro m3
              induction m3 using Nat.strongRecOn with
              | ind m3 ih3 =>
                intro i ms si hm3 hi hMS3
                refine G_iload dX8_next_198 rfl ?_
                refine G_aload_n dX8_next_200 rfl ?_
                refine G_get (f := 19) kc9 dX8_next_201 fX8_183 (by decide) rfl rfl ?_
                refine G_sipush (v := 128) dX8_next_204 (by decide) ?_
                refine G_iload_n dX8_next_207 rfl ?_
                refine G_imul dX8_next_208 ?_
                refine G_ialdN (128 * e0) dX8_next_209 rfl (pk_mul 128 e0) (by omega) (by decide) ?_
                refine G_topi hDS.1 ?_
                refine G_icmp_gtN (tgt := 236) (i + 1) (dR F b K).length dX8_next_210 (by decide) rfl rfl (by omega) (by omega) (fun hgt3 => ?_) (fun hle3 => ?_)
                · have ei : i = (dR F b K).length := by omega
                  subst ei
                  refine G_iinc (L' := [_, _, _, _, _]) (v := nI (n + 1)) dX8_next_236 rfl (nI_1 _) rfl ?_
                  refine G_goto (tgt := 133) dX8_next_239 (by decide) ?_
                  refine ih (dl.length - (n + 1)) (by omega) (n + 1) (E ++ [dl.getD e0 0]) ds ms _ si _ _ rfl (by omega) (by rw [List.length_append, hE]; rfl) hS2 (fun d => ?_) hSL ?_
                  · by_cases ed : d = e0
                    · rw [ed, pk_us]; exact Or.inr (Or.inl rfl)
                    · rw [pk_un ed]; exact h01 d
                  · rw [List.flatMap_append, List.flatMap_singleton, hdB, ← List.append_assoc]
                    rw [List.take_length] at hMS3
                    exact hMS3
                refine G_aload_n dX8_next_213 rfl ?_
                refine G_aload_n dX8_next_214 rfl ?_
                refine G_get (f := 19) kc9 dX8_next_215 fX8_183 (by decide) rfl rfl ?_
                refine G_sipush (v := 128) dX8_next_218 (by decide) ?_
                refine G_iload_n dX8_next_221 rfl ?_
                refine G_imul dX8_next_222 ?_
                refine G_topi (y := nI (128 * e0)) (pk_mul 128 e0) ?_
                refine G_iload dX8_next_223 rfl ?_
                refine G_iadd dX8_next_225 ?_
                refine G_ialdN (128 * e0 + 1 + i) dX8_next_226 rfl ((nI_add _ _).trans (congrArg nI (by omega))) (by omega) (by decide) ?_
                refine G_topi (hDS.2 i (by omega)) ?_
                have hxm : (dR F b K).getD i 0 ∈ dR F b K := by rw [List.getD_eq_getElem?_getD, List.getElem?_eq_getElem (by omega)]; exact List.getElem_mem _
                have hx := preR_lt F b K 3 _ hxm
                refine G_V8 (as := [.int ((dR F b K).getD i 0)]) (st := []) cX8_next_227 (con8_say _ ((((((r.bl, r.co), (r.po, r.ha)), ((r.nw, r.gr), r.go)), (((r.tr, r.rw), r.nm), ((r.fm, r.oc), ds))), ((((ms, r.wd), (r.sc, upd sd e0 1)), ((r.ke, r.ro), r.hs)), (((r.gc, r.nb), r.fc), (((nI dl.length), si), r.th)))) : R8) _ hMS3 (by rw [List.length_append, List.length_take]; omega) ((dR F b K).getD i 0)) rfl rfl rfl rfl rfl (Nat.le_of_ble_eq_true rfl) dX8_next_227 (fun r2 v2 hq => ?_)
                obtain ⟨rfl, ms2, rfl, hMS4⟩ := hq
                rw [Nat.mod_eq_of_lt hx, nI_uw, show ((hbs F b 8 0 ++ E.flatMap (dsB F (fun g => o (st g)))) ++ (dR F b K).take i) ++ [(dR F b K).getD i 0] = (hbs F b 8 0 ++ E.flatMap (dsB F (fun g => o (st g)))) ++ (dR F b K).take (i + 1) from by rw [List.append_assoc _ _ [(dR F b K).getD i 0], ← take_s (l := dR F b K) (i := i) (by omega)]] at hMS4
                refine G_w (st' := []) (w' := w8 ((((((r.bl, r.co), (r.po, r.ha)), ((r.nw, r.gr), r.go)), (((r.tr, r.rw), r.nm), ((r.fm, r.oc), ds))), ((((ms2, r.wd), (r.sc, upd sd e0 1)), ((r.ke, r.ro), r.hs)), (((r.gc, r.nb), r.fc), (((nI dl.length), (nI (((hbs F b 8 0 ++ E.flatMap (dsB F (fun g => o (st g)))) ++ (dR F b K).take i).length + 1))), r.th)))) : R8)) rfl rfl ?_
                refine G_iinc (L' := [_, _, _, _, _]) (v := nI (i + 1 + 1)) dX8_next_230 rfl (nI_1 _) rfl ?_
                refine G_goto (tgt := 198) dX8_next_233 (by decide) ?_
                exact ih3 ((dR F b K).length - (i + 1)) (by omega) (i + 1) ms2 _ rfl (by omega) hMS4
            refine sayl _ 0 ms si rfl (by omega) ?_
            rw [List.take_zero, List.append_nil]
            exact hMS
          have next : ∀ lv', ((lv' = -1 ∧ ∀ e', e' < e + 1 → sd e' ≠ 0) ∨ ∃ e0, lv' = nI e0 ∧ e0 < e + 1 ∧ sd e0 = 0 ∧ ∀ e', e' < e + 1 → sd e' = 0 → dl.getD e0 0 ≤ dl.getD e' 0) → G ab_x0 mX8_next (d + 3) 0 0 (fun w' v => ∃ r', w' = w8 r' ∧ v = none ∧ ∃ ds ms sd wd sc nw si de, r' = ((((((r.bl, r.co), (r.po, r.ha)), ((nw, r.gr), r.go)), (((r.tr, r.rw), r.nm), ((r.fm, r.oc), ds))), ((((ms, wd), (sc, sd)), ((r.ke, r.ro), r.hs)), (((r.gc, r.nb), r.fc), ((de, si), r.th)))) : R8) ∧ (∀ j, j < 8 → nw (8 * (b + 1) + j) = zx (dig (msgB F (fun g => o (st g)) rk q nt b) j)) ∧ ∀ j, (j < 8 * (b + 1) ∨ 8 * (b + 2) ≤ j) → nw j = r.nw j) 182 [some (.ref 100), some (.int (nI (b + 1))), some (.int (nI n)), some (.int lv'), some (.int (nI e))] [] (w8 ((((((r.bl, r.co), (r.po, r.ha)), ((r.nw, r.gr), r.go)), (((r.tr, r.rw), r.nm), ((r.fm, r.oc), ds))), ((((ms, r.wd), (r.sc, sd)), ((r.ke, r.ro), r.hs)), (((r.gc, r.nb), r.fc), (((nI dl.length), si), r.th)))) : R8)) := by
            intro lv' h
            refine G_iinc (L' := [_, _, _, _, _]) (v := nI (e + 1)) dX8_next_182 rfl (nI_1 _) rfl ?_
            refine G_goto (tgt := 146) dX8_next_185 (by decide) ?_
            exact ih2 (dl.length - (e + 1)) (by omega) (e + 1) lv' rfl (by omega) h
          have takes : sd e = 0 → (∀ e', e' < e → sd e' = 0 → dl.getD e 0 ≤ dl.getD e' 0) → G ab_x0 mX8_next (d + 3) 0 0 (fun w' v => ∃ r', w' = w8 r' ∧ v = none ∧ ∃ ds ms sd wd sc nw si de, r' = ((((((r.bl, r.co), (r.po, r.ha)), ((nw, r.gr), r.go)), (((r.tr, r.rw), r.nm), ((r.fm, r.oc), ds))), ((((ms, wd), (sc, sd)), ((r.ke, r.ro), r.hs)), (((r.gc, r.nb), r.fc), ((de, si), r.th)))) : R8) ∧ (∀ j, j < 8 → nw (8 * (b + 1) + j) = zx (dig (msgB F (fun g => o (st g)) rk q nt b) j)) ∧ ∀ j, (j < 8 * (b + 1) ∨ 8 * (b + 2) ≤ j) → nw j = r.nw j) 179 [some (.ref 100), some (.int (nI (b + 1))), some (.int (nI n)), some (.int lv), some (.int (nI e))] [] (w8 ((((((r.bl, r.co), (r.po, r.ha)), ((r.nw, r.gr), r.go)), (((r.tr, r.rw), r.nm), ((r.fm, r.oc), ds))), ((((ms, r.wd), (r.sc, sd)), ((r.ke, r.ro), r.hs)), (((r.gc, r.nb), r.fc), (((nI dl.length), si), r.th)))) : R8)) := by
            intro hz h
            refine G_iload dX8_next_179 rfl ?_
            refine G_istore_n (L' := [_, _, _, _, _]) dX8_next_181 (Nat.le_of_ble_eq_true rfl) rfl ?_
            refine next (nI e) (Or.inr ⟨e, rfl, by omega, hz, fun e' he' hz' => ?_⟩)
            by_cases ee : e' = e
            · rw [ee]; exact Nat.le_refl _
            · exact h e' (by omega) hz'
          refine G_aload_n dX8_next_155 rfl ?_
          refine G_get (f := 26) kc9 dX8_next_156 fX8_195 (by decide) rfl rfl ?_
          refine G_iload dX8_next_159 rfl ?_
          refine G_zaldN (e) dX8_next_161 rfl rfl (by omega) (by decide) ?_
          refine G_if_ne (tgt := 182) dX8_next_162 (by decide) (fun hnz => ?_) (fun hz => ?_)
          · refine next lv ?_
            rcases hlv with ⟨h1, h2⟩ | ⟨e0, h1, h2, h3, h4⟩
            · refine Or.inl ⟨h1, fun e' he' => ?_⟩
              by_cases ee : e' = e
              · rw [ee]; exact hnz
              · exact h2 e' (by omega)
            · refine Or.inr ⟨e0, h1, by omega, h3, fun e' he' hz' => ?_⟩
              by_cases ee : e' = e
              · rw [ee] at hz'; exact absurd hz' hnz
              · exact h4 e' (by omega) hz'
          replace hz : sd e = 0 := by
            first | exact hz | exact Decidable.not_not.mp hz
          refine G_iload_n dX8_next_165 rfl ?_
          rcases hlv with ⟨rfl, h2⟩ | ⟨e0, rfl, h2, h3, h4⟩
          · refine G_if_lt (tgt := 179) dX8_next_166 (by decide) (fun _ => ?_) (fun h => absurd (by decide) h)
            exact takes hz (fun e' he' hz' => absurd hz' (h2 e' he'))
          refine G_if_lt (tgt := 179) dX8_next_166 (by decide) (fun h => absurd h (nI_pos (by omega))) (fun _ => ?_)
          obtain ⟨Ka, hKa, hKad, hDa⟩ := hSL e (by omega)
          obtain ⟨Kb, hKb, hKbd, hDb⟩ := hSL e0 (by omega)
          have hcmp := (dR_cmp (b := b) hr hKa hKb).1
          rw [← hKad, ← hKbd] at hcmp
          have la := dR_len F b Ka
          have lb := dR_len F b Kb
          refine G_aload_n dX8_next_169 rfl ?_
          refine G_iload dX8_next_170 rfl ?_
          refine G_iload_n dX8_next_172 rfl ?_
          refine G_V8 (as := [.int (nI e), .int (nI e0)]) (st := []) cX8_next_173 (con8_isBefore _ e e0 (by omega) (by omega) ((((((r.bl, r.co), (r.po, r.ha)), ((r.nw, r.gr), r.go)), (((r.tr, r.rw), r.nm), ((r.fm, r.oc), ds))), ((((ms, r.wd), (r.sc, sd)), ((r.ke, r.ro), r.hs)), (((r.gc, r.nb), r.fc), (((nI dl.length), si), r.th)))) : R8) (dR F b Ka) (dR F b Kb) (by omega) (by omega) hDa hDb) rfl rfl rfl rfl rfl (Nat.le_of_ble_eq_true rfl) dX8_next_173 (fun r2 v2 hq => ?_)
          obtain ⟨rfl, rfl⟩ := hq
          rw [hcmp]
          by_cases hlt3 : dl.getD e 0 < dl.getD e0 0
          · rw [decide_eq_true hlt3]
            refine G_w (st' := [.int 1]) (w' := w8 ((((((r.bl, r.co), (r.po, r.ha)), ((r.nw, r.gr), r.go)), (((r.tr, r.rw), r.nm), ((r.fm, r.oc), ds))), ((((ms, r.wd), (r.sc, sd)), ((r.ke, r.ro), r.hs)), (((r.gc, r.nb), r.fc), (((nI dl.length), si), r.th)))) : R8)) rfl rfl ?_
            refine G_if_eq (tgt := 182) dX8_next_176 (by decide) (fun h => absurd h (by decide)) (fun _ => ?_)
            exact takes hz (fun e' he' hz' => Nat.le_trans (Nat.le_of_lt hlt3) (h4 e' he' hz'))
          · rw [decide_eq_false hlt3]
            refine G_w (st' := [.int 0]) (w' := w8 ((((((r.bl, r.co), (r.po, r.ha)), ((r.nw, r.gr), r.go)), (((r.tr, r.rw), r.nm), ((r.fm, r.oc), ds))), ((((ms, r.wd), (r.sc, sd)), ((r.ke, r.ro), r.hs)), (((r.gc, r.nb), r.fc), (((nI dl.length), si), r.th)))) : R8)) rfl rfl ?_
            refine G_if_eq (tgt := 182) dX8_next_176 (by decide) (fun _ => ?_) (fun h => absurd rfl h)
            refine next (nI e0) (Or.inr ⟨e0, rfl, by omega, h3, fun e' he' hz' => ?_⟩)
            by_cases ee : e' = e
            · rw [ee]; omega
            · exact h4 e' (by omega) hz'
      exact sel dl.length 0 (-1) rfl (by omega) (Or.inl ⟨rfl, fun e' he' => by omega⟩)
  have loopC : ∀ (m n : Nat) (ds ms sd : Nat → Int32) (si : Int32) (z3 z4 : Option Value), dl.length - n = m → n ≤ dl.length → (∀ d, d < n → sd d = 0) → SL F nb b rk ds dl → MS ((((((r.bl, r.co), (r.po, r.ha)), ((r.nw, r.gr), r.go)), (((r.tr, r.rw), r.nm), ((r.fm, r.oc), ds))), ((((ms, r.wd), (r.sc, sd)), ((r.ke, r.ro), r.hs)), (((r.gc, r.nb), r.fc), (((nI dl.length), si), r.th)))) : R8) (hbs F b 8 0) → G ab_x0 mX8_next (d + 3) 0 0 (fun w' v => ∃ r', w' = w8 r' ∧ v = none ∧ ∃ ds ms sd wd sc nw si de, r' = ((((((r.bl, r.co), (r.po, r.ha)), ((nw, r.gr), r.go)), (((r.tr, r.rw), r.nm), ((r.fm, r.oc), ds))), ((((ms, wd), (sc, sd)), ((r.ke, r.ro), r.hs)), (((r.gc, r.nb), r.fc), ((de, si), r.th)))) : R8) ∧ (∀ j, j < 8 → nw (8 * (b + 1) + j) = zx (dig (msgB F (fun g => o (st g)) rk q nt b) j)) ∧ ∀ j, (j < 8 * (b + 1) ∨ 8 * (b + 2) ≤ j) → nw j = r.nw j) 110 [some (.ref 100), some (.int (nI (b + 1))), some (.int (nI n)), z3, z4] [] (w8 ((((((r.bl, r.co), (r.po, r.ha)), ((r.nw, r.gr), r.go)), (((r.tr, r.rw), r.nm), ((r.fm, r.oc), ds))), ((((ms, r.wd), (r.sc, sd)), ((r.ke, r.ro), r.hs)), (((r.gc, r.nb), r.fc), (((nI dl.length), si), r.th)))) : R8)) := by
    intro m
    induction m using Nat.strongRecOn with
    | ind m ih =>
      intro n ds ms sd si z3 z4 hm hn h0 hSL hMS
      refine G_iload_n dX8_next_110 rfl ?_
      refine G_aload_n dX8_next_111 rfl ?_
      refine G_get (f := 20) kc9 dX8_next_112 fX8_257 (by decide) rfl rfl ?_
      refine G_icmp_geN (tgt := 131) n dl.length dX8_next_115 (by decide) rfl rfl (by omega) (by omega) (fun hge => ?_) (fun hlt => ?_)
      · have en : n = dl.length := by omega
        subst en
        refine G_iconst (v := 0) dX8_next_131 (by decide) ?_
        refine G_istore_n (L' := [_, _, _, _, _]) dX8_next_132 (Nat.le_of_ble_eq_true rfl) rfl ?_
        have er := rem_all h0
        refine loopD dl.length 0 [] ds ms sd si _ _ rfl (by omega) rfl ⟨by rw [er]; exact List.Perm.refl _, List.Pairwise.nil, fun x hx => absurd hx List.not_mem_nil⟩ (fun d => ?_) hSL ?_
        · rcases Nat.lt_or_ge d dl.length with h | h
          · exact Or.inl (h0 d h)
          · exact Or.inr (Or.inr h)
        · rw [List.flatMap_nil, List.append_nil]
          exact hMS
      refine G_aload_n dX8_next_118 rfl ?_
      refine G_get (f := 26) kc9 dX8_next_119 fX8_195 (by decide) rfl rfl ?_
      refine G_iload_n dX8_next_122 rfl ?_
      refine G_iconst (v := 0) dX8_next_123 (by decide) ?_
      refine G_zastN (w' := w8 ((((((r.bl, r.co), (r.po, r.ha)), ((r.nw, r.gr), r.go)), (((r.tr, r.rw), r.nm), ((r.fm, r.oc), ds))), ((((ms, r.wd), (r.sc, upd sd n 0)), ((r.ke, r.ro), r.hs)), (((r.gc, r.nb), r.fc), (((nI dl.length), si), r.th)))) : R8)) (n) dX8_next_124 rfl rfl (by omega) (by decide) rfl ?_
      refine G_iinc (L' := [_, _, _, _, _]) (v := nI (n + 1)) dX8_next_125 rfl (nI_1 _) rfl ?_
      refine G_goto (tgt := 110) dX8_next_128 (by decide) ?_
      refine ih (dl.length - (n + 1)) (by omega) (n + 1) ds ms _ si _ _ rfl (by omega) (fun d hd => ?_) hSL hMS
      by_cases e : d = n
      · rw [e, pk_us]
      · rw [pk_un e]; exact h0 d (by omega)
  have loopB : ∀ (m n : Nat) (ds ms sd : Nat → Int32) (si : Int32) (z3 z4 : Option Value), 8 - n = m → n ≤ 8 → SL F nb b rk ds dl → MS ((((((r.bl, r.co), (r.po, r.ha)), ((r.nw, r.gr), r.go)), (((r.tr, r.rw), r.nm), ((r.fm, r.oc), ds))), ((((ms, r.wd), (r.sc, sd)), ((r.ke, r.ro), r.hs)), (((r.gc, r.nb), r.fc), (((nI dl.length), si), r.th)))) : R8) (hbs F b n 0) → G ab_x0 mX8_next (d + 3) 0 0 (fun w' v => ∃ r', w' = w8 r' ∧ v = none ∧ ∃ ds ms sd wd sc nw si de, r' = ((((((r.bl, r.co), (r.po, r.ha)), ((nw, r.gr), r.go)), (((r.tr, r.rw), r.nm), ((r.fm, r.oc), ds))), ((((ms, wd), (sc, sd)), ((r.ke, r.ro), r.hs)), (((r.gc, r.nb), r.fc), ((de, si), r.th)))) : R8) ∧ (∀ j, j < 8 → nw (8 * (b + 1) + j) = zx (dig (msgB F (fun g => o (st g)) rk q nt b) j)) ∧ ∀ j, (j < 8 * (b + 1) ∨ 8 * (b + 2) ≤ j) → nw j = r.nw j) 81 [some (.ref 100), some (.int (nI (b + 1))), some (.int (nI n)), z3, z4] [] (w8 ((((((r.bl, r.co), (r.po, r.ha)), ((r.nw, r.gr), r.go)), (((r.tr, r.rw), r.nm), ((r.fm, r.oc), ds))), ((((ms, r.wd), (r.sc, sd)), ((r.ke, r.ro), r.hs)), (((r.gc, r.nb), r.fc), (((nI dl.length), si), r.th)))) : R8)) := by
    intro m
    induction m using Nat.strongRecOn with
    | ind m ih =>
      intro n ds ms sd si z3 z4 hm hn hSL hMS
      refine G_iload_n dX8_next_81 rfl ?_
      refine G_bipush (v := 8) dX8_next_82 (by decide) ?_
      refine G_icmp_geN (tgt := 108) n 8 dX8_next_84 (by decide) rfl rfl (by omega) (by omega) (fun hge => ?_) (fun hlt => ?_)
      · have en : n = 8 := by omega
        subst en
        refine G_iconst (v := 0) dX8_next_108 (by decide) ?_
        refine G_istore_n (L' := [_, _, _, _, _]) dX8_next_109 (Nat.le_of_ble_eq_true rfl) rfl ?_
        exact loopC dl.length 0 ds ms sd si _ _ rfl (by omega) (fun d hd => by omega) hSL hMS
      refine G_aload_n dX8_next_87 rfl ?_
      refine G_aload_n dX8_next_88 rfl ?_
      refine G_get (f := 5) kc9 dX8_next_89 fX8_155 (by decide) rfl rfl ?_
      refine G_bipush (v := 8) dX8_next_92 (by decide) ?_
      refine G_iload_n dX8_next_94 rfl ?_
      refine G_imul dX8_next_95 ?_
      refine G_topi (y := nI (8 * (b + 1))) (pk_mul 8 _) ?_
      refine G_iload_n dX8_next_96 rfl ?_
      refine G_iadd dX8_next_97 ?_
      refine G_laldN (8 * (b + 1) + n) dX8_next_98 rfl (nI_add _ _) (by omega) (by decide) ?_
      refine G_topl (hF b n hb hlt) ?_
      refine G_V8 (as := [.long (zx (F (b * 8 + n)))]) (st := []) cX8_next_99 (con8_sayNumber _ ((((((r.bl, r.co), (r.po, r.ha)), ((r.nw, r.gr), r.go)), (((r.tr, r.rw), r.nm), ((r.fm, r.oc), ds))), ((((ms, r.wd), (r.sc, sd)), ((r.ke, r.ro), r.hs)), (((r.gc, r.nb), r.fc), (((nI dl.length), si), r.th)))) : R8) (hbs F b n 0) hMS (by rw [hbs_len]; omega) (zx (F (b * 8 + n))) (F (b * 8 + n)) (zx_t _)) rfl rfl rfl rfl rfl (Nat.le_of_ble_eq_true rfl) dX8_next_99 (fun r2 v2 hq => ?_)
      obtain ⟨rfl, ms2, rfl, hMS2⟩ := hq
      rw [show hbs F b n 0 ++ bys 4 (F (b * 8 + n)) = hbs F b (n + 1) 0 by rw [hbs_split F b n 0 1]; simp [hbs]] at hMS2
      refine G_w (st' := []) (w' := w8 ((((((r.bl, r.co), (r.po, r.ha)), ((r.nw, r.gr), r.go)), (((r.tr, r.rw), r.nm), ((r.fm, r.oc), ds))), ((((ms2, r.wd), (r.sc, sd)), ((r.ke, r.ro), r.hs)), (((r.gc, r.nb), r.fc), (((nI dl.length), (nI ((hbs F b n 0).length + 4))), r.th)))) : R8)) rfl rfl ?_
      refine G_iinc (L' := [_, _, _, _, _]) (v := nI (n + 1)) dX8_next_102 rfl (nI_1 _) rfl ?_
      refine G_goto (tgt := 81) dX8_next_105 (by decide) ?_
      exact ih (8 - (n + 1)) (by omega) (n + 1) ds ms2 sd _ _ _ rfl (by omega) hSL hMS2
  have loopA : ∀ (m n : Nat) (ds : Nat → Int32) (z3 z4 : Option Value), nt - n = m → n ≤ nt → SL F nb b rk ds (dls b rk q n) → G ab_x0 mX8_next (d + 3) 0 0 (fun w' v => ∃ r', w' = w8 r' ∧ v = none ∧ ∃ ds ms sd wd sc nw si de, r' = ((((((r.bl, r.co), (r.po, r.ha)), ((nw, r.gr), r.go)), (((r.tr, r.rw), r.nm), ((r.fm, r.oc), ds))), ((((ms, wd), (sc, sd)), ((r.ke, r.ro), r.hs)), (((r.gc, r.nb), r.fc), ((de, si), r.th)))) : R8) ∧ (∀ j, j < 8 → nw (8 * (b + 1) + j) = zx (dig (msgB F (fun g => o (st g)) rk q nt b) j)) ∧ ∀ j, (j < 8 * (b + 1) ∨ 8 * (b + 2) ≤ j) → nw j = r.nw j) 7 [some (.ref 100), some (.int (nI (b + 1))), some (.int (nI n)), z3, z4] [] (w8 ((((((r.bl, r.co), (r.po, r.ha)), ((r.nw, r.gr), r.go)), (((r.tr, r.rw), r.nm), ((r.fm, r.oc), ds))), ((((r.ms, r.wd), (r.sc, r.sd)), ((r.ke, r.ro), r.hs)), (((r.gc, r.nb), r.fc), (((nI (dls b rk q n).length), r.si), r.th)))) : R8)) := by
    intro m
    induction m using Nat.strongRecOn with
    | ind m ih =>
      intro n ds z3 z4 hm hn hSL
      have hln := dls_len b rk q n
      refine G_iload_n dX8_next_7 rfl ?_
      refine G_aload_n dX8_next_8 rfl ?_
      refine G_get (f := 2) kc9 dX8_next_9 fX8_149 (by decide) rfl rfl ?_
      refine G_bipush (v := 8) dX8_next_12 (by decide) ?_
      refine G_ialdN (8) dX8_next_14 rfl rfl (by decide) (by decide) ?_
      refine G_icmp_geN (tgt := 74) n nt dX8_next_15 (by decide) rfl hc (by omega) (by omega) (fun hge => ?_) (fun hlt => ?_)
      · have en : n = nt := by omega
        subst en
        rw [← hdl] at hSL ⊢
        refine G_aload_n dX8_next_74 rfl ?_
        refine G_iconst (v := 0) dX8_next_75 (by decide) ?_
        refine G_put (w' := w8 ((((((r.bl, r.co), (r.po, r.ha)), ((r.nw, r.gr), r.go)), (((r.tr, r.rw), r.nm), ((r.fm, r.oc), ds))), ((((r.ms, r.wd), (r.sc, r.sd)), ((r.ke, r.ro), r.hs)), (((r.gc, r.nb), r.fc), (((nI dl.length), 0), r.th)))) : R8)) (f := 22) kc9 dX8_next_76 fX8_235 (by decide) rfl rfl rfl rfl (Nat.le_of_ble_eq_true rfl) rfl ?_
        refine G_iconst (v := 0) dX8_next_79 (by decide) ?_
        refine G_istore_n (L' := [_, _, _, _, _]) dX8_next_80 (Nat.le_of_ble_eq_true rfl) rfl ?_
        exact loopB 8 0 ds r.ms r.sd 0 _ _ rfl (by omega) hSL ⟨rfl, fun i hi => by simp [hbs] at hi⟩
      have hpn := hp n hlt
      have hdn : dls b rk q (n + 1) = if std_ b (q n) then dls b rk q n ++ [dsc b rk (q n)] else dls b rk q n := rfl
      have hb8 : b < 8 := by omega
      have isb : ∀ p, p < 3 → (r.po (960 + 3 * n + p) = -(nI (b + 1)) ↔ isB b (kp (q n) p) = true) := fun p hp3 => by
        rw [(hpn.2 p hp3).1, neg_b hb8]
        exact pt_eq (kp_lt _ _) hb8
      have step : ∀ (ds : Nat → Int32) (z3 z4 : Option Value), SL F nb b rk ds (dls b rk q (n + 1)) → G ab_x0 mX8_next (d + 3) 0 0 (fun w' v => ∃ r', w' = w8 r' ∧ v = none ∧ ∃ ds ms sd wd sc nw si de, r' = ((((((r.bl, r.co), (r.po, r.ha)), ((nw, r.gr), r.go)), (((r.tr, r.rw), r.nm), ((r.fm, r.oc), ds))), ((((ms, wd), (sc, sd)), ((r.ke, r.ro), r.hs)), (((r.gc, r.nb), r.fc), ((de, si), r.th)))) : R8) ∧ (∀ j, j < 8 → nw (8 * (b + 1) + j) = zx (dig (msgB F (fun g => o (st g)) rk q nt b) j)) ∧ ∀ j, (j < 8 * (b + 1) ∨ 8 * (b + 2) ≤ j) → nw j = r.nw j) 68 [some (.ref 100), some (.int (nI (b + 1))), some (.int (nI n)), z3, z4] [] (w8 ((((((r.bl, r.co), (r.po, r.ha)), ((r.nw, r.gr), r.go)), (((r.tr, r.rw), r.nm), ((r.fm, r.oc), ds))), ((((r.ms, r.wd), (r.sc, r.sd)), ((r.ke, r.ro), r.hs)), (((r.gc, r.nb), r.fc), (((nI (dls b rk q (n + 1)).length), r.si), r.th)))) : R8)) := by
        intro ds z3 z4 h
        refine G_iinc (L' := [_, _, _, _, _]) (v := nI (n + 1)) dX8_next_68 rfl (nI_1 _) rfl ?_
        refine G_goto (tgt := 7) dX8_next_71 (by decide) ?_
        exact ih (nt - (n + 1)) (by omega) (n + 1) ds _ _ rfl (by omega) h
      have yes : std_ b (q n) = true → G ab_x0 mX8_next (d + 3) 0 0 (fun w' v => ∃ r', w' = w8 r' ∧ v = none ∧ ∃ ds ms sd wd sc nw si de, r' = ((((((r.bl, r.co), (r.po, r.ha)), ((nw, r.gr), r.go)), (((r.tr, r.rw), r.nm), ((r.fm, r.oc), ds))), ((((ms, wd), (sc, sd)), ((r.ke, r.ro), r.hs)), (((r.gc, r.nb), r.fc), ((de, si), r.th)))) : R8) ∧ (∀ j, j < 8 → nw (8 * (b + 1) + j) = zx (dig (msgB F (fun g => o (st g)) rk q nt b) j)) ∧ ∀ j, (j < 8 * (b + 1) ∨ 8 * (b + 2) ≤ j) → nw j = r.nw j) 62 [some (.ref 100), some (.int (nI (b + 1))), some (.int (nI n)), some (.int (nI (960 + 3 * n))), z4] [] (w8 ((((((r.bl, r.co), (r.po, r.ha)), ((r.nw, r.gr), r.go)), (((r.tr, r.rw), r.nm), ((r.fm, r.oc), ds))), ((((r.ms, r.wd), (r.sc, r.sd)), ((r.ke, r.ro), r.hs)), (((r.gc, r.nb), r.fc), (((nI (dls b rk q n).length), r.si), r.th)))) : R8)) := by
        intro hy
        rw [if_pos hy] at hdn
        refine G_aload_n dX8_next_62 rfl ?_
        refine G_iload_n dX8_next_63 rfl ?_
        refine G_iload_n dX8_next_64 rfl ?_
        refine G_V8 (as := [.int (nI (b + 1)), .int (nI n)]) (st := []) cX8_next_65 (con8_describe _ nb b n (dls b rk q n).length (q n) hb8 (by omega) (by omega) hnb ((((((r.bl, r.co), (r.po, r.ha)), ((r.nw, r.gr), r.go)), (((r.tr, r.rw), r.nm), ((r.fm, r.oc), ds))), ((((r.ms, r.wd), (r.sc, r.sd)), ((r.ke, r.ro), r.hs)), (((r.gc, r.nb), r.fc), (((nI (dls b rk q n).length), r.si), r.th)))) : R8) rfl F hF (fun p hp3 => hpn.2 p hp3)) rfl rfl rfl rfl rfl (Nat.le_of_ble_eq_true rfl) dX8_next_65 (fun r2 v2 hq => ?_)
        obtain ⟨rfl, ds2, rfl, hD, hk⟩ := hq
        have h2 := SL_add hSL (key_pts hp hlt) hD hk
        have := step ds2 (some (.int (nI (960 + 3 * n)))) z4 (by rw [hdn]; exact h2)
        rw [hdn, List.length_append, List.length_singleton] at this
        exact this
      have no : std_ b (q n) = false → G ab_x0 mX8_next (d + 3) 0 0 (fun w' v => ∃ r', w' = w8 r' ∧ v = none ∧ ∃ ds ms sd wd sc nw si de, r' = ((((((r.bl, r.co), (r.po, r.ha)), ((nw, r.gr), r.go)), (((r.tr, r.rw), r.nm), ((r.fm, r.oc), ds))), ((((ms, wd), (sc, sd)), ((r.ke, r.ro), r.hs)), (((r.gc, r.nb), r.fc), ((de, si), r.th)))) : R8) ∧ (∀ j, j < 8 → nw (8 * (b + 1) + j) = zx (dig (msgB F (fun g => o (st g)) rk q nt b) j)) ∧ ∀ j, (j < 8 * (b + 1) ∨ 8 * (b + 2) ≤ j) → nw j = r.nw j) 68 [some (.ref 100), some (.int (nI (b + 1))), some (.int (nI n)), some (.int (nI (960 + 3 * n))), z4] [] (w8 ((((((r.bl, r.co), (r.po, r.ha)), ((r.nw, r.gr), r.go)), (((r.tr, r.rw), r.nm), ((r.fm, r.oc), ds))), ((((r.ms, r.wd), (r.sc, r.sd)), ((r.ke, r.ro), r.hs)), (((r.gc, r.nb), r.fc), (((nI (dls b rk q n).length), r.si), r.th)))) : R8)) := by
        intro hno
        rw [if_neg (by rw [hno]; decide)] at hdn
        have := step ds (some (.int (nI (960 + 3 * n)))) z4 (by rw [hdn]; exact hSL)
        rw [hdn] at this
        exact this
      refine G_bipush (v := 8) dX8_next_18 (by decide) ?_
      refine G_iload_n dX8_next_20 rfl ?_
      refine G_S (is := []) (fo := []) (as := [.int (nI 8), .int (nI n)]) (as' := [.int (nI 8), .int (nI n)]) (st := []) (k := 0) (n := 0) cX8_next_21 (con8_at _ 8 n (by omega) (by omega)) ab_pfx rfl (by decide) rfl rfl rfl rfl (Nat.le_of_ble_eq_true rfl) dX8_next_21 (fun w' v h => by rw [h.1]) (fun w2 v2 hq => ?_)
      obtain ⟨rfl, rfl⟩ := hq
      refine G_w (st' := [.int (nI (960 + 3 * n))]) (w' := w8 ((((((r.bl, r.co), (r.po, r.ha)), ((r.nw, r.gr), r.go)), (((r.tr, r.rw), r.nm), ((r.fm, r.oc), ds))), ((((r.ms, r.wd), (r.sc, r.sd)), ((r.ke, r.ro), r.hs)), (((r.gc, r.nb), r.fc), (((nI (dls b rk q n).length), r.si), r.th)))) : R8)) rfl rfl ?_
      refine G_istore_n (L' := [_, _, _, _, _]) dX8_next_24 (Nat.le_of_ble_eq_true rfl) rfl ?_
      refine G_aload_n dX8_next_25 rfl ?_
      refine G_get (f := 3) kc9 dX8_next_26 fX8_152 (by decide) rfl rfl ?_
      refine G_iload_n dX8_next_29 rfl ?_
      refine G_ialdN (960 + 3 * n) dX8_next_30 rfl rfl (by omega) (by decide) ?_
      refine G_iload_n dX8_next_31 rfl ?_
      refine G_ineg dX8_next_32 ?_
      refine G_icmp_eq (tgt := 62) dX8_next_33 (by decide) (fun h0 => yes (by unfold std_; rw [(isb 0 (by omega)).mp h0]; rfl)) (fun h0 => ?_)
      refine G_aload_n dX8_next_36 rfl ?_
      refine G_get (f := 3) kc9 dX8_next_37 fX8_152 (by decide) rfl rfl ?_
      refine G_iload_n dX8_next_40 rfl ?_
      refine G_iconst (v := 1) dX8_next_41 (by decide) ?_
      refine G_iadd dX8_next_42 ?_
      refine G_ialdN (960 + 3 * n + 1) dX8_next_43 rfl (nI_1 _) (by omega) (by decide) ?_
      refine G_iload_n dX8_next_44 rfl ?_
      refine G_ineg dX8_next_45 ?_
      refine G_icmp_eq (tgt := 62) dX8_next_46 (by decide) (fun h1 => yes (by unfold std_; rw [(isb 1 (by omega)).mp h1]; simp)) (fun h1 => ?_)
      refine G_aload_n dX8_next_49 rfl ?_
      refine G_get (f := 3) kc9 dX8_next_50 fX8_152 (by decide) rfl rfl ?_
      refine G_iload_n dX8_next_53 rfl ?_
      refine G_iconst (v := 2) dX8_next_54 (by decide) ?_
      refine G_iadd dX8_next_55 ?_
      refine G_ialdN (960 + 3 * n + 2) dX8_next_56 rfl (nI_add _ 2) (by omega) (by decide) ?_
      refine G_iload_n dX8_next_57 rfl ?_
      refine G_ineg dX8_next_58 ?_
      refine G_icmp_ne (tgt := 68) dX8_next_59 (by decide) (fun h2 => no ?_) (fun h2 => yes ?_)
      · unfold std_
        have f0 : isB b (kp (q n) 0) = false := Bool.eq_false_iff.mpr (fun e => h0 ((isb 0 (by omega)).mpr e))
        have f1 : isB b (kp (q n) 1) = false := Bool.eq_false_iff.mpr (fun e => h1 ((isb 1 (by omega)).mpr e))
        have f2 : isB b (kp (q n) 2) = false := Bool.eq_false_iff.mpr (fun e => h2 ((isb 2 (by omega)).mpr e))
        rw [f0, f1, f2]
        rfl
      · unfold std_
        rw [(isb 2 (by omega)).mp (by first | exact h2 | exact Decidable.not_not.mp h2)]
        simp
  refine G_aload_n dX8_next_0 rfl ?_
  refine G_iconst (v := 0) dX8_next_1 (by decide) ?_
  refine G_put (w' := w8 ((((((r.bl, r.co), (r.po, r.ha)), ((r.nw, r.gr), r.go)), (((r.tr, r.rw), r.nm), ((r.fm, r.oc), r.ds))), ((((r.ms, r.wd), (r.sc, r.sd)), ((r.ke, r.ro), r.hs)), (((r.gc, r.nb), r.fc), (((nI (dls b rk q 0).length), r.si), r.th)))) : R8)) (f := 20) kc9 dX8_next_2 fX8_257 (by decide) rfl rfl rfl rfl (Nat.le_of_ble_eq_true rfl) rfl ?_
  refine G_iconst (v := 0) dX8_next_5 (by decide) ?_
  refine G_istore_n (L' := [_, _, _, _, _]) dX8_next_6 (Nat.le_of_ble_eq_true rfl) rfl ?_
  exact loopA nt 0 r.ds none none rfl (by omega) (fun d hd => by simp [dls] at hd)
