/-! The reference: describe, isBefore. -/
/-- slot s of the descriptions holds l -/
def DSl (ds : Nat → Int32) (s : Nat) (l : List Int32) : Prop := ds (128 * s) = nI l.length ∧ ∀ i, i < l.length → ds (128 * s + 1 + i) = l.getD i 0
def PD (ds0 ds : Nat → Int32) (s : Nat) (l : List Int32) : Prop := (∀ i, i < l.length → ds (128 * s + 1 + i) = l.getD i 0) ∧ ∀ j, (j < 128 * s ∨ 128 * (s + 1) ≤ j) → ds j = ds0 j
theorem PD_add {ds0 ds : Nat → Int32} {s : Nat} {l : List Int32} (h : PD ds0 ds s l) (hl : l.length + 1 < 128) (x : Int32) : PD ds0 (upd ds (128 * s + 1 + l.length) x) s (l ++ [x]) := by
  refine ⟨fun i hi => ?_, fun j hj => ?_⟩
  · rw [List.length_append, List.length_singleton] at hi
    rw [getD_app]
    by_cases e : i = l.length
    · rw [e, pk_us, if_neg (by omega), if_pos rfl]
    · rw [pk_un (by omega), if_pos (by omega)]
      exact h.1 i (by omega)
  · rw [pk_un (by omega)]
    exact h.2 j hj
theorem map_s (g : Nat → Int32) (j : Nat) (l : List Int32) : l ++ (List.range (j + 1)).map g = (l ++ (List.range j).map g) ++ [g j] := by rw [List.range_succ, List.map_append, List.append_assoc]; rfl
theorem sh31 {s : Int32} (k : Nat) (hs : s = nI k) (hk : k < 32) : ((s &&& 31).toBitVec.smod 32).toNat = k := by
  subst hs
  revert k
  decide +kernel
theorem byte_n {x : Nat} (hx : x < 2 ^ 31) (j : Nat) (hj : j < 4) (s : Int32) (hs : s = nI (24 - 8 * j)) : nI x >>> (s &&& 31) &&& 255 = g4 (nI x) j := by
  rw [pk_shrN hx _ (24 - 8 * j) (sh31 _ hs (by omega))]
  unfold g4
  rw [uw_nI (by omega), pk_andN (Nat.lt_of_le_of_lt (Nat.div_le_self _ _) (by omega)) (m := 255) 8 rfl]
theorem byte_z (x : Int32) : (zx x &&& 255).toInt32 = nI (uw x % 256) := by
  apply uw_inj
  rw [uw_t32, Int64.toBitVec_and, BitVec.toNat_and, zx_toNat, show (255 : Int64).toBitVec.toNat = 2 ^ 8 - 1 from rfl, Nat.and_two_pow_sub_one_eq_mod, uw_nI (by omega)]
  omega
theorem G_topi2 {xo : ab_XO} {M : ab_M} {d k n : Nat} {Q : List ab_C → Option Value → Prop} {pc : Nat} {L : List (Option Value)} {st : List Value} {w : List ab_C} {x y z : Int32} (h : x = y) (kk : G xo M d k n Q pc L (.int z :: .int y :: st) w) : G xo M d k n Q pc L (.int z :: .int x :: st) w := h ▸ kk
set_option maxRecDepth 20000 in
set_option maxHeartbeats 4000000 in
theorem con8_describe (d nb b k s K : Nat) (hb : b < 8) (hk : k < 40) (hs : s < 40) (hnb : nb ≤ 8) (r : R8) (hde : r.de = nI s) (F : Nat → Int32) (hF : hOk r.ha F nb) (hp : ∀ p, p < 3 → r.po (960 + 3 * k + p) = nI (kp K p) - 8 ∧ kp K p ≠ 8 ∧ kp K p < 1009 ∧ (kp K p < 8 → 7 - kp K p < nb)) : Con mX8_describe (d + 1) 0 0 (w8 r) [.ref 100, .int (nI (b + 1)), .int (nI k)] (fun w' v => ∃ r', w' = w8 r' ∧ v = none ∧ ∃ ds, r' = ((((((r.bl, r.co), (r.po, r.ha)), ((r.nw, r.gr), r.go)), (((r.tr, r.rw), r.nm), ((r.fm, r.oc), ds))), ((((r.ms, r.wd), (r.sc, r.sd)), ((r.ke, r.ro), r.hs)), (((r.gc, r.nb), r.fc), ((nI (s + 1), r.si), r.th)))) : R8) ∧ DSl ds s (dR F b K) ∧ ∀ j, (j < 128 * s ∨ 128 * (s + 1) ≤ j) → ds j = r.ds j) := by
  refine Con.of (ab_okc rfl (by decide)) (Nat.le_of_ble_eq_true rfl) ?_
  show G ab_x0 mX8_describe (d + 1) 0 0 _ 0 [some (.ref 100), some (.int (nI (b + 1))), some (.int (nI k)), none, none, none, none, none] [] _
  refine G_sipush (v := 128) dX8_describe_0 (by decide) ?_
  refine G_aload_n dX8_describe_3 rfl ?_
  refine G_get (f := 20) kc9 dX8_describe_4 fX8_257 (by decide) rfl rfl ?_
  refine G_imul dX8_describe_7 ?_
  refine G_topi (y := nI (128 * s)) ((congrArg (fun z => (128 : Int32) * z) hde).trans (pk_mul 128 s)) ?_
  refine G_istore_n (L' := [_, _, _, _, _, _, _, _]) dX8_describe_8 (Nat.le_of_ble_eq_true rfl) rfl ?_
  refine G_iconst (v := 1) dX8_describe_9 (by decide) ?_
  refine G_istore (L' := [_, _, _, _, _, _, _, _]) dX8_describe_10 (Nat.le_of_ble_eq_true rfl) rfl ?_
  refine G_iconst (v := 0) dX8_describe_12 (by decide) ?_
  refine G_istore (L' := [_, _, _, _, _, _, _, _]) dX8_describe_13 (Nat.le_of_ble_eq_true rfl) rfl ?_
  have loop : ∀ (m i : Nat) (ds : Nat → Int32) (z6 z7 : Option Value), 3 - i = m → i ≤ 3 → PD r.ds ds s (preR F b K i) → G ab_x0 mX8_describe (d + 1) 0 0 (fun w' v => ∃ r', w' = w8 r' ∧ v = none ∧ ∃ ds, r' = ((((((r.bl, r.co), (r.po, r.ha)), ((r.nw, r.gr), r.go)), (((r.tr, r.rw), r.nm), ((r.fm, r.oc), ds))), ((((r.ms, r.wd), (r.sc, r.sd)), ((r.ke, r.ro), r.hs)), (((r.gc, r.nb), r.fc), ((nI (s + 1), r.si), r.th)))) : R8) ∧ DSl ds s (dR F b K) ∧ ∀ j, (j < 128 * s ∨ 128 * (s + 1) ≤ j) → ds j = r.ds j) 15 [some (.ref 100), some (.int (nI (b + 1))), some (.int (nI k)), some (.int (nI (128 * s))), some (.int (nI (1 + (preR F b K i).length))), some (.int (nI i)), z6, z7] [] (w8 ((((((r.bl, r.co), (r.po, r.ha)), ((r.nw, r.gr), r.go)), (((r.tr, r.rw), r.nm), ((r.fm, r.oc), ds))), ((((r.ms, r.wd), (r.sc, r.sd)), ((r.ke, r.ro), r.hs)), (((r.gc, r.nb), r.fc), ((r.de, r.si), r.th)))) : R8)) := by
    intro m
    induction m using Nat.strongRecOn with
    | ind m ih =>
      intro i ds z6 z7 hm hi hPD
      have hlen := preR_len F b K i
      refine G_iload dX8_describe_15 rfl ?_
      refine G_iconst (v := 3) dX8_describe_17 (by decide) ?_
      refine G_icmp_geN (tgt := 195) i 3 dX8_describe_18 (by decide) rfl rfl (by omega) (by omega) (fun hge => ?_) (fun hlt => ?_)
      · have e3 : i = 3 := by omega
        subst e3
        refine G_aload_n dX8_describe_195 rfl ?_
        refine G_get (f := 19) kc9 dX8_describe_196 fX8_183 (by decide) rfl rfl ?_
        refine G_iload_n dX8_describe_199 rfl ?_
        refine G_iload dX8_describe_200 rfl ?_
        refine G_iconst (v := 1) dX8_describe_202 (by decide) ?_
        refine G_isub dX8_describe_203 ?_
        refine G_topi (y := nI (preR F b K 3).length) ((pk_sub (b := 1) (by omega)).trans (congrArg nI (by omega))) ?_
        refine G_iastN (w' := w8 ((((((r.bl, r.co), (r.po, r.ha)), ((r.nw, r.gr), r.go)), (((r.tr, r.rw), r.nm), ((r.fm, r.oc), upd ds (128 * s) (nI (preR F b K 3).length)))), ((((r.ms, r.wd), (r.sc, r.sd)), ((r.ke, r.ro), r.hs)), (((r.gc, r.nb), r.fc), ((r.de, r.si), r.th)))) : R8)) (128 * s) dX8_describe_204 rfl rfl (by omega) (by decide) rfl ?_
        refine G_aload_n dX8_describe_205 rfl ?_
        refine G_dup dX8_describe_206 rfl ?_
        refine G_get (f := 20) kc9 dX8_describe_207 fX8_257 (by decide) rfl rfl ?_
        refine G_iconst (v := 1) dX8_describe_210 (by decide) ?_
        refine G_iadd dX8_describe_211 ?_
        refine G_topi (y := nI (s + 1)) ((congrArg (· + 1) hde).trans (nI_1 s)) ?_
        refine G_put (w' := w8 ((((((r.bl, r.co), (r.po, r.ha)), ((r.nw, r.gr), r.go)), (((r.tr, r.rw), r.nm), ((r.fm, r.oc), upd ds (128 * s) (nI (preR F b K 3).length)))), ((((r.ms, r.wd), (r.sc, r.sd)), ((r.ke, r.ro), r.hs)), (((r.gc, r.nb), r.fc), ((nI (s + 1), r.si), r.th)))) : R8)) (f := 20) kc9 dX8_describe_212 fX8_257 (by decide) rfl rfl rfl rfl (Nat.le_of_ble_eq_true rfl) rfl ?_
        refine G_ret (v := none) ⟨dX8_describe_215, rfl⟩ ⟨_, rfl, rfl, _, rfl, ⟨pk_us, fun i hi => ?_⟩, fun j hj => ?_⟩
        · rw [pk_un (by omega)]; exact hPD.1 i hi
        · rw [pk_un (by omega)]; exact hPD.2 j hj
      obtain ⟨hp1, hp2, hp3, hp4⟩ := hp i hlt
      obtain ⟨P, hP⟩ : ∃ P, P = kp K i := ⟨_, rfl⟩
      rw [← hP] at hp1 hp2 hp3 hp4
      have epre : preR F b K (i + 1) = preR F b K i ++ plR F b P := by rw [hP]; rfl
      have hlen1 := preR_len F b K (i + 1)
      have fin : ∀ (ds : Nat → Int32) (z7 : Option Value), PD r.ds ds s (preR F b K (i + 1)) → G ab_x0 mX8_describe (d + 1) 0 0 (fun w' v => ∃ r', w' = w8 r' ∧ v = none ∧ ∃ ds, r' = ((((((r.bl, r.co), (r.po, r.ha)), ((r.nw, r.gr), r.go)), (((r.tr, r.rw), r.nm), ((r.fm, r.oc), ds))), ((((r.ms, r.wd), (r.sc, r.sd)), ((r.ke, r.ro), r.hs)), (((r.gc, r.nb), r.fc), ((nI (s + 1), r.si), r.th)))) : R8) ∧ DSl ds s (dR F b K) ∧ ∀ j, (j < 128 * s ∨ 128 * (s + 1) ≤ j) → ds j = r.ds j) 189 [some (.ref 100), some (.int (nI (b + 1))), some (.int (nI k)), some (.int (nI (128 * s))), some (.int (nI (1 + (preR F b K (i + 1)).length))), some (.int (nI i)), some (.int (nI P - 8)), z7] [] (w8 ((((((r.bl, r.co), (r.po, r.ha)), ((r.nw, r.gr), r.go)), (((r.tr, r.rw), r.nm), ((r.fm, r.oc), ds))), ((((r.ms, r.wd), (r.sc, r.sd)), ((r.ke, r.ro), r.hs)), (((r.gc, r.nb), r.fc), ((r.de, r.si), r.th)))) : R8)) := by
        intro ds z7 h
        refine G_iinc (L' := [_, _, _, _, _, _, _, _]) (v := nI (i + 1)) dX8_describe_189 rfl (nI_1 i) rfl ?_
        refine G_goto (tgt := 15) dX8_describe_192 (by decide) ?_
        exact ih (3 - (i + 1)) (by omega) (i + 1) ds _ _ rfl (by omega) h
      refine G_aload_n dX8_describe_21 rfl ?_
      refine G_get (f := 3) kc9 dX8_describe_22 fX8_152 (by decide) rfl rfl ?_
      refine G_bipush (v := 8) dX8_describe_25 (by decide) ?_
      refine G_iload_n dX8_describe_27 rfl ?_
      refine G_S (is := []) (fo := []) (as := [.int (nI 8), .int (nI k)]) (as' := [.int (nI 8), .int (nI k)]) (st := [.ref 104]) (k := 0) (n := 0) cX8_describe_28 (con8_at _ 8 k (by omega) (by omega)) ab_pfx rfl (by decide) rfl rfl rfl rfl (Nat.le_of_ble_eq_true rfl) dX8_describe_28 (fun w' v h => by rw [h.1]) (fun w2 v2 hq => ?_)
      obtain ⟨rfl, rfl⟩ := hq
      refine G_w (st' := [.int (nI (960 + 3 * k)), .ref 104]) (w' := w8 ((((((r.bl, r.co), (r.po, r.ha)), ((r.nw, r.gr), r.go)), (((r.tr, r.rw), r.nm), ((r.fm, r.oc), ds))), ((((r.ms, r.wd), (r.sc, r.sd)), ((r.ke, r.ro), r.hs)), (((r.gc, r.nb), r.fc), ((r.de, r.si), r.th)))) : R8)) rfl rfl ?_
      refine G_iload dX8_describe_31 rfl ?_
      refine G_iadd dX8_describe_33 ?_
      refine G_ialdN (960 + 3 * k + i) dX8_describe_34 rfl (nI_add _ _) (by omega) (by decide) ?_
      refine G_topi (y := nI P - 8) hp1 ?_
      refine G_istore (L' := [_, _, _, _, _, _, _, _]) dX8_describe_35 (Nat.le_of_ble_eq_true rfl) rfl ?_
      refine G_aload_n dX8_describe_37 rfl ?_
      refine G_get (f := 19) kc9 dX8_describe_38 fX8_183 (by decide) rfl rfl ?_
      refine G_iload_n dX8_describe_41 rfl ?_
      refine G_iload dX8_describe_42 rfl ?_
      refine G_iadd dX8_describe_44 ?_
      refine G_topi (y := nI (128 * s + 1 + (preR F b K i).length)) ((nI_add _ _).trans (congrArg nI (by omega))) ?_
      refine G_iload dX8_describe_45 rfl ?_
      have htoI := pt_toInt (P := P) (by omega)
      have h0 : (0 : Int32).toInt = 0 := rfl
      have t66 : ∀ (x : Int32), (G ab_x0 mX8_describe (d + 1) 0 0 (fun w' v => ∃ r', w' = w8 r' ∧ v = none ∧ ∃ ds, r' = ((((((r.bl, r.co), (r.po, r.ha)), ((r.nw, r.gr), r.go)), (((r.tr, r.rw), r.nm), ((r.fm, r.oc), ds))), ((((r.ms, r.wd), (r.sc, r.sd)), ((r.ke, r.ro), r.hs)), (((r.gc, r.nb), r.fc), ((nI (s + 1), r.si), r.th)))) : R8) ∧ DSl ds s (dR F b K) ∧ ∀ j, (j < 128 * s ∨ 128 * (s + 1) ≤ j) → ds j = r.ds j) 73 [some (.ref 100), some (.int (nI (b + 1))), some (.int (nI k)), some (.int (nI (128 * s))), some (.int (nI (1 + (preR F b K i).length + 1))), some (.int (nI i)), some (.int (nI P - 8)), some (.int (nI 0))] [] (w8 ((((((r.bl, r.co), (r.po, r.ha)), ((r.nw, r.gr), r.go)), (((r.tr, r.rw), r.nm), ((r.fm, r.oc), upd ds (128 * s + 1 + (preR F b K i).length) x))), ((((r.ms, r.wd), (r.sc, r.sd)), ((r.ke, r.ro), r.hs)), (((r.gc, r.nb), r.fc), ((r.de, r.si), r.th)))) : R8))) → G ab_x0 mX8_describe (d + 1) 0 0 (fun w' v => ∃ r', w' = w8 r' ∧ v = none ∧ ∃ ds, r' = ((((((r.bl, r.co), (r.po, r.ha)), ((r.nw, r.gr), r.go)), (((r.tr, r.rw), r.nm), ((r.fm, r.oc), ds))), ((((r.ms, r.wd), (r.sc, r.sd)), ((r.ke, r.ro), r.hs)), (((r.gc, r.nb), r.fc), ((nI (s + 1), r.si), r.th)))) : R8) ∧ DSl ds s (dR F b K) ∧ ∀ j, (j < 128 * s ∨ 128 * (s + 1) ≤ j) → ds j = r.ds j) 66 [some (.ref 100), some (.int (nI (b + 1))), some (.int (nI k)), some (.int (nI (128 * s))), some (.int (nI (1 + (preR F b K i).length))), some (.int (nI i)), some (.int (nI P - 8)), z7] [.int x, .int (nI (128 * s + 1 + (preR F b K i).length)), .ref 114] (w8 ((((((r.bl, r.co), (r.po, r.ha)), ((r.nw, r.gr), r.go)), (((r.tr, r.rw), r.nm), ((r.fm, r.oc), ds))), ((((r.ms, r.wd), (r.sc, r.sd)), ((r.ke, r.ro), r.hs)), (((r.gc, r.nb), r.fc), ((r.de, r.si), r.th)))) : R8)) := by
        intro x kk
        refine G_iastN (w' := w8 ((((((r.bl, r.co), (r.po, r.ha)), ((r.nw, r.gr), r.go)), (((r.tr, r.rw), r.nm), ((r.fm, r.oc), upd ds (128 * s + 1 + (preR F b K i).length) x))), ((((r.ms, r.wd), (r.sc, r.sd)), ((r.ke, r.ro), r.hs)), (((r.gc, r.nb), r.fc), ((r.de, r.si), r.th)))) : R8)) (128 * s + 1 + (preR F b K i).length) dX8_describe_66 rfl rfl (by omega) (by decide) rfl ?_
        refine G_iinc (L' := [_, _, _, _, _, _, _, _]) (v := nI (1 + (preR F b K i).length + 1)) dX8_describe_67 rfl (nI_1 _) rfl ?_
        refine G_iconst (v := 0) dX8_describe_70 (by decide) ?_
        refine G_istore (L' := [_, _, _, _, _, _, _, _]) dX8_describe_71 (Nat.le_of_ble_eq_true rfl) rfl ?_
        exact kk
      refine G_if_le (tgt := 54) dX8_describe_47 (by decide) (fun hle => ?_) (fun hgt => ?_)
      rotate_left
      · -- a name
        rw [le_toI, h0, htoI] at hgt
        have hP8 : 8 ≤ P := by omega
        have epl : plR F b P = [0] ++ (List.range 4).map (g4 (nI (P - 8))) := by unfold plR; rw [if_pos hP8, bys4]; rfl
        have ex : nI P - 8 = nI (P - 8) := pk_sub (b := 8) hP8
        rw [epl, ← List.append_assoc] at epre
        refine G_iconst (v := 0) dX8_describe_50 (by decide) ?_
        refine G_goto (tgt := 66) dX8_describe_51 (by decide) ?_
        refine t66 0 ?_
        have l1 : ∀ (m2 j : Nat) (ds : Nat → Int32), 4 - j = m2 → j ≤ 4 → PD r.ds ds s ((preR F b K i ++ [0]) ++ (List.range j).map (g4 (nI (P - 8)))) → G ab_x0 mX8_describe (d + 1) 0 0 (fun w' v => ∃ r', w' = w8 r' ∧ v = none ∧ ∃ ds, r' = ((((((r.bl, r.co), (r.po, r.ha)), ((r.nw, r.gr), r.go)), (((r.tr, r.rw), r.nm), ((r.fm, r.oc), ds))), ((((r.ms, r.wd), (r.sc, r.sd)), ((r.ke, r.ro), r.hs)), (((r.gc, r.nb), r.fc), ((nI (s + 1), r.si), r.th)))) : R8) ∧ DSl ds s (dR F b K) ∧ ∀ j, (j < 128 * s ∨ 128 * (s + 1) ≤ j) → ds j = r.ds j) 73 [some (.ref 100), some (.int (nI (b + 1))), some (.int (nI k)), some (.int (nI (128 * s))), some (.int (nI (1 + (preR F b K i).length + 1 + j))), some (.int (nI i)), some (.int (nI P - 8)), some (.int (nI j))] [] (w8 ((((((r.bl, r.co), (r.po, r.ha)), ((r.nw, r.gr), r.go)), (((r.tr, r.rw), r.nm), ((r.fm, r.oc), ds))), ((((r.ms, r.wd), (r.sc, r.sd)), ((r.ke, r.ro), r.hs)), (((r.gc, r.nb), r.fc), ((r.de, r.si), r.th)))) : R8)) := by
          intro m2
          induction m2 using Nat.strongRecOn with
          | ind m2 ih2 =>
            intro j ds hm2 hj hPD2
            have hll : ((preR F b K i ++ [0]) ++ (List.range j).map (g4 (nI (P - 8)))).length = (preR F b K i).length + 1 + j := by rw [List.length_append, List.length_append, List.length_map, List.length_range]; rfl
            refine G_iload dX8_describe_73 rfl ?_
            refine G_iconst (v := 4) dX8_describe_75 (by decide) ?_
            refine G_icmp_geN (tgt := 117) j 4 dX8_describe_76 (by decide) rfl rfl (by omega) (by omega) (fun hge2 => ?_) (fun hlt2 => ?_)
            · have e4 : j = 4 := by omega
              subst e4
              rw [← epre] at hPD2
              refine G_iconst (v := 0) dX8_describe_117 (by decide) ?_
              refine G_istore (L' := [_, _, _, _, _, _, _, _]) dX8_describe_118 (Nat.le_of_ble_eq_true rfl) rfl ?_
              refine G_iload dX8_describe_120 rfl ?_
              refine G_bipush (v := 32) dX8_describe_122 (by decide) ?_
              refine G_icmp_geN (tgt := 189) 0 32 dX8_describe_124 (by decide) rfl rfl (by omega) (by omega) (fun h => by omega) (fun _ => ?_)
              refine G_iload dX8_describe_127 rfl ?_
              refine G_if_ge (tgt := 189) dX8_describe_129 (by decide) (fun _ => ?_) (fun h => absurd (by rw [le_toI, h0, htoI]; omega) h)
              have hll2 : (preR F b K (i + 1)).length = (preR F b K i).length + 5 := by rw [epre]; simp
              have := fin ds (some (.int (nI 0))) hPD2
              rw [hll2] at this
              exact this
            refine G_iload dX8_describe_79 rfl ?_
            refine G_if_le (tgt := 117) dX8_describe_81 (by decide) (fun h => absurd h (by rw [le_toI, h0, htoI]; omega)) (fun _ => ?_)
            refine G_aload_n dX8_describe_84 rfl ?_
            refine G_get (f := 19) kc9 dX8_describe_85 fX8_183 (by decide) rfl rfl ?_
            refine G_iload_n dX8_describe_88 rfl ?_
            refine G_iload dX8_describe_89 rfl ?_
            refine G_iadd dX8_describe_91 ?_
            refine G_topi (y := nI (128 * s + 1 + ((preR F b K i).length + 1 + j))) ((nI_add _ _).trans (congrArg nI (by omega))) ?_
            refine G_iload dX8_describe_92 rfl ?_
            refine G_bipush (v := 24) dX8_describe_94 (by decide) ?_
            refine G_bipush (v := 8) dX8_describe_96 (by decide) ?_
            refine G_iload dX8_describe_98 rfl ?_
            refine G_imul dX8_describe_100 ?_
            refine G_topi (y := nI (8 * j)) (pk_mul 8 j) ?_
            refine G_isub dX8_describe_101 ?_
            refine G_topi (y := nI (24 - 8 * j)) (pk_sub (a := 24) (by omega)) ?_
            refine G_ishr dX8_describe_102 ?_
            refine G_sipush (v := 255) dX8_describe_103 (by decide) ?_
            refine G_iand dX8_describe_106 ?_
            refine G_topi (y := g4 (nI (P - 8)) j) (by rw [ex]; exact byte_n (by omega) j hlt2 _ rfl) ?_
            refine G_iastN (w' := w8 ((((((r.bl, r.co), (r.po, r.ha)), ((r.nw, r.gr), r.go)), (((r.tr, r.rw), r.nm), ((r.fm, r.oc), upd ds (128 * s + 1 + ((preR F b K i).length + 1 + j)) (g4 (nI (P - 8)) j)))), ((((r.ms, r.wd), (r.sc, r.sd)), ((r.ke, r.ro), r.hs)), (((r.gc, r.nb), r.fc), ((r.de, r.si), r.th)))) : R8)) (128 * s + 1 + ((preR F b K i).length + 1 + j)) dX8_describe_107 rfl rfl (by omega) (by decide) rfl ?_
            refine G_iinc (L' := [_, _, _, _, _, _, _, _]) (v := nI (1 + (preR F b K i).length + 1 + (j + 1))) dX8_describe_108 rfl (nI_1 _) rfl ?_
            refine G_iinc (L' := [_, _, _, _, _, _, _, _]) (v := nI (j + 1)) dX8_describe_111 rfl (nI_1 _) rfl ?_
            refine G_goto (tgt := 73) dX8_describe_114 (by decide) ?_
            refine ih2 (4 - (j + 1)) (by omega) (j + 1) _ rfl (by omega) ?_
            have h3 := PD_add hPD2 (by rw [hll]; omega) (g4 (nI (P - 8)) j)
            rw [hll] at h3
            rw [map_s]
            exact h3
        refine l1 4 0 _ rfl (by omega) ?_
        rw [show (List.range 0).map (g4 (nI (P - 8))) = [] from rfl, List.append_nil]
        exact PD_add hPD (by omega) 0
      rw [le_toI, h0, htoI] at hle
      have hP8 : ¬ 8 ≤ P := by omega
      have eneg : -(nI P - 8) = nI (7 - P + 1) := by
        apply Int32.toInt_inj.mp
        rw [Int32.toInt_neg, pt_toInt (by omega), nI_toInt (by omega), Int.bmod_eq_of_le (by omega) (by omega)]
        omega
      have skip1 : ∀ (n : Nat) (ds : Nat → Int32), (G ab_x0 mX8_describe (d + 1) 0 0 (fun w' v => ∃ r', w' = w8 r' ∧ v = none ∧ ∃ ds, r' = ((((((r.bl, r.co), (r.po, r.ha)), ((r.nw, r.gr), r.go)), (((r.tr, r.rw), r.nm), ((r.fm, r.oc), ds))), ((((r.ms, r.wd), (r.sc, r.sd)), ((r.ke, r.ro), r.hs)), (((r.gc, r.nb), r.fc), ((nI (s + 1), r.si), r.th)))) : R8) ∧ DSl ds s (dR F b K) ∧ ∀ j, (j < 128 * s ∨ 128 * (s + 1) ≤ j) → ds j = r.ds j) 120 [some (.ref 100), some (.int (nI (b + 1))), some (.int (nI k)), some (.int (nI (128 * s))), some (.int (nI n)), some (.int (nI i)), some (.int (nI P - 8)), some (.int (nI 0))] [] (w8 ((((((r.bl, r.co), (r.po, r.ha)), ((r.nw, r.gr), r.go)), (((r.tr, r.rw), r.nm), ((r.fm, r.oc), ds))), ((((r.ms, r.wd), (r.sc, r.sd)), ((r.ke, r.ro), r.hs)), (((r.gc, r.nb), r.fc), ((r.de, r.si), r.th)))) : R8))) → G ab_x0 mX8_describe (d + 1) 0 0 (fun w' v => ∃ r', w' = w8 r' ∧ v = none ∧ ∃ ds, r' = ((((((r.bl, r.co), (r.po, r.ha)), ((r.nw, r.gr), r.go)), (((r.tr, r.rw), r.nm), ((r.fm, r.oc), ds))), ((((r.ms, r.wd), (r.sc, r.sd)), ((r.ke, r.ro), r.hs)), (((r.gc, r.nb), r.fc), ((nI (s + 1), r.si), r.th)))) : R8) ∧ DSl ds s (dR F b K) ∧ ∀ j, (j < 128 * s ∨ 128 * (s + 1) ≤ j) → ds j = r.ds j) 73 [some (.ref 100), some (.int (nI (b + 1))), some (.int (nI k)), some (.int (nI (128 * s))), some (.int (nI n)), some (.int (nI i)), some (.int (nI P - 8)), some (.int (nI 0))] [] (w8 ((((((r.bl, r.co), (r.po, r.ha)), ((r.nw, r.gr), r.go)), (((r.tr, r.rw), r.nm), ((r.fm, r.oc), ds))), ((((r.ms, r.wd), (r.sc, r.sd)), ((r.ke, r.ro), r.hs)), (((r.gc, r.nb), r.fc), ((r.de, r.si), r.th)))) : R8)) := by
        intro n ds kk
        refine G_iload dX8_describe_73 rfl ?_
        refine G_iconst (v := 4) dX8_describe_75 (by decide) ?_
        refine G_icmp_geN (tgt := 117) 0 4 dX8_describe_76 (by decide) rfl rfl (by omega) (by omega) (fun h => by omega) (fun _ => ?_)
        refine G_iload dX8_describe_79 rfl ?_
        refine G_if_le (tgt := 117) dX8_describe_81 (by decide) (fun _ => ?_) (fun h => absurd (by rw [le_toI, h0, htoI]; omega) h)
        refine G_iconst (v := 0) dX8_describe_117 (by decide) ?_
        refine G_istore (L' := [_, _, _, _, _, _, _, _]) dX8_describe_118 (Nat.le_of_ble_eq_true rfl) rfl ?_
        exact kk
      refine G_iload dX8_describe_54 rfl ?_
      refine G_ineg dX8_describe_56 ?_
      refine G_iload_n dX8_describe_57 rfl ?_
      refine G_topi2 eneg ?_
      refine G_icmp_neN (tgt := 65) (7 - P + 1) (b + 1) dX8_describe_58 (by decide) rfl rfl (by omega) (by omega) (fun hne => ?_) (fun heq => ?_)
      rotate_left
      · -- itself
        have epl : plR F b P = [1] := by unfold plR; rw [if_neg hP8, if_pos (by omega)]
        rw [epl] at epre
        refine G_iconst (v := 1) dX8_describe_61 (by decide) ?_
        refine G_goto (tgt := 66) dX8_describe_62 (by decide) ?_
        refine t66 1 (skip1 _ _ ?_)
        refine G_iload dX8_describe_120 rfl ?_
        refine G_bipush (v := 32) dX8_describe_122 (by decide) ?_
        refine G_icmp_geN (tgt := 189) 0 32 dX8_describe_124 (by decide) rfl rfl (by omega) (by omega) (fun h => by omega) (fun _ => ?_)
        refine G_iload dX8_describe_127 rfl ?_
        refine G_if_ge (tgt := 189) dX8_describe_129 (by decide) (fun h => absurd h (by rw [le_toI, h0, htoI]; omega)) (fun _ => ?_)
        refine G_iload dX8_describe_132 rfl ?_
        refine G_ineg dX8_describe_134 ?_
        refine G_iload_n dX8_describe_135 rfl ?_
        refine G_topi2 eneg ?_
        refine G_icmp_eqN (tgt := 189) (7 - P + 1) (b + 1) dX8_describe_136 (by decide) rfl rfl (by omega) (by omega) (fun _ => ?_) (fun h => absurd heq h)
        have hll2 : (preR F b K (i + 1)).length = (preR F b K i).length + 1 := by rw [epre]; simp
        have h3 := PD_add hPD (by omega) 1
        rw [← epre] at h3
        have := fin _ (some (.int (nI 0))) h3
        rw [hll2] at this
        exact this
      -- another blank
      have hc7 : 7 - P < nb := hp4 (by omega)
      have epl : plR F b P = [2] ++ (List.range 32).map (g32 F (7 - P)) := by unfold plR; rw [if_neg hP8, if_neg (by omega), hbs32]; rfl
      rw [epl, ← List.append_assoc] at epre
      refine G_iconst (v := 2) dX8_describe_65 (by decide) ?_
      refine t66 2 (skip1 _ _ ?_)
      have l2 : ∀ (m2 j : Nat) (ds : Nat → Int32), 32 - j = m2 → j ≤ 32 → PD r.ds ds s ((preR F b K i ++ [2]) ++ (List.range j).map (g32 F (7 - P))) → G ab_x0 mX8_describe (d + 1) 0 0 (fun w' v => ∃ r', w' = w8 r' ∧ v = none ∧ ∃ ds, r' = ((((((r.bl, r.co), (r.po, r.ha)), ((r.nw, r.gr), r.go)), (((r.tr, r.rw), r.nm), ((r.fm, r.oc), ds))), ((((r.ms, r.wd), (r.sc, r.sd)), ((r.ke, r.ro), r.hs)), (((r.gc, r.nb), r.fc), ((nI (s + 1), r.si), r.th)))) : R8) ∧ DSl ds s (dR F b K) ∧ ∀ j, (j < 128 * s ∨ 128 * (s + 1) ≤ j) → ds j = r.ds j) 120 [some (.ref 100), some (.int (nI (b + 1))), some (.int (nI k)), some (.int (nI (128 * s))), some (.int (nI (1 + (preR F b K i).length + 1 + j))), some (.int (nI i)), some (.int (nI P - 8)), some (.int (nI j))] [] (w8 ((((((r.bl, r.co), (r.po, r.ha)), ((r.nw, r.gr), r.go)), (((r.tr, r.rw), r.nm), ((r.fm, r.oc), ds))), ((((r.ms, r.wd), (r.sc, r.sd)), ((r.ke, r.ro), r.hs)), (((r.gc, r.nb), r.fc), ((r.de, r.si), r.th)))) : R8)) := by
        intro m2
        induction m2 using Nat.strongRecOn with
        | ind m2 ih2 =>
          intro j ds hm2 hj hPD2
          have hll : ((preR F b K i ++ [2]) ++ (List.range j).map (g32 F (7 - P))).length = (preR F b K i).length + 1 + j := by rw [List.length_append, List.length_append, List.length_map, List.length_range]; rfl
          refine G_iload dX8_describe_120 rfl ?_
          refine G_bipush (v := 32) dX8_describe_122 (by decide) ?_
          refine G_icmp_geN (tgt := 189) j 32 dX8_describe_124 (by decide) rfl rfl (by omega) (by omega) (fun hge2 => ?_) (fun hlt2 => ?_)
          · have e32 : j = 32 := by omega
            subst e32
            rw [← epre] at hPD2
            have hll2 : (preR F b K (i + 1)).length = (preR F b K i).length + 33 := by rw [epre]; simp
            have := fin ds (some (.int (nI 32))) hPD2
            rw [hll2] at this
            exact this
          refine G_iload dX8_describe_127 rfl ?_
          refine G_if_ge (tgt := 189) dX8_describe_129 (by decide) (fun h => absurd h (by rw [le_toI, h0, htoI]; omega)) (fun _ => ?_)
          refine G_iload dX8_describe_132 rfl ?_
          refine G_ineg dX8_describe_134 ?_
          refine G_iload_n dX8_describe_135 rfl ?_
          refine G_topi2 eneg ?_
          refine G_icmp_eqN (tgt := 189) (7 - P + 1) (b + 1) dX8_describe_136 (by decide) rfl rfl (by omega) (by omega) (fun h => absurd h hne) (fun _ => ?_)
          refine G_aload_n dX8_describe_139 rfl ?_
          refine G_get (f := 19) kc9 dX8_describe_140 fX8_183 (by decide) rfl rfl ?_
          refine G_iload_n dX8_describe_143 rfl ?_
          refine G_iload dX8_describe_144 rfl ?_
          refine G_iadd dX8_describe_146 ?_
          refine G_topi (y := nI (128 * s + 1 + ((preR F b K i).length + 1 + j))) ((nI_add _ _).trans (congrArg nI (by omega))) ?_
          refine G_aload_n dX8_describe_147 rfl ?_
          refine G_get (f := 5) kc9 dX8_describe_148 fX8_155 (by decide) rfl rfl ?_
          refine G_bipush (v := 8) dX8_describe_151 (by decide) ?_
          refine G_iload dX8_describe_153 rfl ?_
          refine G_ineg dX8_describe_155 ?_
          refine G_topi eneg ?_
          refine G_imul dX8_describe_156 ?_
          refine G_topi (y := nI (8 * (7 - P + 1))) (pk_mul 8 _) ?_
          refine G_iload dX8_describe_157 rfl ?_
          refine G_iconst (v := 4) dX8_describe_159 (by decide) ?_
          refine G_idiv dX8_describe_160 (by decide) ?_
          refine G_topi (y := nI (j / 4)) (pk_div (d := 4) (by omega) (by omega) (by omega)) ?_
          refine G_iadd dX8_describe_161 ?_
          refine G_laldN (8 * (7 - P + 1) + j / 4) dX8_describe_162 rfl (nI_add _ _) (by omega) (by decide) ?_
          refine G_topl (y := zx (F ((7 - P) * 8 + j / 4))) (hF _ _ hc7 (by omega)) ?_
          refine G_bipush (v := 24) dX8_describe_163 (by decide) ?_
          refine G_bipush (v := 8) dX8_describe_165 (by decide) ?_
          refine G_iload dX8_describe_167 rfl ?_
          refine G_iconst (v := 4) dX8_describe_169 (by decide) ?_
          refine G_irem dX8_describe_170 (by decide) ?_
          refine G_topi (y := nI (j % 4)) (pk_rem (d := 4) (by omega) (by omega) (by omega)) ?_
          refine G_imul dX8_describe_171 ?_
          refine G_topi (y := nI (8 * (j % 4))) (pk_mul 8 _) ?_
          refine G_isub dX8_describe_172 ?_
          refine G_topi (y := nI (24 - 8 * (j % 4))) (pk_sub (a := 24) (by omega)) ?_
          refine G_lshr dX8_describe_173 ?_
          refine G_topl (y := zx (us (F ((7 - P) * 8 + j / 4)) (nI (24 - 8 * (j % 4))))) (zx_shr _ _ (by omega)) ?_
          refine G_ldc2 dX8_describe_174 kX8_260 ?_
          refine G_land dX8_describe_177 ?_
          refine G_l2i dX8_describe_178 ?_
          refine G_topi (y := g32 F (7 - P) j) ((byte_z _).trans (by rw [us_k _ _ (by omega)]; rfl)) ?_
          refine G_iastN (w' := w8 ((((((r.bl, r.co), (r.po, r.ha)), ((r.nw, r.gr), r.go)), (((r.tr, r.rw), r.nm), ((r.fm, r.oc), upd ds (128 * s + 1 + ((preR F b K i).length + 1 + j)) (g32 F (7 - P) j)))), ((((r.ms, r.wd), (r.sc, r.sd)), ((r.ke, r.ro), r.hs)), (((r.gc, r.nb), r.fc), ((r.de, r.si), r.th)))) : R8)) (128 * s + 1 + ((preR F b K i).length + 1 + j)) dX8_describe_179 rfl rfl (by omega) (by decide) rfl ?_
          refine G_iinc (L' := [_, _, _, _, _, _, _, _]) (v := nI (1 + (preR F b K i).length + 1 + (j + 1))) dX8_describe_180 rfl (nI_1 _) rfl ?_
          refine G_iinc (L' := [_, _, _, _, _, _, _, _]) (v := nI (j + 1)) dX8_describe_183 rfl (nI_1 _) rfl ?_
          refine G_goto (tgt := 120) dX8_describe_186 (by decide) ?_
          refine ih2 (32 - (j + 1)) (by omega) (j + 1) _ rfl (by omega) ?_
          have h3 := PD_add hPD2 (by rw [hll]; omega) (g32 F (7 - P) j)
          rw [hll] at h3
          rw [map_s]
          exact h3
      refine l2 32 0 _ rfl (by omega) ?_
      rw [show (List.range 0).map (g32 F (7 - P)) = [] from rfl, List.append_nil]
      exact PD_add hPD (by omega) 2
  refine loop 3 0 r.ds none none rfl (by omega) ⟨fun i hi => by simp [preR] at hi, fun j _ => rfl⟩
theorem lxb_drop {la lb : List Int32} : ∀ {i : Nat}, i ≤ la.length → i ≤ lb.length → (∀ j, j < i → la.getD j 0 = lb.getD j 0) → lxb la lb = lxb (la.drop i) (lb.drop i) := by
  intro i h1 h2 h
  have e : la.take i = lb.take i := by
    apply List.ext_getElem?
    intro j
    by_cases hj : j < i
    · have := h j hj
      rw [List.getElem?_take_of_lt hj, List.getElem?_take_of_lt hj, List.getElem?_eq_getElem (by omega), List.getElem?_eq_getElem (by omega)]
      rw [List.getD_eq_getElem?_getD, List.getD_eq_getElem?_getD, List.getElem?_eq_getElem (by omega), List.getElem?_eq_getElem (by omega)] at this
      exact congrArg some this
    · rw [List.getElem?_eq_none (by simp; omega), List.getElem?_eq_none (by simp; omega)]
  have := lxb_pre (la.take i) (la.drop i) (lb.drop i)
  rw [List.take_append_drop, e, List.take_append_drop] at this
  exact this
theorem drop_get {l : List Int32} {i : Nat} (h : i < l.length) : l.drop i = l.getD i 0 :: l.drop (i + 1) := by
  rw [List.drop_eq_getElem_cons h, List.getD_eq_getElem?_getD, List.getElem?_eq_getElem h]
  rfl
set_option maxRecDepth 20000 in
set_option maxHeartbeats 1000000 in
theorem con8_isBefore (d a b : Nat) (ha : a < 40) (hb : b < 40) (r : R8) (la lb : List Int32) (hla : la.length < 128) (hlb : lb.length < 128) (hda : DSl r.ds a la) (hdb : DSl r.ds b lb) : Con mX8_isBefore (d) 0 0 (w8 r) [.ref 100, .int (nI a), .int (nI b)] (fun w' v => ∃ r', w' = w8 r' ∧ r' = r ∧ v = some (.int (bi (lxb la lb)))) := by
  refine Con.of (ab_okc rfl (by decide)) (Nat.le_of_ble_eq_true rfl) ?_
  show G ab_x0 mX8_isBefore (d) 0 0 _ 0 [some (.ref 100), some (.int (nI a)), some (.int (nI b)), none, none, none, none, none] [] _
  refine G_aload_n dX8_isBefore_0 rfl ?_
  refine G_get (f := 19) kc9 dX8_isBefore_1 fX8_183 (by decide) rfl rfl ?_
  refine G_sipush (v := 128) dX8_isBefore_4 (by decide) ?_
  refine G_iload_n dX8_isBefore_7 rfl ?_
  refine G_imul dX8_isBefore_8 ?_
  refine G_ialdN (128 * a) dX8_isBefore_9 rfl (pk_mul 128 a) (by omega) (by decide) ?_
  refine G_topi hda.1 ?_
  refine G_istore_n (L' := [_, _, _, _, _, _, _, _]) dX8_isBefore_10 (Nat.le_of_ble_eq_true rfl) rfl ?_
  refine G_aload_n dX8_isBefore_11 rfl ?_
  refine G_get (f := 19) kc9 dX8_isBefore_12 fX8_183 (by decide) rfl rfl ?_
  refine G_sipush (v := 128) dX8_isBefore_15 (by decide) ?_
  refine G_iload_n dX8_isBefore_18 rfl ?_
  refine G_imul dX8_isBefore_19 ?_
  refine G_ialdN (128 * b) dX8_isBefore_20 rfl (pk_mul 128 b) (by omega) (by decide) ?_
  refine G_topi hdb.1 ?_
  refine G_istore (L' := [_, _, _, _, _, _, _, _]) dX8_isBefore_21 (Nat.le_of_ble_eq_true rfl) rfl ?_
  refine G_iconst (v := 1) dX8_isBefore_23 (by decide) ?_
  refine G_istore (L' := [_, _, _, _, _, _, _, _]) dX8_isBefore_24 (Nat.le_of_ble_eq_true rfl) rfl ?_
  have loop : ∀ (m i : Nat) (z6 z7 : Option Value), la.length - i = m → i ≤ la.length → i ≤ lb.length → (∀ j, j < i → la.getD j 0 = lb.getD j 0) → G ab_x0 mX8_isBefore d 0 0 (fun w' v => ∃ r', w' = w8 r' ∧ r' = r ∧ v = some (.int (bi (lxb la lb)))) 26 [some (.ref 100), some (.int (nI a)), some (.int (nI b)), some (.int (nI la.length)), some (.int (nI lb.length)), some (.int (nI (i + 1))), z6, z7] [] (w8 r) := by
    intro m
    induction m using Nat.strongRecOn with
    | ind m ih =>
      intro i z6 z7 hm hi hi2 hs
      have hlx := lxb_drop hi hi2 hs
      have end_ : (la.length ≤ i ∨ lb.length ≤ i) → G ab_x0 mX8_isBefore d 0 0 (fun w' v => ∃ r', w' = w8 r' ∧ r' = r ∧ v = some (.int (bi (lxb la lb)))) 95 [some (.ref 100), some (.int (nI a)), some (.int (nI b)), some (.int (nI la.length)), some (.int (nI lb.length)), some (.int (nI (i + 1))), z6, z7] [] (w8 r) := by
        intro hor
        refine G_iload_n dX8_isBefore_95 rfl ?_
        refine G_iload dX8_isBefore_96 rfl ?_
        refine G_icmp_geN (tgt := 105) la.length lb.length dX8_isBefore_98 (by decide) rfl rfl (by omega) (by omega) (fun h => ?_) (fun h => ?_)
        · refine G_iconst (v := 0) dX8_isBefore_105 (by decide) ?_
          refine G_ret (v := some (.int _)) ⟨dX8_isBefore_106, _, rfl, rfl⟩ ⟨r, rfl, rfl, ?_⟩
          rw [hlx, List.drop_eq_nil_of_le (as := lb) (by omega)]
          cases la.drop i <;> rfl
        · refine G_iconst (v := 1) dX8_isBefore_101 (by decide) ?_
          refine G_goto (tgt := 106) dX8_isBefore_102 (by decide) ?_
          refine G_ret (v := some (.int _)) ⟨dX8_isBefore_106, _, rfl, rfl⟩ ⟨r, rfl, rfl, ?_⟩
          rw [hlx, List.drop_eq_nil_of_le (as := la) (by omega), drop_get (l := lb) (by omega)]
          rfl
      refine G_iload dX8_isBefore_26 rfl ?_
      refine G_iload_n dX8_isBefore_28 rfl ?_
      refine G_icmp_gtN (tgt := 95) (i + 1) la.length dX8_isBefore_29 (by decide) rfl rfl (by omega) (by omega) (fun h => end_ (by omega)) (fun h1 => ?_)
      refine G_iload dX8_isBefore_32 rfl ?_
      refine G_iload dX8_isBefore_34 rfl ?_
      refine G_icmp_gtN (tgt := 95) (i + 1) lb.length dX8_isBefore_36 (by decide) rfl rfl (by omega) (by omega) (fun h => end_ (by omega)) (fun h2 => ?_)
      refine G_aload_n dX8_isBefore_39 rfl ?_
      refine G_get (f := 19) kc9 dX8_isBefore_40 fX8_183 (by decide) rfl rfl ?_
      refine G_sipush (v := 128) dX8_isBefore_43 (by decide) ?_
      refine G_iload_n dX8_isBefore_46 rfl ?_
      refine G_imul dX8_isBefore_47 ?_
      refine G_topi (y := nI (128 * a)) (pk_mul 128 a) ?_
      refine G_iload dX8_isBefore_48 rfl ?_
      refine G_iadd dX8_isBefore_50 ?_
      refine G_ialdN (128 * a + 1 + i) dX8_isBefore_51 rfl ((nI_add _ _).trans (congrArg nI (by omega))) (by omega) (by decide) ?_
      refine G_topi (hda.2 i (by omega)) ?_
      refine G_istore (L' := [_, _, _, _, _, _, _, _]) dX8_isBefore_52 (Nat.le_of_ble_eq_true rfl) rfl ?_
      refine G_aload_n dX8_isBefore_54 rfl ?_
      refine G_get (f := 19) kc9 dX8_isBefore_55 fX8_183 (by decide) rfl rfl ?_
      refine G_sipush (v := 128) dX8_isBefore_58 (by decide) ?_
      refine G_iload_n dX8_isBefore_61 rfl ?_
      refine G_imul dX8_isBefore_62 ?_
      refine G_topi (y := nI (128 * b)) (pk_mul 128 b) ?_
      refine G_iload dX8_isBefore_63 rfl ?_
      refine G_iadd dX8_isBefore_65 ?_
      refine G_ialdN (128 * b + 1 + i) dX8_isBefore_66 rfl ((nI_add _ _).trans (congrArg nI (by omega))) (by omega) (by decide) ?_
      refine G_topi (hdb.2 i (by omega)) ?_
      refine G_istore (L' := [_, _, _, _, _, _, _, _]) dX8_isBefore_67 (Nat.le_of_ble_eq_true rfl) rfl ?_
      refine G_iload dX8_isBefore_69 rfl ?_
      refine G_iload dX8_isBefore_71 rfl ?_
      have hcons : lxb la lb = if la.getD i 0 = lb.getD i 0 then lxb (la.drop (i + 1)) (lb.drop (i + 1)) else decide (la.getD i 0 < lb.getD i 0) := by rw [hlx, drop_get (l := la) (by omega), drop_get (l := lb) (by omega)]; rfl
      refine G_icmp_eq (tgt := 89) dX8_isBefore_73 (by decide) (fun he => ?_) (fun he => ?_)
      · refine G_iinc (L' := [_, _, _, _, _, _, _, _]) (v := nI (i + 1 + 1)) dX8_isBefore_89 rfl (nI_1 _) rfl ?_
        refine G_goto (tgt := 26) dX8_isBefore_92 (by decide) ?_
        refine ih (la.length - (i + 1)) (by omega) (i + 1) _ _ rfl (by omega) (by omega) (fun j hj => ?_)
        by_cases e : j = i
        · rw [e]; exact he
        · exact hs j (by omega)
      refine G_iload dX8_isBefore_76 rfl ?_
      refine G_iload dX8_isBefore_78 rfl ?_
      refine G_icmp_ge (tgt := 87) dX8_isBefore_80 (by decide) (fun h => ?_) (fun h => ?_)
      · refine G_iconst (v := 0) dX8_isBefore_87 (by decide) ?_
        refine G_ret (v := some (.int _)) ⟨dX8_isBefore_88, _, rfl, rfl⟩ ⟨r, rfl, rfl, ?_⟩
        rw [hcons, if_neg he, decide_eq_false (fun q => absurd h (Int32.not_le.mpr q))]
        rfl
      · refine G_iconst (v := 1) dX8_isBefore_83 (by decide) ?_
        refine G_goto (tgt := 88) dX8_isBefore_84 (by decide) ?_
        refine G_ret (v := some (.int _)) ⟨dX8_isBefore_88, _, rfl, rfl⟩ ⟨r, rfl, rfl, ?_⟩
        rw [hcons, if_neg he, decide_eq_true (Int32.not_le.mp h)]
        rfl
  exact loop la.length 0 none none rfl (by omega) (by omega) (fun j hj => by omega)
