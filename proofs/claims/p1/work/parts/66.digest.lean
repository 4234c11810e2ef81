/-! The reference: say, sayNumber, digestOf, octetsOf. -/
theorem sh_k64 {s : Int32} (k : Nat) (hs : s = nI k) (hk : k < 64) : ((s.toInt64 &&& 63).toBitVec.smod 64).toNat = k := by
  subst hs
  revert k
  decide +kernel
theorem uw_t32 (y : Int64) : uw y.toInt32 = y.toBitVec.toNat % 2 ^ 32 := by unfold uw; rw [t32_bv, BitVec.toNat_setWidth]
theorem nar_low (x : Int32) : uw (vp_nar .byte x) % 256 = uw x % 256 := by
  rw [vp_nar_byte]
  unfold uw
  rw [Int8.toBitVec_toInt32, Int32.toBitVec_toInt8, BitVec.signExtend_eq_setWidth_of_le _ (by decide : 8 ≤ 32)]
  have h : ((x.toBitVec.setWidth 8).signExtend 32).setWidth 8 = x.toBitVec.setWidth 8 := by
    ext i hi
    simp [BitVec.getElem_signExtend, BitVec.getLsbD_signExtend, hi, show i < 32 by omega]
  have h2 := congrArg BitVec.toNat h
  rw [BitVec.toNat_setWidth, BitVec.toNat_setWidth] at h2
  exact h2
theorem nar_low8 (x : Int32) : uw (vp_nar .byte x.toInt8.toInt32) % 256 = uw x % 256 := by
  rw [pk_vb, ← vp_nar_byte, nar_low]
/-- the message so far -/
def MS (r : R8) (msg : List Int32) : Prop := r.si = nI msg.length ∧ ∀ i, i < msg.length → uw (r.ms i) % 256 = uw (msg.getD i 0)
theorem getD_app {l : List Int32} {x : Int32} {i : Nat} : (l ++ [x]).getD i 0 = if i < l.length then l.getD i 0 else if i = l.length then x else 0 := by
  rw [List.getD_eq_getElem?_getD, List.getD_eq_getElem?_getD, List.getElem?_append]
  by_cases h : i < l.length
  · rw [if_pos h, if_pos h]
  · rw [if_neg h, if_neg h]
    by_cases e : i = l.length
    · rw [if_pos e, e, Nat.sub_self]; rfl
    · rw [if_neg e, List.getElem?_eq_none (by simp; omega)]; rfl
theorem MS_say {r : R8} {msg : List Int32} (h : MS r msg) (x : Int32) : ∀ i, i < (msg ++ [nI (uw x % 256)]).length → uw (upd r.ms msg.length (vp_nar .byte x.toInt8.toInt32) i) % 256 = uw ((msg ++ [nI (uw x % 256)]).getD i 0) := by
  intro i hi
  rw [List.length_append, List.length_singleton] at hi
  rw [getD_app]
  by_cases e : i = msg.length
  · rw [e, pk_us, nar_low8, if_neg (by omega), if_pos rfl, uw_nI (by omega)]
  · rw [pk_un e, if_pos (by omega)]
    exact h.2 i (by omega)
theorem byte_sh (v : Int64) (s : Int64) (k : Nat) (hk : k ≤ 3) (hs : (s.toBitVec.smod 64).toNat = 8 * k) : uw (v >>> s).toInt32 % 256 = uw v.toInt32 / 2 ^ (8 * k) % 256 := by
  apply Nat.eq_of_testBit_eq
  intro i
  rw [show 256 = 2 ^ 8 from rfl, Nat.testBit_mod_two_pow, Nat.testBit_mod_two_pow, Nat.testBit_div_two_pow]
  by_cases hi : i < 8
  · simp only [hi, decide_true, Bool.true_and]
    unfold uw
    rw [t32_bv, t32_bv, BitVec.testBit_toNat, BitVec.testBit_toNat, BitVec.getLsbD_setWidth, BitVec.getLsbD_setWidth, Int64.toBitVec_shiftRight, BitVec.sshiftRight', hs, BitVec.getLsbD_sshiftRight]
    simp [show i < 32 by omega, show 8 * k + i < 64 by omega, show i < 64 by omega, show i + 8 * k < 32 by omega, show 8 * k + i < 32 by omega, show ¬ 64 ≤ i by omega, Nat.add_comm i (8 * k)]
  · simp [hi]
set_option maxRecDepth 20000 in
set_option maxHeartbeats 1000000 in
theorem con8_say (d : Nat) (r : R8) (msg : List Int32) (h : MS r msg) (hl : msg.length < 4400) (x : Int32) : Con mX8_say (d) 0 0 (w8 r) [.ref 100, .int x] (fun w' v => ∃ r', w' = w8 r' ∧ v = none ∧ ∃ m, r' = ((((((r.bl, r.co), (r.po, r.ha)), ((r.nw, r.gr), r.go)), (((r.tr, r.rw), r.nm), ((r.fm, r.oc), r.ds))), ((((m, r.wd), (r.sc, r.sd)), ((r.ke, r.ro), r.hs)), (((r.gc, r.nb), r.fc), ((r.de, nI (msg.length + 1)), r.th)))) : R8) ∧ MS r' (msg ++ [nI (uw x % 256)])) := by
  refine Con.of (ab_okc rfl (by decide)) (Nat.le_of_ble_eq_true rfl) ?_
  show G ab_x0 mX8_say (d) 0 0 _ 0 [some (.ref 100), some (.int x)] [] _
  refine G_aload_n dX8_say_0 rfl ?_
  refine G_get (f := 21) kc9 dX8_say_1 fX8_186 (by decide) rfl rfl ?_
  refine G_aload_n dX8_say_4 rfl ?_
  refine G_get (f := 22) kc9 dX8_say_5 fX8_235 (by decide) rfl rfl ?_
  refine G_iload_n dX8_say_8 rfl ?_
  refine G_i2b dX8_say_9 ?_
  refine G_bastN (w' := w8 ((((((r.bl, r.co), (r.po, r.ha)), ((r.nw, r.gr), r.go)), (((r.tr, r.rw), r.nm), ((r.fm, r.oc), r.ds))), ((((upd r.ms msg.length (vp_nar .byte x.toInt8.toInt32), r.wd), (r.sc, r.sd)), ((r.ke, r.ro), r.hs)), (((r.gc, r.nb), r.fc), ((r.de, r.si), r.th)))) : R8)) (msg.length) dX8_say_10 rfl h.1 (by omega) (by decide) rfl ?_
  refine G_aload_n dX8_say_11 rfl ?_
  refine G_dup dX8_say_12 rfl ?_
  refine G_get (f := 22) kc9 dX8_say_13 fX8_235 (by decide) rfl rfl ?_
  refine G_iconst (v := 1) dX8_say_16 (by decide) ?_
  refine G_iadd dX8_say_17 ?_
  refine G_topi (y := nI (msg.length + 1)) ((congrArg (· + 1) h.1).trans (nI_1 _)) ?_
  refine G_put (w' := w8 ((((((r.bl, r.co), (r.po, r.ha)), ((r.nw, r.gr), r.go)), (((r.tr, r.rw), r.nm), ((r.fm, r.oc), r.ds))), ((((upd r.ms msg.length (vp_nar .byte x.toInt8.toInt32), r.wd), (r.sc, r.sd)), ((r.ke, r.ro), r.hs)), (((r.gc, r.nb), r.fc), ((r.de, nI (msg.length + 1)), r.th)))) : R8)) (f := 22) kc9 dX8_say_18 fX8_235 (by decide) rfl rfl rfl rfl (Nat.le_of_ble_eq_true rfl) rfl ?_
  exact G_ret (v := none) ⟨dX8_say_21, rfl⟩ ⟨_, rfl, rfl, _, rfl, by rw [List.length_append]; rfl, MS_say h x⟩
theorem bys_s (k : Nat) (x : Int32) : bys (k + 1) x = nI (uw x / 2 ^ (8 * k) % 256) :: bys k x ∨ 4 ≤ k := by
  by_cases h : 4 ≤ k
  · exact Or.inr h
  · refine Or.inl ?_
    rw [bys]
    congr 1
    apply uw_inj
    rw [pk_and _ (m := 255) 8 rfl, uw_nI (Nat.lt_trans (Nat.mod_lt _ (by decide)) (by decide)), uw_nI (Nat.lt_trans (Nat.mod_lt _ (by decide)) (by decide))]
    show uw (us x (8 * nI k)) % 256 = _
    rw [show (8 : Int32) * nI k = nI (8 * k) from pk_mul 8 k, us_k x (8 * k) (by omega)]
set_option maxRecDepth 20000 in
set_option maxHeartbeats 1000000 in
theorem con8_sayNumber (d : Nat) (r : R8) (msg : List Int32) (h : MS r msg) (hl : msg.length + 4 ≤ 4400) (y : Int64) (x : Int32) (hy : y.toInt32 = x) : Con mX8_sayNumber (d + 1) 0 0 (w8 r) [.ref 100, .long y] (fun w' v => ∃ r', w' = w8 r' ∧ v = none ∧ ∃ m, r' = ((((((r.bl, r.co), (r.po, r.ha)), ((r.nw, r.gr), r.go)), (((r.tr, r.rw), r.nm), ((r.fm, r.oc), r.ds))), ((((m, r.wd), (r.sc, r.sd)), ((r.ke, r.ro), r.hs)), (((r.gc, r.nb), r.fc), ((r.de, nI (msg.length + 4)), r.th)))) : R8) ∧ MS r' (msg ++ bys 4 x)) := by
  refine Con.of (ab_okc rfl (by decide)) (Nat.le_of_ble_eq_true rfl) ?_
  show G ab_x0 mX8_sayNumber (d + 1) 0 0 _ 0 [some (.ref 100), some (.long y), none, none] [] _
  refine G_iconst (v := 3) dX8_sayNumber_0 (by decide) ?_
  refine G_istore_n (L' := [_, _, _, _]) dX8_sayNumber_1 (Nat.le_of_ble_eq_true rfl) rfl ?_
  have loop : ∀ (t : Nat) (kv : Int32) (m : Nat → Int32) (l : List Int32), t ≤ 4 → (0 < t → kv = nI (t - 1)) → (t = 0 → kv = -1) → MS ((((((r.bl, r.co), (r.po, r.ha)), ((r.nw, r.gr), r.go)), (((r.tr, r.rw), r.nm), ((r.fm, r.oc), r.ds))), ((((m, r.wd), (r.sc, r.sd)), ((r.ke, r.ro), r.hs)), (((r.gc, r.nb), r.fc), ((r.de, nI (msg.length + (4 - t))), r.th)))) : R8) l → l ++ bys t x = msg ++ bys 4 x → l.length = msg.length + (4 - t) → G ab_x0 mX8_sayNumber (d + 1) 0 0 (fun w' v => ∃ r', w' = w8 r' ∧ v = none ∧ ∃ m, r' = ((((((r.bl, r.co), (r.po, r.ha)), ((r.nw, r.gr), r.go)), (((r.tr, r.rw), r.nm), ((r.fm, r.oc), r.ds))), ((((m, r.wd), (r.sc, r.sd)), ((r.ke, r.ro), r.hs)), (((r.gc, r.nb), r.fc), ((r.de, nI (msg.length + 4)), r.th)))) : R8) ∧ MS r' (msg ++ bys 4 x)) 2 [some (.ref 100), some (.long y), none, some (.int kv)] [] (w8 ((((((r.bl, r.co), (r.po, r.ha)), ((r.nw, r.gr), r.go)), (((r.tr, r.rw), r.nm), ((r.fm, r.oc), r.ds))), ((((m, r.wd), (r.sc, r.sd)), ((r.ke, r.ro), r.hs)), (((r.gc, r.nb), r.fc), ((r.de, nI (msg.length + (4 - t))), r.th)))) : R8)) := by
    intro t
    induction t with
    | zero =>
      intro kv m l _ _ hk hM hl2 hll
      rw [hk rfl]
      refine G_iload_n dX8_sayNumber_2 rfl ?_
      refine G_if_lt (tgt := 23) dX8_sayNumber_3 (by decide) (fun _ => ?_) (fun h => absurd (by decide) h)
      refine G_ret (v := none) ⟨dX8_sayNumber_23, rfl⟩ ⟨_, rfl, rfl, m, rfl, ?_⟩
      rw [← hl2, show bys 0 x = [] from rfl, List.append_nil]
      exact hM
    | succ t ih =>
      intro kv m l ht hk _ hM hl2 hll
      rw [hk (by omega), Nat.add_sub_cancel]
      refine G_iload_n dX8_sayNumber_2 rfl ?_
      refine G_if_lt (tgt := 23) dX8_sayNumber_3 (by decide) (fun h => absurd h (nI_pos (by omega))) (fun _ => ?_)
      refine G_aload_n dX8_sayNumber_6 rfl ?_
      refine G_lload_n dX8_sayNumber_7 rfl ?_
      refine G_bipush (v := 8) dX8_sayNumber_8 (by decide) ?_
      refine G_iload_n dX8_sayNumber_10 rfl ?_
      refine G_imul dX8_sayNumber_11 ?_
      refine G_lshr dX8_sayNumber_12 ?_
      refine G_l2i dX8_sayNumber_13 ?_
      refine G_V8 (as := [.int (y >>> ((8 * nI t).toInt64 &&& 63)).toInt32]) (st := []) cX8_sayNumber_14 (con8_say d ((((((r.bl, r.co), (r.po, r.ha)), ((r.nw, r.gr), r.go)), (((r.tr, r.rw), r.nm), ((r.fm, r.oc), r.ds))), ((((m, r.wd), (r.sc, r.sd)), ((r.ke, r.ro), r.hs)), (((r.gc, r.nb), r.fc), ((r.de, nI (msg.length + (4 - (t + 1)))), r.th)))) : R8) l hM (by omega) (y >>> ((8 * nI t).toInt64 &&& 63)).toInt32) rfl rfl rfl rfl rfl (Nat.le_of_ble_eq_true rfl) dX8_sayNumber_14 (fun r2 v2 hq => ?_)
      obtain ⟨rfl, m2, hr2, hM2⟩ := hq
      rw [byte_sh y ((8 * nI t).toInt64 &&& 63) t (by omega) (sh_k64 (8 * t) (pk_mul 8 t) (by omega)), hy] at hM2
      have hb := (bys_s t x).resolve_right (by omega)
      refine G_w (st' := []) (w' := w8 ((((((r.bl, r.co), (r.po, r.ha)), ((r.nw, r.gr), r.go)), (((r.tr, r.rw), r.nm), ((r.fm, r.oc), r.ds))), ((((m2, r.wd), (r.sc, r.sd)), ((r.ke, r.ro), r.hs)), (((r.gc, r.nb), r.fc), ((r.de, nI (msg.length + (4 - t))), r.th)))) : R8)) rfl (by rw [hr2, hll, show msg.length + (4 - (t + 1)) + 1 = msg.length + (4 - t) by omega]) ?_
      refine G_iinc (L' := [_, _, _, _]) (v := nI t + (-1)) dX8_sayNumber_17 rfl rfl rfl ?_
      refine G_goto (tgt := 2) dX8_sayNumber_20 (by decide) ?_
      refine ih _ m2 (l ++ [nI (uw x / 2 ^ (8 * t) % 256)]) (by omega) (fun h0 => ?_) (fun h0 => ?_) ?_ ?_ ?_
      · obtain ⟨q, rfl⟩ : ∃ q, t = q + 1 := ⟨t - 1, by omega⟩
        exact pk_m1 q
      · subst h0; rfl
      · rw [hr2, hll, show msg.length + (4 - (t + 1)) + 1 = msg.length + (4 - t) by omega] at hM2
        exact hM2
      · rw [List.append_assoc, ← hl2, hb]; rfl
      · rw [List.length_append, List.length_singleton]; omega
  have h0 : MS ((((((r.bl, r.co), (r.po, r.ha)), ((r.nw, r.gr), r.go)), (((r.tr, r.rw), r.nm), ((r.fm, r.oc), r.ds))), ((((r.ms, r.wd), (r.sc, r.sd)), ((r.ke, r.ro), r.hs)), (((r.gc, r.nb), r.fc), ((r.de, nI (msg.length + (4 - 4))), r.th)))) : R8) msg := ⟨rfl, h.2⟩
  refine G_w (st' := []) (w' := w8 ((((((r.bl, r.co), (r.po, r.ha)), ((r.nw, r.gr), r.go)), (((r.tr, r.rw), r.nm), ((r.fm, r.oc), r.ds))), ((((r.ms, r.wd), (r.sc, r.sd)), ((r.ke, r.ro), r.hs)), (((r.gc, r.nb), r.fc), ((r.de, nI (msg.length + (4 - 4))), r.th)))) : R8)) rfl (by rw [show msg.length + (4 - 4) = msg.length by omega, ← h.1]) ?_
  exact loop 4 3 r.ms msg (by omega) (fun _ => rfl) (fun h => by omega) h0 rfl (by omega)
theorem start_zx : ∀ j, j < 8 → zx (ab_l ab_start j) = ([1779033703, 3144134277, 1013904242, 2773480762, 1359893119, 2600822924, 528734635, 1541459225] : List Int64).getD j 0 := by decide +kernel
theorem len_byte (n t : Nat) (hn : n < 2 ^ 20) (ht : t < 8) (kv : Int32) (hk : kv = nI (7 - t)) : uw (vp_nar .byte ((8 * (nI n).toInt64) >>> ((8 * kv).toInt64 &&& 63)).toInt32.toInt8.toInt32) % 256 = 8 * n / 2 ^ (8 * (7 - t)) % 256 := by
  rw [nar_low8, uw_t32, nI_l (by omega), show (8 : Int64) * lN n = lN (8 * n) from (Int64.ofNat_mul 8 n).symm]
  have e : (lN (8 * n)).toBitVec.toNat = 8 * n := by
    show (Int64.ofNat (8 * n)).toBitVec.toNat = _
    rw [Int64.toBitVec_ofNat', BitVec.toNat_ofNat]
    omega
  rw [l_shr (by rw [e]; omega) _ (8 * (7 - t)) (sh_k64 _ (by rw [hk]; exact pk_mul 8 _) (by omega)), e]
  have := Nat.div_le_self (8 * n) (2 ^ (8 * (7 - t)))
  rw [Nat.mod_eq_of_lt (a := 8 * n / 2 ^ (8 * (7 - t))) (by omega)]
set_option maxRecDepth 20000 in
set_option maxHeartbeats 4000000 in
theorem con8_digestOf (d : Nat) (r : R8) (msg : List Int32) (hl : msg.length ≤ 4000) (hm : ∀ x ∈ msg, uw x < 256) (hms : ∀ i, i < msg.length → uw (r.ms i) % 256 = uw (msg.getD i 0)) : Con mX8_digestOf (d + 2) 0 0 (w8 r) [.ref 100, .int (nI msg.length)] (fun w' v => ∃ r', w' = w8 r' ∧ v = none ∧ ∃ wd sc m, r' = ((((((r.bl, r.co), (r.po, r.ha)), ((r.nw, r.gr), r.go)), (((r.tr, r.rw), r.nm), ((r.fm, r.oc), r.ds))), ((((m, wd), (sc, r.sd)), ((r.ke, r.ro), r.hs)), (((r.gc, r.nb), r.fc), ((r.de, r.si), r.th)))) : R8) ∧ ∀ j, j < 8 → wd j = zx (dig msg j)) := by
  refine Con.of (ab_okc rfl (by decide)) (Nat.le_of_ble_eq_true rfl) ?_
  show G ab_x0 mX8_digestOf (d + 2) 0 0 _ 0 [some (.ref 100), some (.int (nI msg.length)), none, none] [] _
  have hz := pz_56 msg.length
  have hz2 : pz msg.length < 64 := Nat.mod_lt _ (by decide)
  obtain ⟨K, hK⟩ : ∃ K, 64 * K = msg.length + 9 + pz msg.length := ⟨(msg.length + 9 + pz msg.length) / 64, by omega⟩
  have blk : ∀ (n i : Nat) (wd sc : Nat → Int64) (m : Nat → Int32), K - i = n → i ≤ K → (∀ q, q < 64 * K → uw (m q) % 256 = FB msg q) → (∀ j, j < 8 → wd j = zx (bk m i j)) → G ab_x0 mX8_digestOf (d + 2) 0 0 (fun w' v => ∃ r', w' = w8 r' ∧ v = none ∧ ∃ wd sc m, r' = ((((((r.bl, r.co), (r.po, r.ha)), ((r.nw, r.gr), r.go)), (((r.tr, r.rw), r.nm), ((r.fm, r.oc), r.ds))), ((((m, wd), (sc, r.sd)), ((r.ke, r.ro), r.hs)), (((r.gc, r.nb), r.fc), ((r.de, r.si), r.th)))) : R8) ∧ ∀ j, j < 8 → wd j = zx (dig msg j)) 146 [some (.ref 100), some (.int (nI msg.length)), some (.int (nI (64 * K))), some (.int (nI (64 * i)))] [] (w8 ((((((r.bl, r.co), (r.po, r.ha)), ((r.nw, r.gr), r.go)), (((r.tr, r.rw), r.nm), ((r.fm, r.oc), r.ds))), ((((m, wd), (sc, r.sd)), ((r.ke, r.ro), r.hs)), (((r.gc, r.nb), r.fc), ((r.de, r.si), r.th)))) : R8)) := by
    intro n
    induction n using Nat.strongRecOn with
    | ind n ih =>
      intro i wd sc m hn hi hf hwd
      refine G_iload_n dX8_digestOf_146 rfl ?_
      refine G_iload_n dX8_digestOf_147 rfl ?_
      refine G_icmp_geN (tgt := 162) (64 * i) (64 * K) dX8_digestOf_148 (by decide) rfl rfl (by omega) (by omega) (fun hge => ?_) (fun hlt => ?_)
      · have e : i = K := by omega
        subst e
        refine G_ret (v := none) ⟨dX8_digestOf_162, rfl⟩ ⟨_, rfl, rfl, wd, sc, m, rfl, fun j hj => ?_⟩
        rw [hwd j hj, dig_bk (by omega) hm hK hf hj]
      refine G_aload_n dX8_digestOf_151 rfl ?_
      refine G_iload_n dX8_digestOf_152 rfl ?_
      refine G_V8 (as := [.int (nI (64 * i))]) (st := []) cX8_digestOf_153 (con8_block d (64 * i) (by omega) ((((((r.bl, r.co), (r.po, r.ha)), ((r.nw, r.gr), r.go)), (((r.tr, r.rw), r.nm), ((r.fm, r.oc), r.ds))), ((((m, wd), (sc, r.sd)), ((r.ke, r.ro), r.hs)), (((r.gc, r.nb), r.fc), ((r.de, r.si), r.th)))) : R8) (bk m i) hwd) rfl rfl rfl rfl rfl (Nat.le_of_ble_eq_true rfl) dX8_digestOf_153 (fun r2 v2 hq => ?_)
      obtain ⟨rfl, wd2, sc2, rfl, hwd2⟩ := hq
      refine G_w (st' := []) (w' := w8 ((((((r.bl, r.co), (r.po, r.ha)), ((r.nw, r.gr), r.go)), (((r.tr, r.rw), r.nm), ((r.fm, r.oc), r.ds))), ((((m, wd2), (sc2, r.sd)), ((r.ke, r.ro), r.hs)), (((r.gc, r.nb), r.fc), ((r.de, r.si), r.th)))) : R8)) rfl rfl ?_
      refine G_iinc (L' := [_, _, _, _]) (v := nI (64 * (i + 1))) dX8_digestOf_156 rfl (nI_add (64 * i) 64) rfl ?_
      refine G_goto (tgt := 146) dX8_digestOf_159 (by decide) ?_
      exact ih (K - (i + 1)) (by omega) (i + 1) wd2 sc2 m rfl (by omega) hf hwd2
  have lens : ∀ (n t : Nat) (kv : Int32) (wd sc : Nat → Int64) (m : Nat → Int32), 8 - t = n → t ≤ 8 → (t < 8 → kv = nI (7 - t)) → (t = 8 → kv = -1) → (∀ q, q < msg.length + 1 + pz msg.length + t → uw (m q) % 256 = FB msg q) → (∀ j, j < 8 → wd j = zx (ab_l ab_start j)) → G ab_x0 mX8_digestOf (d + 2) 0 0 (fun w' v => ∃ r', w' = w8 r' ∧ v = none ∧ ∃ wd sc m, r' = ((((((r.bl, r.co), (r.po, r.ha)), ((r.nw, r.gr), r.go)), (((r.tr, r.rw), r.nm), ((r.fm, r.oc), r.ds))), ((((m, wd), (sc, r.sd)), ((r.ke, r.ro), r.hs)), (((r.gc, r.nb), r.fc), ((r.de, r.si), r.th)))) : R8) ∧ ∀ j, j < 8 → wd j = zx (dig msg j)) 112 [some (.ref 100), some (.int (nI msg.length)), some (.int (nI (msg.length + 1 + pz msg.length + t))), some (.int kv)] [] (w8 ((((((r.bl, r.co), (r.po, r.ha)), ((r.nw, r.gr), r.go)), (((r.tr, r.rw), r.nm), ((r.fm, r.oc), r.ds))), ((((m, wd), (sc, r.sd)), ((r.ke, r.ro), r.hs)), (((r.gc, r.nb), r.fc), ((r.de, r.si), r.th)))) : R8)) := by
    intro n
    induction n using Nat.strongRecOn with
    | ind n ih =>
      intro t kv wd sc m hn ht hk1 hk2 hf hwd
      refine G_iload_n dX8_digestOf_112 rfl ?_
      by_cases h8 : t = 8
      · rw [hk2 h8]
        refine G_if_lt (tgt := 144) dX8_digestOf_113 (by decide) (fun _ => ?_) (fun h => absurd (by decide) h)
        refine G_iconst (v := 0) dX8_digestOf_144 (by decide) ?_
        refine G_istore_n (L' := [_, _, _, _]) dX8_digestOf_145 (Nat.le_of_ble_eq_true rfl) rfl ?_
        have e : msg.length + 1 + pz msg.length + t = 64 * K := by omega
        rw [e] at hf ⊢
        exact blk K 0 wd sc m (by omega) (by omega) hf hwd
      have hkv := hk1 (by omega)
      refine G_if_lt (tgt := 144) dX8_digestOf_113 (by decide) (fun h => absurd (hkv ▸ h) (nI_pos (by omega))) (fun _ => ?_)
      refine G_aload_n dX8_digestOf_116 rfl ?_
      refine G_get (f := 21) kc9 dX8_digestOf_117 fX8_186 (by decide) rfl rfl ?_
      refine G_iload_n dX8_digestOf_120 rfl ?_
      refine G_ldc2 dX8_digestOf_121 kX8_224 ?_
      refine G_iload_n dX8_digestOf_124 rfl ?_
      refine G_i2l dX8_digestOf_125 ?_
      refine G_lmul dX8_digestOf_126 ?_
      refine G_bipush (v := 8) dX8_digestOf_127 (by decide) ?_
      refine G_iload_n dX8_digestOf_129 rfl ?_
      refine G_imul dX8_digestOf_130 ?_
      refine G_lshr dX8_digestOf_131 ?_
      refine G_l2i dX8_digestOf_132 ?_
      refine G_i2b dX8_digestOf_133 ?_
      refine G_bastN (w' := w8 ((((((r.bl, r.co), (r.po, r.ha)), ((r.nw, r.gr), r.go)), (((r.tr, r.rw), r.nm), ((r.fm, r.oc), r.ds))), (((((upd m (msg.length + 1 + pz msg.length + t) (vp_nar .byte ((8 * (nI msg.length).toInt64) >>> ((8 * kv).toInt64 &&& 63)).toInt32.toInt8.toInt32)), wd), (sc, r.sd)), ((r.ke, r.ro), r.hs)), (((r.gc, r.nb), r.fc), ((r.de, r.si), r.th)))) : R8)) (msg.length + 1 + pz msg.length + t) dX8_digestOf_134 rfl rfl (by omega) (by decide) rfl ?_
      refine G_iinc (L' := [_, _, _, _]) (v := nI (msg.length + 1 + pz msg.length + (t + 1))) dX8_digestOf_135 rfl (nI_1 _) rfl ?_
      refine G_iinc (L' := [_, _, _, _]) (v := kv + (-1)) dX8_digestOf_138 rfl rfl rfl ?_
      refine G_goto (tgt := 112) dX8_digestOf_141 (by decide) ?_
      refine ih (8 - (t + 1)) (by omega) (t + 1) _ wd sc _ rfl (by omega) (fun h => ?_) (fun h => ?_) (fun q hq => ?_) hwd
      · rw [hkv, show 7 - t = 7 - (t + 1) + 1 by omega]
        exact pk_m1 _
      · rw [hkv, show 7 - t = 0 by omega]; rfl
      · by_cases e : q = msg.length + 1 + pz msg.length + t
        · rw [e, pk_us, len_byte msg.length t (by omega) (by omega) kv hkv]
          unfold FB
          rw [if_neg (by omega), if_neg (by omega), if_neg (by omega), show msg.length + 8 + pz msg.length - (msg.length + 1 + pz msg.length + t) = 7 - t by omega]
        · rw [pk_un e]; exact hf q (by omega)
  have zeros : ∀ (n i : Nat) (wd sc : Nat → Int64) (m : Nat → Int32) (z : Option Value), pz msg.length - i = n → i ≤ pz msg.length → (∀ q, q < msg.length + 1 + i → uw (m q) % 256 = FB msg q) → (∀ j, j < 8 → wd j = zx (ab_l ab_start j)) → G ab_x0 mX8_digestOf (d + 2) 0 0 (fun w' v => ∃ r', w' = w8 r' ∧ v = none ∧ ∃ wd sc m, r' = ((((((r.bl, r.co), (r.po, r.ha)), ((r.nw, r.gr), r.go)), (((r.tr, r.rw), r.nm), ((r.fm, r.oc), r.ds))), ((((m, wd), (sc, r.sd)), ((r.ke, r.ro), r.hs)), (((r.gc, r.nb), r.fc), ((r.de, r.si), r.th)))) : R8) ∧ ∀ j, j < 8 → wd j = zx (dig msg j)) 87 [some (.ref 100), some (.int (nI msg.length)), some (.int (nI (msg.length + 1 + i))), z] [] (w8 ((((((r.bl, r.co), (r.po, r.ha)), ((r.nw, r.gr), r.go)), (((r.tr, r.rw), r.nm), ((r.fm, r.oc), r.ds))), ((((m, wd), (sc, r.sd)), ((r.ke, r.ro), r.hs)), (((r.gc, r.nb), r.fc), ((r.de, r.si), r.th)))) : R8)) := by
    intro n
    induction n using Nat.strongRecOn with
    | ind n ih =>
      intro i wd sc m z hn hi hf hwd
      refine G_iload_n dX8_digestOf_87 rfl ?_
      refine G_bipush (v := 64) dX8_digestOf_88 (by decide) ?_
      refine G_irem dX8_digestOf_90 (by decide) ?_
      refine G_topi (y := nI ((msg.length + 1 + i) % 64)) (pk_rem (d := 64) (by omega) (by omega) (by omega)) ?_
      refine G_bipush (v := 56) dX8_digestOf_91 (by decide) ?_
      refine G_icmp_eqN (tgt := 109) ((msg.length + 1 + i) % 64) 56 dX8_digestOf_93 (by decide) rfl rfl (by omega) (by omega) (fun he => ?_) (fun hne => ?_)
      · have e : i = pz msg.length := by omega
        subst e
        refine G_bipush (v := 7) dX8_digestOf_109 (by decide) ?_
        refine G_istore_n (L' := [_, _, _, _]) dX8_digestOf_111 (Nat.le_of_ble_eq_true rfl) rfl ?_
        exact lens 8 0 7 wd sc m rfl (by omega) (fun _ => rfl) (fun h => by omega) (fun q hq => hf q (by omega)) hwd
      have hlt : i < pz msg.length := by
        rcases Nat.lt_or_ge i (pz msg.length) with h | h
        · exact h
        · exfalso; apply hne; rw [show i = pz msg.length by omega]; exact hz
      refine G_aload_n dX8_digestOf_96 rfl ?_
      refine G_get (f := 21) kc9 dX8_digestOf_97 fX8_186 (by decide) rfl rfl ?_
      refine G_iload_n dX8_digestOf_100 rfl ?_
      refine G_iconst (v := 0) dX8_digestOf_101 (by decide) ?_
      refine G_bastN (w' := w8 ((((((r.bl, r.co), (r.po, r.ha)), ((r.nw, r.gr), r.go)), (((r.tr, r.rw), r.nm), ((r.fm, r.oc), r.ds))), (((((upd m (msg.length + 1 + i) (vp_nar .byte 0)), wd), (sc, r.sd)), ((r.ke, r.ro), r.hs)), (((r.gc, r.nb), r.fc), ((r.de, r.si), r.th)))) : R8)) (msg.length + 1 + i) dX8_digestOf_102 rfl rfl (by omega) (by decide) rfl ?_
      refine G_iinc (L' := [_, _, _, _]) (v := nI (msg.length + 1 + (i + 1))) dX8_digestOf_103 rfl (nI_1 _) rfl ?_
      refine G_goto (tgt := 87) dX8_digestOf_106 (by decide) ?_
      refine ih (pz msg.length - (i + 1)) (by omega) (i + 1) wd sc _ _ rfl (by omega) (fun q hq => ?_) hwd
      by_cases e : q = msg.length + 1 + i
      · rw [e, pk_us, nar_low]
        unfold FB
        rw [if_neg (by omega), if_neg (by omega), if_pos (by omega)]
        rfl
      · rw [pk_un e]; exact hf q (by omega)
  refine G_aload_n dX8_digestOf_0 rfl ?_
  refine G_get (f := 23) kc9 dX8_digestOf_1 fX8_189 (by decide) rfl rfl ?_
  refine G_iconst (v := 0) dX8_digestOf_4 (by decide) ?_
  refine G_ldc2 dX8_digestOf_5 kX8_208 ?_
  refine G_lastN (w' := w8 ((((((r.bl, r.co), (r.po, r.ha)), ((r.nw, r.gr), r.go)), (((r.tr, r.rw), r.nm), ((r.fm, r.oc), r.ds))), ((((r.ms, vp_updL (r.wd) 0 1779033703), (r.sc, r.sd)), ((r.ke, r.ro), r.hs)), (((r.gc, r.nb), r.fc), ((r.de, r.si), r.th)))) : R8)) (0) dX8_digestOf_8 rfl rfl (by decide) (by decide) rfl ?_
  refine G_aload_n dX8_digestOf_9 rfl ?_
  refine G_get (f := 23) kc9 dX8_digestOf_10 fX8_189 (by decide) rfl rfl ?_
  refine G_iconst (v := 1) dX8_digestOf_13 (by decide) ?_
  refine G_ldc2 dX8_digestOf_14 kX8_210 ?_
  refine G_lastN (w' := w8 ((((((r.bl, r.co), (r.po, r.ha)), ((r.nw, r.gr), r.go)), (((r.tr, r.rw), r.nm), ((r.fm, r.oc), r.ds))), ((((r.ms, vp_updL (vp_updL (r.wd) 0 1779033703) 1 3144134277), (r.sc, r.sd)), ((r.ke, r.ro), r.hs)), (((r.gc, r.nb), r.fc), ((r.de, r.si), r.th)))) : R8)) (1) dX8_digestOf_17 rfl rfl (by decide) (by decide) rfl ?_
  refine G_aload_n dX8_digestOf_18 rfl ?_
  refine G_get (f := 23) kc9 dX8_digestOf_19 fX8_189 (by decide) rfl rfl ?_
  refine G_iconst (v := 2) dX8_digestOf_22 (by decide) ?_
  refine G_ldc2 dX8_digestOf_23 kX8_212 ?_
  refine G_lastN (w' := w8 ((((((r.bl, r.co), (r.po, r.ha)), ((r.nw, r.gr), r.go)), (((r.tr, r.rw), r.nm), ((r.fm, r.oc), r.ds))), ((((r.ms, vp_updL (vp_updL (vp_updL (r.wd) 0 1779033703) 1 3144134277) 2 1013904242), (r.sc, r.sd)), ((r.ke, r.ro), r.hs)), (((r.gc, r.nb), r.fc), ((r.de, r.si), r.th)))) : R8)) (2) dX8_digestOf_26 rfl rfl (by decide) (by decide) rfl ?_
  refine G_aload_n dX8_digestOf_27 rfl ?_
  refine G_get (f := 23) kc9 dX8_digestOf_28 fX8_189 (by decide) rfl rfl ?_
  refine G_iconst (v := 3) dX8_digestOf_31 (by decide) ?_
  refine G_ldc2 dX8_digestOf_32 kX8_214 ?_
  refine G_lastN (w' := w8 ((((((r.bl, r.co), (r.po, r.ha)), ((r.nw, r.gr), r.go)), (((r.tr, r.rw), r.nm), ((r.fm, r.oc), r.ds))), ((((r.ms, vp_updL (vp_updL (vp_updL (vp_updL (r.wd) 0 1779033703) 1 3144134277) 2 1013904242) 3 2773480762), (r.sc, r.sd)), ((r.ke, r.ro), r.hs)), (((r.gc, r.nb), r.fc), ((r.de, r.si), r.th)))) : R8)) (3) dX8_digestOf_35 rfl rfl (by decide) (by decide) rfl ?_
  refine G_aload_n dX8_digestOf_36 rfl ?_
  refine G_get (f := 23) kc9 dX8_digestOf_37 fX8_189 (by decide) rfl rfl ?_
  refine G_iconst (v := 4) dX8_digestOf_40 (by decide) ?_
  refine G_ldc2 dX8_digestOf_41 kX8_216 ?_
  refine G_lastN (w' := w8 ((((((r.bl, r.co), (r.po, r.ha)), ((r.nw, r.gr), r.go)), (((r.tr, r.rw), r.nm), ((r.fm, r.oc), r.ds))), ((((r.ms, vp_updL (vp_updL (vp_updL (vp_updL (vp_updL (r.wd) 0 1779033703) 1 3144134277) 2 1013904242) 3 2773480762) 4 1359893119), (r.sc, r.sd)), ((r.ke, r.ro), r.hs)), (((r.gc, r.nb), r.fc), ((r.de, r.si), r.th)))) : R8)) (4) dX8_digestOf_44 rfl rfl (by decide) (by decide) rfl ?_
  refine G_aload_n dX8_digestOf_45 rfl ?_
  refine G_get (f := 23) kc9 dX8_digestOf_46 fX8_189 (by decide) rfl rfl ?_
  refine G_iconst (v := 5) dX8_digestOf_49 (by decide) ?_
  refine G_ldc2 dX8_digestOf_50 kX8_218 ?_
  refine G_lastN (w' := w8 ((((((r.bl, r.co), (r.po, r.ha)), ((r.nw, r.gr), r.go)), (((r.tr, r.rw), r.nm), ((r.fm, r.oc), r.ds))), ((((r.ms, vp_updL (vp_updL (vp_updL (vp_updL (vp_updL (vp_updL (r.wd) 0 1779033703) 1 3144134277) 2 1013904242) 3 2773480762) 4 1359893119) 5 2600822924), (r.sc, r.sd)), ((r.ke, r.ro), r.hs)), (((r.gc, r.nb), r.fc), ((r.de, r.si), r.th)))) : R8)) (5) dX8_digestOf_53 rfl rfl (by decide) (by decide) rfl ?_
  refine G_aload_n dX8_digestOf_54 rfl ?_
  refine G_get (f := 23) kc9 dX8_digestOf_55 fX8_189 (by decide) rfl rfl ?_
  refine G_bipush (v := 6) dX8_digestOf_58 (by decide) ?_
  refine G_ldc2 dX8_digestOf_60 kX8_220 ?_
  refine G_lastN (w' := w8 ((((((r.bl, r.co), (r.po, r.ha)), ((r.nw, r.gr), r.go)), (((r.tr, r.rw), r.nm), ((r.fm, r.oc), r.ds))), ((((r.ms, vp_updL (vp_updL (vp_updL (vp_updL (vp_updL (vp_updL (vp_updL (r.wd) 0 1779033703) 1 3144134277) 2 1013904242) 3 2773480762) 4 1359893119) 5 2600822924) 6 528734635), (r.sc, r.sd)), ((r.ke, r.ro), r.hs)), (((r.gc, r.nb), r.fc), ((r.de, r.si), r.th)))) : R8)) (6) dX8_digestOf_63 rfl rfl (by decide) (by decide) rfl ?_
  refine G_aload_n dX8_digestOf_64 rfl ?_
  refine G_get (f := 23) kc9 dX8_digestOf_65 fX8_189 (by decide) rfl rfl ?_
  refine G_bipush (v := 7) dX8_digestOf_68 (by decide) ?_
  refine G_ldc2 dX8_digestOf_70 kX8_222 ?_
  refine G_lastN (w' := w8 ((((((r.bl, r.co), (r.po, r.ha)), ((r.nw, r.gr), r.go)), (((r.tr, r.rw), r.nm), ((r.fm, r.oc), r.ds))), ((((r.ms, vp_updL (vp_updL (vp_updL (vp_updL (vp_updL (vp_updL (vp_updL (vp_updL (r.wd) 0 1779033703) 1 3144134277) 2 1013904242) 3 2773480762) 4 1359893119) 5 2600822924) 6 528734635) 7 1541459225), (r.sc, r.sd)), ((r.ke, r.ro), r.hs)), (((r.gc, r.nb), r.fc), ((r.de, r.si), r.th)))) : R8)) (7) dX8_digestOf_73 rfl rfl (by decide) (by decide) rfl ?_
  obtain ⟨wd, hwd⟩ : ∃ z, z = vp_updL (vp_updL (vp_updL (vp_updL (vp_updL (vp_updL (vp_updL (vp_updL (r.wd) 0 1779033703) 1 3144134277) 2 1013904242) 3 2773480762) 4 1359893119) 5 2600822924) 6 528734635) 7 1541459225 := ⟨_, rfl⟩
  have hwd2 : ∀ j, j < 8 → wd j = zx (ab_l ab_start j) := fun j hj => by
    rw [start_zx j hj, hwd]
    match j, hj with
    | 0, _ => rfl
    | 1, _ => rfl
    | 2, _ => rfl
    | 3, _ => rfl
    | 4, _ => rfl
    | 5, _ => rfl
    | 6, _ => rfl
    | 7, _ => rfl
  refine G_w (st' := []) (w' := w8 ((((((r.bl, r.co), (r.po, r.ha)), ((r.nw, r.gr), r.go)), (((r.tr, r.rw), r.nm), ((r.fm, r.oc), r.ds))), ((((r.ms, wd), (r.sc, r.sd)), ((r.ke, r.ro), r.hs)), (((r.gc, r.nb), r.fc), ((r.de, r.si), r.th)))) : R8)) rfl (by rw [hwd]) ?_
  refine G_iload_n dX8_digestOf_74 rfl ?_
  refine G_istore_n (L' := [_, _, _, _]) dX8_digestOf_75 (Nat.le_of_ble_eq_true rfl) rfl ?_
  refine G_aload_n dX8_digestOf_76 rfl ?_
  refine G_get (f := 21) kc9 dX8_digestOf_77 fX8_186 (by decide) rfl rfl ?_
  refine G_iload_n dX8_digestOf_80 rfl ?_
  refine G_bipush (v := (-128)) dX8_digestOf_81 (by decide) ?_
  refine G_bastN (w' := w8 ((((((r.bl, r.co), (r.po, r.ha)), ((r.nw, r.gr), r.go)), (((r.tr, r.rw), r.nm), ((r.fm, r.oc), r.ds))), (((((upd r.ms msg.length (vp_nar .byte (-128))), wd), (r.sc, r.sd)), ((r.ke, r.ro), r.hs)), (((r.gc, r.nb), r.fc), ((r.de, r.si), r.th)))) : R8)) (msg.length) dX8_digestOf_83 rfl rfl (by omega) (by decide) rfl ?_
  refine G_iinc (L' := [_, _, _, _]) (v := nI (msg.length + 1)) dX8_digestOf_84 rfl (nI_1 _) rfl ?_
  refine zeros (pz msg.length) 0 wd r.sc _ none rfl (by omega) (fun q hq => ?_) hwd2
  unfold FB
  by_cases e : q = msg.length
  · rw [e, pk_us, nar_low, if_neg (by omega), if_pos rfl]; rfl
  · rw [pk_un e, if_pos (by omega)]; exact hms q (by omega)
def ocB (D : Nat → Int32) (k : Nat) : Int32 := vp_nar .byte (us (D (k / 4)) (nI (24 - 8 * (k % 4)))).toInt8.toInt32
set_option maxRecDepth 20000 in
set_option maxHeartbeats 1000000 in
theorem con8_octetsOf (d : Nat) (r : R8) (D : Nat → Int32) (hD : ∀ j, j < 8 → r.wd j = zx (D j)) : Con mX8_octetsOf (d) 0 0 (w8 r) [.ref 100] (fun w' v => ∃ r', w' = w8 r' ∧ v = none ∧ ∃ oc, r' = ((((((r.bl, r.co), (r.po, r.ha)), ((r.nw, r.gr), r.go)), (((r.tr, r.rw), r.nm), ((r.fm, oc), r.ds))), ((((r.ms, r.wd), (r.sc, r.sd)), ((r.ke, r.ro), r.hs)), (((r.gc, r.nb), r.fc), ((r.de, r.si), r.th)))) : R8) ∧ ∀ k, k < 32 → oc k = ocB D k) := by
  refine Con.of (ab_okc rfl (by decide)) (Nat.le_of_ble_eq_true rfl) ?_
  show G ab_x0 mX8_octetsOf (d) 0 0 _ 0 [some (.ref 100), none] [] _
  refine G_iconst (v := 0) dX8_octetsOf_0 (by decide) ?_
  refine G_istore_n (L' := [_, _]) dX8_octetsOf_1 (Nat.le_of_ble_eq_true rfl) rfl ?_
  have loop : ∀ (n k : Nat) (oc : Nat → Int32), 32 - k = n → k ≤ 32 → (∀ q, q < k → oc q = ocB D q) → G ab_x0 mX8_octetsOf d 0 0 (fun w' v => ∃ r', w' = w8 r' ∧ v = none ∧ ∃ oc, r' = ((((((r.bl, r.co), (r.po, r.ha)), ((r.nw, r.gr), r.go)), (((r.tr, r.rw), r.nm), ((r.fm, oc), r.ds))), ((((r.ms, r.wd), (r.sc, r.sd)), ((r.ke, r.ro), r.hs)), (((r.gc, r.nb), r.fc), ((r.de, r.si), r.th)))) : R8) ∧ ∀ k, k < 32 → oc k = ocB D k) 2 [some (.ref 100), some (.int (nI k))] [] (w8 ((((((r.bl, r.co), (r.po, r.ha)), ((r.nw, r.gr), r.go)), (((r.tr, r.rw), r.nm), ((r.fm, oc), r.ds))), ((((r.ms, r.wd), (r.sc, r.sd)), ((r.ke, r.ro), r.hs)), (((r.gc, r.nb), r.fc), ((r.de, r.si), r.th)))) : R8)) := by
    intro n
    induction n using Nat.strongRecOn with
    | ind n ih =>
      intro k oc hn hk hoc
      refine G_iload_n dX8_octetsOf_2 rfl ?_
      refine G_bipush (v := 32) dX8_octetsOf_3 (by decide) ?_
      refine G_icmp_geN (tgt := 40) k 32 dX8_octetsOf_5 (by decide) rfl rfl (by omega) (by omega) (fun hge => ?_) (fun hlt => ?_)
      · exact G_ret (v := none) ⟨dX8_octetsOf_40, rfl⟩ ⟨_, rfl, rfl, oc, rfl, fun q hq => hoc q (by omega)⟩
      refine G_aload_n dX8_octetsOf_8 rfl ?_
      refine G_get (f := 18) kc9 dX8_octetsOf_9 fX8_179 (by decide) rfl rfl ?_
      refine G_iload_n dX8_octetsOf_12 rfl ?_
      refine G_aload_n dX8_octetsOf_13 rfl ?_
      refine G_get (f := 23) kc9 dX8_octetsOf_14 fX8_189 (by decide) rfl rfl ?_
      refine G_iload_n dX8_octetsOf_17 rfl ?_
      refine G_iconst (v := 4) dX8_octetsOf_18 (by decide) ?_
      refine G_idiv dX8_octetsOf_19 (by decide) ?_
      refine G_laldN (k / 4) dX8_octetsOf_20 rfl (pk_div (d := 4) (by omega) (by omega) (by omega)) (by omega) (by decide) ?_
      refine G_topl (y := zx (D (k / 4))) (hD _ (by omega)) ?_
      refine G_bipush (v := 24) dX8_octetsOf_21 (by decide) ?_
      refine G_bipush (v := 8) dX8_octetsOf_23 (by decide) ?_
      refine G_iload_n dX8_octetsOf_25 rfl ?_
      refine G_iconst (v := 4) dX8_octetsOf_26 (by decide) ?_
      refine G_irem dX8_octetsOf_27 (by decide) ?_
      refine G_topi (y := nI (k % 4)) (pk_rem (d := 4) (by omega) (by omega) (by omega)) ?_
      refine G_imul dX8_octetsOf_28 ?_
      refine G_topi (y := nI (8 * (k % 4))) (pk_mul 8 _) ?_
      refine G_isub dX8_octetsOf_29 ?_
      refine G_topi (y := nI (24 - 8 * (k % 4))) (pk_sub (a := 24) (by omega)) ?_
      refine G_lshr dX8_octetsOf_30 ?_
      refine G_topl (y := zx (us (D (k / 4)) (nI (24 - 8 * (k % 4))))) (zx_shr _ _ (by omega)) ?_
      refine G_l2i dX8_octetsOf_31 ?_
      refine G_topi (y := us (D (k / 4)) (nI (24 - 8 * (k % 4)))) (zx_t _) ?_
      refine G_i2b dX8_octetsOf_32 ?_
      refine G_bastN (w' := w8 ((((((r.bl, r.co), (r.po, r.ha)), ((r.nw, r.gr), r.go)), (((r.tr, r.rw), r.nm), ((r.fm, upd oc k (vp_nar .byte (us (D (k / 4)) (nI (24 - 8 * (k % 4)))).toInt8.toInt32)), r.ds))), ((((r.ms, r.wd), (r.sc, r.sd)), ((r.ke, r.ro), r.hs)), (((r.gc, r.nb), r.fc), ((r.de, r.si), r.th)))) : R8)) (k) dX8_octetsOf_33 rfl rfl (by omega) (by decide) rfl ?_
      refine G_iinc (L' := [_, _]) (v := nI (k + 1)) dX8_octetsOf_34 rfl (nI_1 _) rfl ?_
      refine G_goto (tgt := 2) dX8_octetsOf_37 (by decide) ?_
      refine ih (32 - (k + 1)) (by omega) (k + 1) _ rfl (by omega) (fun q hq => ?_)
      by_cases e : q = k
      · rw [e, pk_us]; rfl
      · rw [pk_un e]; exact hoc q (by omega)
  exact loop 32 0 r.oc rfl (by omega) (fun q hq => by omega)
