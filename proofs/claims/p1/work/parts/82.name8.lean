/-! The reference: name. -/
def NMg (n : Nat) (o rk h : Nat → Nat) : Prop := ∀ c, c < n → rk (o (h c - 1)) = rk c
theorem NMg_loc {n : Nat} {o rk : Nat → Nat} : Loc n (NMg n o rk) := fun h s e hN c hc => by rw [← e c hc]; exact hN c hc
def sameR (a b : Nat → Nat) (n : Nat) : Prop := ∀ k, k < n → a k = b k
/-- among the orders before x that are namings: B has the least row, is the first with it, m have it -/
def Best (n nt : Nat) (q o rk : Nat → Nat) (x m : Nat) (B : Nat → Nat) : Prop :=
  (m = 0 ∧ ∀ s, PermH n s → NMg n o rk s → x ≤ enc s n) ∨
  (0 < m ∧ PermH n B ∧ NMg n o rk B ∧ enc B n < x ∧ (∀ s, PermH n s → NMg n o rk s → enc s n < x → ¬ LtR (rowF q nt s) (rowF q nt B) nt ∧ (sameR (rowF q nt s) (rowF q nt B) nt → enc B n ≤ enc s n)) ∧ m = nP n (fun s => NMg n o rk s ∧ sameR (rowF q nt s) (rowF q nt B) nt) x)
theorem LtR_tr {a b c : Nat → Nat} {n : Nat} (h1 : LtR a b n) (h2 : LtR b c n) : LtR a c n := by
  obtain ⟨i, a1, a2, a3⟩ := h1
  obtain ⟨j, b1, b2, b3⟩ := h2
  rcases Nat.lt_trichotomy i j with q | q | q
  · exact ⟨i, a1, fun k hk => by rw [a2 k hk, b2 k (by omega)], by rw [← b2 i q]; exact a3⟩
  · subst q; exact ⟨i, a1, fun k hk => by rw [a2 k hk, b2 k hk], by omega⟩
  · exact ⟨j, b1, fun k hk => by rw [a2 k (by omega), b2 k hk], by rw [a2 j q]; exact b3⟩
theorem LtR_irr {a b : Nat → Nat} {n : Nat} (h : LtR a b n) : ¬ sameR a b n := fun e => by
  obtain ⟨i, a1, a2, a3⟩ := h
  have := e i a1
  omega
theorem LtR_as {a b : Nat → Nat} {n : Nat} (h : LtR a b n) : ¬ LtR b a n := fun h2 => LtR_irr (LtR_tr h h2) (fun _ _ => rfl)
theorem LtR_l {a b c : Nat → Nat} {n : Nat} (e : sameR a b n) (h : LtR b c n) : LtR a c n := by
  obtain ⟨i, a1, a2, a3⟩ := h
  exact ⟨i, a1, fun k hk => by rw [e k (by omega), a2 k hk], by rw [e i a1]; exact a3⟩
theorem LtR_r {a b c : Nat → Nat} {n : Nat} (h : LtR a b n) (e : sameR b c n) : LtR a c n := by
  obtain ⟨i, a1, a2, a3⟩ := h
  exact ⟨i, a1, fun k hk => by rw [a2 k hk, e k (by omega)], by rw [← e i a1]; exact a3⟩
theorem rowF_loc {n nt : Nat} {q h s : Nat → Nat} (hq : keyN_ q nt n) (e : ∀ c, c < n → h c = s c) : rowF q nt h = rowF q nt s := by
  unfold rowF
  rw [row_loc hq e]
theorem bp_loc {n nt : Nat} {q o rk B : Nat → Nat} (hq : keyN_ q nt n) : Loc n (fun s => NMg n o rk s ∧ sameR (rowF q nt s) (rowF q nt B) nt) := fun h s e hN => ⟨NMg_loc h s e hN.1, by rw [← rowF_loc hq e]; exact hN.2⟩
theorem Best_up {n nt : Nat} {q o rk B : Nat → Nat} {x y m : Nat} (hxy : x ≤ y) (hy : y ≤ 9 ^ n) (hg : ∀ s, PermH n s → enc s n < x ∨ y ≤ enc s n) (h : Best n nt q o rk x m B) : Best n nt q o rk y m B := by
  rcases h with ⟨h1, h2⟩ | ⟨h1, h2, h3, h4, h5, h6⟩
  · refine Or.inl ⟨h1, fun s sp sn => ?_⟩
    have := h2 s sp sn
    rcases hg s sp with a | a <;> omega
  · refine Or.inr ⟨h1, h2, h3, by omega, fun s sp sn hlt => h5 s sp sn ?_, ?_⟩
    · rcases hg s sp with a | a <;> omega
    · rw [nP_gap hxy hy hg]; exact h6
theorem enc_eq' {n : Nat} (hn : n ≤ 8) {h s : Nat → Nat} (hp : PermH n h) (sp : PermH n s) (e : enc s n = enc h n) : ∀ c, c < n → s c = h c := enc_inj (perm8 hn sp) (perm8 hn hp) e
theorem Best_not {n nt : Nat} {q o rk B h : Nat → Nat} {m : Nat} (hn : n ≤ 8) (hq : keyN_ q nt n) (hp : PermH n h) (hN : ¬ NMg n o rk h) (hB : Best n nt q o rk (enc h n) m B) : Best n nt q o rk (enc h n + 1) m B := by
  have hs : ∀ s, PermH n s → NMg n o rk s → enc s n ≠ enc h n := fun s sp sn e => hN (NMg_loc s h (enc_eq' hn hp sp e) sn)
  rcases hB with ⟨h1, h2⟩ | ⟨h1, h2, h3, h4, h5, h6⟩
  · refine Or.inl ⟨h1, fun s sp sn => ?_⟩
    have a := h2 s sp sn
    have b := hs s sp sn
    omega
  · refine Or.inr ⟨h1, h2, h3, by omega, fun s sp sn hlt => h5 s sp sn (by have := hs s sp sn; omega), ?_⟩
    rw [nP_no hn (bp_loc hq) hp (fun z => hN z.1)]
    exact h6
theorem Best_more {n nt : Nat} {q o rk B h : Nat → Nat} {m : Nat} (hn : n ≤ 8) (hq : keyN_ q nt n) (hp : PermH n h) (hl : LtR (rowF q nt B) (rowF q nt h) nt) (hm : 0 < m) (hB : Best n nt q o rk (enc h n) m B) : Best n nt q o rk (enc h n + 1) m B := by
  rcases hB with ⟨h1, h2⟩ | ⟨h1, h2, h3, h4, h5, h6⟩
  · omega
  · refine Or.inr ⟨h1, h2, h3, by omega, fun s sp sn hlt => ?_, ?_⟩
    · by_cases e : enc s n = enc h n
      · have ee := enc_eq' hn hp sp e
        rw [rowF_loc hq ee]
        exact ⟨LtR_as hl, fun z => absurd (fun k hk => (z k hk).symm) (LtR_irr hl)⟩
      · exact h5 s sp sn (by omega)
    · rw [nP_no hn (bp_loc hq) hp (fun z => LtR_irr hl (fun k hk => (z.2 k hk).symm))]
      exact h6
theorem Best_same {n nt : Nat} {q o rk B h : Nat → Nat} {m : Nat} (hn : n ≤ 8) (hq : keyN_ q nt n) (hp : PermH n h) (hN : NMg n o rk h) (he : sameR (rowF q nt h) (rowF q nt B) nt) (hm : 0 < m) (hB : Best n nt q o rk (enc h n) m B) : Best n nt q o rk (enc h n + 1) (m + 1) B := by
  rcases hB with ⟨h1, h2⟩ | ⟨h1, h2, h3, h4, h5, h6⟩
  · omega
  · refine Or.inr ⟨by omega, h2, h3, by omega, fun s sp sn hlt => ?_, ?_⟩
    · by_cases e : enc s n = enc h n
      · have ee := enc_eq' hn hp sp e
        rw [rowF_loc hq ee]
        exact ⟨fun z => LtR_irr z he, fun _ => by omega⟩
      · exact h5 s sp sn (by omega)
    · rw [nP_yes hn (bp_loc hq) hp ⟨hN, he⟩, h6]
theorem Best_new {n nt : Nat} {q o rk B h : Nat → Nat} {m : Nat} (hn : n ≤ 8) (hq : keyN_ q nt n) (hp : PermH n h) (hN : NMg n o rk h) (hl : 0 < m → LtR (rowF q nt h) (rowF q nt B) nt) (hB : Best n nt q o rk (enc h n) m B) : Best n nt q o rk (enc h n + 1) 1 h := by
  have key : ∀ s, PermH n s → NMg n o rk s → enc s n < enc h n → LtR (rowF q nt h) (rowF q nt s) nt := fun s sp sn hlt => by
    rcases hB with ⟨h1, h2⟩ | ⟨h1, h2, h3, h4, h5, h6⟩
    · have := h2 s sp sn; omega
    · have hl := hl h1
      obtain ⟨i, a1, a2, a3⟩ := hl
      have h7 := (h5 s sp sn hlt).1
      -- row s is not before row B: so it is the same or behind
      have : sameR (rowF q nt s) (rowF q nt B) nt ∨ LtR (rowF q nt B) (rowF q nt s) nt := by
        rcases cmpR_spec (rowF q nt s) (rowF q nt B) nt with ⟨z, _⟩ | ⟨z, _⟩ | ⟨⟨j, b1, b2, b3⟩, _⟩
        · exact Or.inl z
        · exact absurd z h7
        · exact Or.inr ⟨j, b1, fun k hk => (b2 k hk).symm, b3⟩
      rcases this with z | z
      · exact LtR_r ⟨i, a1, a2, a3⟩ (fun k hk => (z k hk).symm)
      · exact LtR_tr ⟨i, a1, a2, a3⟩ z
  refine Or.inr ⟨by omega, hp, hN, by omega, fun s sp sn hlt => ?_, ?_⟩
  · by_cases e : enc s n = enc h n
    · exact ⟨fun z => LtR_irr z (by rw [rowF_loc hq (enc_eq' hn hp sp e)]; exact fun _ _ => rfl), fun _ => by omega⟩
    · have := key s sp sn (by omega)
      exact ⟨LtR_as this, fun z => absurd (fun k hk => (z k hk).symm) (LtR_irr this)⟩
  · rw [nP_yes hn (bp_loc hq) hp ⟨hN, fun _ _ => rfl⟩]
    have e0 : nP n (fun s => NMg n o rk s ∧ sameR (rowF q nt s) (rowF q nt h) nt) (enc h n) = 0 := by
      have := cntP_gap (P := fun y => PermH n (dec n y) ∧ NMg n o rk (dec n y) ∧ sameR (rowF q nt (dec n y)) (rowF q nt h) nt) (a := 0) (b := enc h n) (Nat.zero_le _) (fun y _ hy z => by
        have h9 := enc_bd (perm8 hn hp)
        have e := enc_dec n y (by omega)
        have := key _ z.1 z.2.1 (by omega)
        exact LtR_irr this (fun k hk => (z.2.2 k hk).symm))
      exact this
    rw [e0]
theorem Best_le {n nt : Nat} {q o rk B : Nat → Nat} {x m : Nat} (h : Best n nt q o rk x m B) : m ≤ x := by
  rcases h with ⟨h1, _⟩ | ⟨_, _, _, _, _, h6⟩
  · omega
  · rw [h6]; exact nP_le _ _ _
/-- what the latest name gave -/
def LT8 (r : R8) (n m : Nat) (N K : Nat → Nat) : Prop := r.nb = nI n ∧ n ≤ 8 ∧ r.fc = nI m ∧ m ≤ 40 ∧ (∀ c, c < n → r.nm (c + 1) = nI (N c)) ∧ hR r.fm K m ∧ ∀ j, j < 32 → r.oc j = ocB (dig (fmB K m)) j
theorem fm_word {K : Nat → Nat} : ∀ {m : Nat}, (fmB K m).length = 12 * m ∧ ∀ x ∈ fmB K m, uw x < 256
  | 0 => ⟨rfl, fun x hx => absurd hx List.not_mem_nil⟩
  | m + 1 => by
    obtain ⟨h1, h2⟩ := fm_word (K := K) (m := m)
    have b4 : ∀ y x, x ∈ bys 4 y → uw x < 256 := fun y x hx => by
      rw [bys4] at hx
      obtain ⟨j, _, rfl⟩ := List.mem_map.mp hx
      exact g4_lt _ _
    refine ⟨?_, fun x hx => ?_⟩
    · rw [fmB, List.length_append, List.length_append, List.length_append, bys_len, bys_len, bys_len, h1]; omega
    · rw [fmB] at hx
      rcases List.mem_append.mp hx with z | z
      · exact h2 x z
      · rcases List.mem_append.mp z with z | z
        · exact b4 _ x z
        · rcases List.mem_append.mp z with z | z <;> exact b4 _ x z
/-- the bytes of the first i points -/
def fmI (K : Nat → Nat) (i : Nat) : List Int32 := match i % 3 with
  | 0 => fmB K (i / 3)
  | 1 => fmB K (i / 3) ++ bys 4 (pt (K (i / 3)) 0)
  | _ => fmB K (i / 3) ++ (bys 4 (pt (K (i / 3)) 0) ++ bys 4 (pt (K (i / 3)) 1))
theorem fmI_s (K : Nat → Nat) (i : Nat) : fmI K i ++ bys 4 (pt (K (i / 3)) (i % 3)) = fmI K (i + 1) := by
  unfold fmI
  have hm : i % 3 = 0 ∨ i % 3 = 1 ∨ i % 3 = 2 := by omega
  rcases hm with e | e | e
  · rw [e, show (i + 1) % 3 = 1 by omega, show (i + 1) / 3 = i / 3 by omega]
    rfl
  · rw [e, show (i + 1) % 3 = 2 by omega, show (i + 1) / 3 = i / 3 by omega]
    show (_ ++ _) ++ _ = _
    rw [List.append_assoc]
    rfl
  · rw [e, show (i + 1) % 3 = 0 by omega, show (i + 1) / 3 = i / 3 + 1 by omega]
    show (_ ++ (_ ++ _)) ++ _ = fmB K (i / 3 + 1)
    rw [fmB, List.append_assoc, List.append_assoc]
    rfl
theorem fmI_3 (K : Nat → Nat) (m : Nat) : fmI K (3 * m) = fmB K m := by
  unfold fmI
  rw [show 3 * m % 3 = 0 by omega, show 3 * m / 3 = m by omega]
  rfl
theorem fmI_len (K : Nat → Nat) : ∀ i, (fmI K i).length = 4 * i
  | 0 => rfl
  | i + 1 => by rw [← fmI_s, List.length_append, fmI_len K i, bys_len]; omega
set_option maxRecDepth 20000 in
set_option maxHeartbeats 8000000 in
theorem con8_name (d nb nt : Nat) (hnb : nb ≤ 8) (hnt : nt ≤ 40) (r : R8) (hb : r.bl 8 = nI nb) (hc : r.co 8 = nI nt) (q : Nat → Nat) (hp : pts r.po 960 q nt nb) (hs : HS8 r q nb nt) (steps : Int64) : Con mX8_name (d + 6) 0 0 (w8 r) [.ref 100, .long steps] (fun w' v => ∃ r', w' = w8 r' ∧ (r'.bl = r.bl ∧ r'.co = r.co ∧ r'.po = r.po ∧ r'.ke = r.ke ∧ r'.th = 0 ∧ r'.hs = 1) ∧ ∃ F R o rk st cn, Hd r' q nb nt F R o rk st cn ∧ (((¬ lN (nmg st cn) ≤ steps) ∧ (r'.nm = r.nm ∧ r'.fm = r.fm ∧ r'.oc = r.oc ∧ r'.nb = r.nb ∧ r'.fc = r.fc) ∧ v = some (.int (-1))) ∨ (lN (nmg st cn) ≤ steps ∧ ∃ m B, Best nb nt q o rk (9 ^ nb) m B ∧ v = some (.int (nI m)) ∧ (0 < m → LT8 r' nb nt B (rowF q nt B))))) := by
  refine Con.of (ab_okc rfl (by decide)) (Nat.le_of_ble_eq_true rfl) ?_
  show G ab_x0 mX8_name (d + 6) 0 0 _ 0 [some (.ref 100), some (.long steps), none, none, none, none, none] [] _
  refine G_aload_n dX8_name_0 rfl ?_
  refine G_iconst (v := 0) dX8_name_1 (by decide) ?_
  refine G_put (w' := w8 ((((((r.bl, r.co), (r.po, r.ha)), ((r.nw, r.gr), r.go)), (((r.tr, r.rw), r.nm), ((r.fm, r.oc), r.ds))), ((((r.ms, r.wd), (r.sc, r.sd)), ((r.ke, r.ro), r.hs)), (((r.gc, r.nb), r.fc), ((r.de, r.si), 0)))) : R8)) (f := 25) kc9 dX8_name_2 fX8_1 (by decide) rfl rfl rfl rfl (Nat.le_of_ble_eq_true rfl) rfl ?_
  refine G_aload_n dX8_name_5 rfl ?_
  refine G_V8 (as := []) (st := []) cX8_name_6 (con8_makeHashes _ nb nt hnb hnt ((((((r.bl, r.co), (r.po, r.ha)), ((r.nw, r.gr), r.go)), (((r.tr, r.rw), r.nm), ((r.fm, r.oc), r.ds))), ((((r.ms, r.wd), (r.sc, r.sd)), ((r.ke, r.ro), r.hs)), (((r.gc, r.nb), r.fc), ((r.de, r.si), 0)))) : R8) hb hc q hp hs) rfl rfl rfl rfl rfl (Nat.le_of_ble_eq_true rfl) dX8_name_6 (fun r2 v2 hq => ?_)
  obtain ⟨rfl, hSm, hs2, F, R, o, rk, st, cn, hH⟩ := hq
  obtain ⟨hH1, hHa, hG, hro, hgc, hgr, hgo⟩ := id hH
  obtain ⟨s1, s2, s3, s4, s5, s6, s7, s8', s9, s10, s11⟩ := hSm
  have hb2 : r2.bl 8 = nI nb := by rw [s1]; exact hb
  have hc2 : r2.co 8 = nI nt := by rw [s2]; exact hc
  have hp2 : pts r2.po 960 q nt nb := by rw [s3]; exact hp
  have hrk8 : ∀ b, b < nb → rk b < 8 := (gp_rkOk hnb hG).2
  have hkey := pts_key hp
  refine G_w (st' := []) (w' := w8 r2) rfl rfl ?_
  refine G_aload_n dX8_name_9 rfl ?_
  refine G_V8 (as := []) (st := []) cX8_name_10 (con8_namings _ nb cn hnb r2 hb2 (hv F) o rk st hG hgc hgr) rfl rfl rfl rfl rfl (Nat.le_of_ble_eq_true rfl) dX8_name_10 (fun r3 v3 hq => ?_)
  obtain ⟨rfl, rfl⟩ := hq
  refine G_w (st' := [.long (lN (nmg st cn))]) (w' := w8 r3) rfl rfl ?_
  refine G_lload_n dX8_name_13 rfl ?_
  refine G_lcmp dX8_name_14 ?_
  refine G_if_le (tgt := 20) dX8_name_15 (by decide) (fun hle => ?_) (fun hgt => ?_)
  rotate_left
  · refine G_iconst (v := -1) dX8_name_18 (by decide) ?_
    exact G_ret (v := some (.int _)) ⟨dX8_name_19, _, rfl, rfl⟩ ⟨r3, rfl, ⟨s1, s2, s3, s8', s11, hs2⟩, F, R, o, rk, st, cn, hH, Or.inl ⟨fun z => hgt ((lg_cmp_le _ _).mpr z), ⟨s5, s6, s7, s9, s10⟩, rfl⟩⟩
  have hle2 := (lg_cmp_le _ _).mp hle
  refine G_aload_n dX8_name_20 rfl ?_
  refine G_get (f := 1) kc9 dX8_name_21 fX8_145 (by decide) rfl rfl ?_
  refine G_bipush (v := 8) dX8_name_24 (by decide) ?_
  refine G_ialdN (8) dX8_name_26 rfl rfl (by decide) (by decide) ?_
  refine G_topi hb2 ?_
  refine G_istore_n (L' := [_, _, _, _, _, _, _]) dX8_name_27 (Nat.le_of_ble_eq_true rfl) rfl ?_
  refine G_iconst (v := 0) dX8_name_28 (by decide) ?_
  refine G_istore (L' := [_, _, _, _, _, _, _]) dX8_name_29 (Nat.le_of_ble_eq_true rfl) rfl ?_
  refine G_aload_n dX8_name_31 rfl ?_
  refine G_iload_n dX8_name_32 rfl ?_
  refine G_V8 (as := [.int (nI nb)]) (st := []) cX8_name_33 (con8_begin _ nb r3 hnb) rfl rfl rfl rfl rfl (Nat.le_of_ble_eq_true rfl) dX8_name_33 (fun r4 v4 hq => ?_)
  obtain ⟨rfl, t0, rfl, ht0⟩ := hq
  refine G_w (st' := []) (w' := w8 ((((((r3.bl, r3.co), (r3.po, r3.ha)), ((r3.nw, r3.gr), r3.go)), (((t0, r3.rw), r3.nm), ((r3.fm, r3.oc), r3.ds))), ((((r3.ms, r3.wd), (r3.sc, r3.sd)), ((r3.ke, r3.ro), r3.hs)), (((r3.gc, r3.nb), r3.fc), ((r3.de, r3.si), r3.th)))) : R8)) rfl rfl ?_
  refine G_iconst (v := 1) dX8_name_36 (by decide) ?_
  refine G_istore (L' := [_, _, _, _, _, _, _]) dX8_name_37 (Nat.le_of_ble_eq_true rfl) rfl ?_
  have n9 : 9 ^ nb ≤ 9 ^ 8 := Nat.pow_le_pow_right (by decide) hnb
  -- the end
  have fin : ∀ (r1 : R8) (m : Nat) (B : Nat → Nat) (z6 : Option Value), (r1.bl = r.bl ∧ r1.co = r.co ∧ r1.po = r.po ∧ r1.ke = r.ke ∧ r1.th = 0 ∧ r1.hs = 1) → Hd r1 q nb nt F R o rk st cn → Best nb nt q o rk (9 ^ nb) m B → (0 < m → (∀ c, c < nb → r1.nm (c + 1) = nI (B c)) ∧ hL r1.fm (rowL q nt B)) → G ab_x0 mX8_name (d + 6) 0 0 (fun w' v => ∃ r', w' = w8 r' ∧ (r'.bl = r.bl ∧ r'.co = r.co ∧ r'.po = r.po ∧ r'.ke = r.ke ∧ r'.th = 0 ∧ r'.hs = 1) ∧ ∃ F R o rk st cn, Hd r' q nb nt F R o rk st cn ∧ (((¬ lN (nmg st cn) ≤ steps) ∧ (r'.nm = r.nm ∧ r'.fm = r.fm ∧ r'.oc = r.oc ∧ r'.nb = r.nb ∧ r'.fc = r.fc) ∧ v = some (.int (-1))) ∨ (lN (nmg st cn) ≤ steps ∧ ∃ m B, Best nb nt q o rk (9 ^ nb) m B ∧ v = some (.int (nI m)) ∧ (0 < m → LT8 r' nb nt B (rowF q nt B))))) 116 [some (.ref 100), some (.long steps), none, some (.int (nI nb)), some (.int (nI m)), some (.int 0), z6] [] (w8 r1) := by
    intro r1 m B z6 hSb hHd hBest hfm
    have hm9 := Best_le hBest
    have hc1 : r1.co 8 = nI nt := by rw [hSb.2.1]; exact hc
    refine G_aload_n dX8_name_116 rfl ?_
    refine G_iload_n dX8_name_117 rfl ?_
    refine G_put (w' := w8 ((((((r1.bl, r1.co), (r1.po, r1.ha)), ((r1.nw, r1.gr), r1.go)), (((r1.tr, r1.rw), r1.nm), ((r1.fm, r1.oc), r1.ds))), ((((r1.ms, r1.wd), (r1.sc, r1.sd)), ((r1.ke, r1.ro), r1.hs)), (((r1.gc, nI nb), r1.fc), ((r1.de, r1.si), r1.th)))) : R8)) (f := 15) kc9 dX8_name_118 fX8_331 (by decide) rfl rfl rfl rfl (Nat.le_of_ble_eq_true rfl) rfl ?_
    refine G_aload_n dX8_name_121 rfl ?_
    refine G_aload_n dX8_name_122 rfl ?_
    refine G_get (f := 2) kc9 dX8_name_123 fX8_149 (by decide) rfl rfl ?_
    refine G_bipush (v := 8) dX8_name_126 (by decide) ?_
    refine G_ialdN (8) dX8_name_128 rfl rfl (by decide) (by decide) ?_
    refine G_topi hc1 ?_
    refine G_put (w' := w8 ((((((r1.bl, r1.co), (r1.po, r1.ha)), ((r1.nw, r1.gr), r1.go)), (((r1.tr, r1.rw), r1.nm), ((r1.fm, r1.oc), r1.ds))), ((((r1.ms, r1.wd), (r1.sc, r1.sd)), ((r1.ke, r1.ro), r1.hs)), (((r1.gc, nI nb), nI nt), ((r1.de, r1.si), r1.th)))) : R8)) (f := 17) kc9 dX8_name_129 fX8_334 (by decide) rfl rfl rfl rfl (Nat.le_of_ble_eq_true rfl) rfl ?_
    refine G_aload_n dX8_name_132 rfl ?_
    refine G_iconst (v := 0) dX8_name_133 (by decide) ?_
    refine G_put (w' := w8 ((((((r1.bl, r1.co), (r1.po, r1.ha)), ((r1.nw, r1.gr), r1.go)), (((r1.tr, r1.rw), r1.nm), ((r1.fm, r1.oc), r1.ds))), ((((r1.ms, r1.wd), (r1.sc, r1.sd)), ((r1.ke, r1.ro), r1.hs)), (((r1.gc, nI nb), nI nt), ((r1.de, nI 0), r1.th)))) : R8)) (f := 22) kc9 dX8_name_134 fX8_235 (by decide) rfl rfl rfl rfl (Nat.le_of_ble_eq_true rfl) rfl ?_
    refine G_iconst (v := 0) dX8_name_137 (by decide) ?_
    refine G_istore (L' := [_, _, _, _, _, _, _]) dX8_name_138 (Nat.le_of_ble_eq_true rfl) rfl ?_
    by_cases hm0 : 0 < m
    rotate_left
    · -- no naming: not reached in truth; the row is what it is
      have loopN : ∀ (k i : Nat) (ms : Nat → Int32) (si : Int32) (msg : List Int32), 3 * nt - i = k → i ≤ 3 * nt → msg.length = 4 * i → (∀ x ∈ msg, uw x < 256) → MS ((((((r1.bl, r1.co), (r1.po, r1.ha)), ((r1.nw, r1.gr), r1.go)), (((r1.tr, r1.rw), r1.nm), ((r1.fm, r1.oc), r1.ds))), ((((ms, r1.wd), (r1.sc, r1.sd)), ((r1.ke, r1.ro), r1.hs)), (((r1.gc, nI nb), nI nt), ((r1.de, si), r1.th)))) : R8) msg → G ab_x0 mX8_name (d + 6) 0 0 (fun w' v => ∃ r', w' = w8 r' ∧ (r'.bl = r.bl ∧ r'.co = r.co ∧ r'.po = r.po ∧ r'.ke = r.ke ∧ r'.th = 0 ∧ r'.hs = 1) ∧ ∃ F R o rk st cn, Hd r' q nb nt F R o rk st cn ∧ (((¬ lN (nmg st cn) ≤ steps) ∧ (r'.nm = r.nm ∧ r'.fm = r.fm ∧ r'.oc = r.oc ∧ r'.nb = r.nb ∧ r'.fc = r.fc) ∧ v = some (.int (-1))) ∨ (lN (nmg st cn) ≤ steps ∧ ∃ m B, Best nb nt q o rk (9 ^ nb) m B ∧ v = some (.int (nI m)) ∧ (0 < m → LT8 r' nb nt B (rowF q nt B))))) 140 [some (.ref 100), some (.long steps), none, some (.int (nI nb)), some (.int (nI m)), some (.int 0), some (.int (nI i))] [] (w8 ((((((r1.bl, r1.co), (r1.po, r1.ha)), ((r1.nw, r1.gr), r1.go)), (((r1.tr, r1.rw), r1.nm), ((r1.fm, r1.oc), r1.ds))), ((((ms, r1.wd), (r1.sc, r1.sd)), ((r1.ke, r1.ro), r1.hs)), (((r1.gc, nI nb), nI nt), ((r1.de, si), r1.th)))) : R8)) := by
        intro k
        induction k using Nat.strongRecOn with
        | ind k ih =>
          intro i ms si msg hk hi hml hmb hMS
          refine G_iload dX8_name_140 rfl ?_
          refine G_iconst (v := 3) dX8_name_142 (by decide) ?_
          refine G_aload_n dX8_name_143 rfl ?_
          refine G_get (f := 17) kc9 dX8_name_144 fX8_334 (by decide) rfl rfl ?_
          refine G_imul dX8_name_147 ?_
          refine G_icmp_geN (tgt := 169) i (3 * nt) dX8_name_148 (by decide) rfl (pk_mul 3 nt) (by omega) (by omega) (fun hge => ?_) (fun hlt => ?_)
          · refine G_aload_n dX8_name_169 rfl ?_
            refine G_aload_n dX8_name_170 rfl ?_
            refine G_get (f := 22) kc9 dX8_name_171 fX8_235 (by decide) rfl rfl ?_
            refine G_topi hMS.1 ?_
            refine G_V8 (as := [.int (nI msg.length)]) (st := []) cX8_name_174 (con8_digestOf _ ((((((r1.bl, r1.co), (r1.po, r1.ha)), ((r1.nw, r1.gr), r1.go)), (((r1.tr, r1.rw), r1.nm), ((r1.fm, r1.oc), r1.ds))), ((((ms, r1.wd), (r1.sc, r1.sd)), ((r1.ke, r1.ro), r1.hs)), (((r1.gc, nI nb), nI nt), ((r1.de, si), r1.th)))) : R8) msg (by omega) hmb hMS.2) rfl rfl rfl rfl rfl (Nat.le_of_ble_eq_true rfl) dX8_name_174 (fun r5 v5 hq => ?_)
            obtain ⟨rfl, wd, sc, ms2, rfl, hwd⟩ := hq
            refine G_w (st' := []) (w' := w8 ((((((r1.bl, r1.co), (r1.po, r1.ha)), ((r1.nw, r1.gr), r1.go)), (((r1.tr, r1.rw), r1.nm), ((r1.fm, r1.oc), r1.ds))), ((((ms2, wd), (sc, r1.sd)), ((r1.ke, r1.ro), r1.hs)), (((r1.gc, nI nb), nI nt), ((r1.de, si), r1.th)))) : R8)) rfl rfl ?_
            refine G_aload_n dX8_name_177 rfl ?_
            refine G_V8 (as := []) (st := []) cX8_name_178 (con8_octetsOf _ ((((((r1.bl, r1.co), (r1.po, r1.ha)), ((r1.nw, r1.gr), r1.go)), (((r1.tr, r1.rw), r1.nm), ((r1.fm, r1.oc), r1.ds))), ((((ms2, wd), (sc, r1.sd)), ((r1.ke, r1.ro), r1.hs)), (((r1.gc, nI nb), nI nt), ((r1.de, si), r1.th)))) : R8) (dig msg) hwd) rfl rfl rfl rfl rfl (Nat.le_of_ble_eq_true rfl) dX8_name_178 (fun r6 v6 hq => ?_)
            obtain ⟨rfl, oc, rfl, hoc⟩ := hq
            refine G_w (st' := []) (w' := w8 ((((((r1.bl, r1.co), (r1.po, r1.ha)), ((r1.nw, r1.gr), r1.go)), (((r1.tr, r1.rw), r1.nm), ((r1.fm, oc), r1.ds))), ((((ms2, wd), (sc, r1.sd)), ((r1.ke, r1.ro), r1.hs)), (((r1.gc, nI nb), nI nt), ((r1.de, si), r1.th)))) : R8)) rfl rfl ?_
            refine G_iload dX8_name_181 rfl ?_
            exact G_ret (v := some (.int _)) ⟨dX8_name_183, _, rfl, rfl⟩ ⟨_, rfl, hSb, F, R, o, rk, st, cn, hHd, Or.inr ⟨hle2, m, B, hBest, rfl, fun z => absurd z hm0⟩⟩
          refine G_aload_n dX8_name_151 rfl ?_
          refine G_aload_n dX8_name_152 rfl ?_
          refine G_get (f := 16) kc9 dX8_name_153 fX8_176 (by decide) rfl rfl ?_
          refine G_iload dX8_name_156 rfl ?_
          refine G_ialdN (i) dX8_name_158 rfl rfl (by omega) (by decide) ?_
          refine G_i2l dX8_name_159 ?_
          refine G_V8 (as := [.long (r1.fm i).toInt64]) (st := []) cX8_name_160 (con8_sayNumber _ ((((((r1.bl, r1.co), (r1.po, r1.ha)), ((r1.nw, r1.gr), r1.go)), (((r1.tr, r1.rw), r1.nm), ((r1.fm, r1.oc), r1.ds))), ((((ms, r1.wd), (r1.sc, r1.sd)), ((r1.ke, r1.ro), r1.hs)), (((r1.gc, nI nb), nI nt), ((r1.de, si), r1.th)))) : R8) msg hMS (by omega) (r1.fm i).toInt64 (r1.fm i) (by simp)) rfl rfl rfl rfl rfl (Nat.le_of_ble_eq_true rfl) dX8_name_160 (fun r5 v5 hq => ?_)
          obtain ⟨rfl, ms2, rfl, hMS2⟩ := hq
          refine G_w (st' := []) (w' := w8 ((((((r1.bl, r1.co), (r1.po, r1.ha)), ((r1.nw, r1.gr), r1.go)), (((r1.tr, r1.rw), r1.nm), ((r1.fm, r1.oc), r1.ds))), ((((ms2, r1.wd), (r1.sc, r1.sd)), ((r1.ke, r1.ro), r1.hs)), (((r1.gc, nI nb), nI nt), ((r1.de, nI (msg.length + 4)), r1.th)))) : R8)) rfl rfl ?_
          refine G_iinc (L' := [_, _, _, _, _, _, _]) (v := nI (i + 1)) dX8_name_163 rfl (nI_1 _) rfl ?_
          refine G_goto (tgt := 140) dX8_name_166 (by decide) ?_
          refine ih (3 * nt - (i + 1)) (by omega) (i + 1) ms2 _ _ rfl (by omega) (by rw [List.length_append, bys_len]; omega) (fun x hx => ?_) hMS2
          rcases List.mem_append.mp hx with z | z
          · exact hmb x z
          · rw [bys4] at z
            obtain ⟨j, _, rfl⟩ := List.mem_map.mp z
            exact g4_lt _ _
      exact loopN (3 * nt) 0 r1.ms (nI 0) [] rfl (by omega) rfl (fun x hx => absurd hx List.not_mem_nil) ⟨rfl, fun i hi => by simp at hi⟩
    obtain ⟨hnm, hfl⟩ := hfm hm0
    have hfr : hR r1.fm (rowF q nt B) nt := fun i hi => hfl i (by rw [rowL_len]; exact hi)
    obtain ⟨K, hK⟩ : ∃ K, K = rowF q nt B := ⟨_, rfl⟩
    rw [← hK] at hfr
    have loopF : ∀ (k i : Nat) (ms : Nat → Int32) (si : Int32), 3 * nt - i = k → i ≤ 3 * nt → MS ((((((r1.bl, r1.co), (r1.po, r1.ha)), ((r1.nw, r1.gr), r1.go)), (((r1.tr, r1.rw), r1.nm), ((r1.fm, r1.oc), r1.ds))), ((((ms, r1.wd), (r1.sc, r1.sd)), ((r1.ke, r1.ro), r1.hs)), (((r1.gc, nI nb), nI nt), ((r1.de, si), r1.th)))) : R8) (fmI K i) → G ab_x0 mX8_name (d + 6) 0 0 (fun w' v => ∃ r', w' = w8 r' ∧ (r'.bl = r.bl ∧ r'.co = r.co ∧ r'.po = r.po ∧ r'.ke = r.ke ∧ r'.th = 0 ∧ r'.hs = 1) ∧ ∃ F R o rk st cn, Hd r' q nb nt F R o rk st cn ∧ (((¬ lN (nmg st cn) ≤ steps) ∧ (r'.nm = r.nm ∧ r'.fm = r.fm ∧ r'.oc = r.oc ∧ r'.nb = r.nb ∧ r'.fc = r.fc) ∧ v = some (.int (-1))) ∨ (lN (nmg st cn) ≤ steps ∧ ∃ m B, Best nb nt q o rk (9 ^ nb) m B ∧ v = some (.int (nI m)) ∧ (0 < m → LT8 r' nb nt B (rowF q nt B))))) 140 [some (.ref 100), some (.long steps), none, some (.int (nI nb)), some (.int (nI m)), some (.int 0), some (.int (nI i))] [] (w8 ((((((r1.bl, r1.co), (r1.po, r1.ha)), ((r1.nw, r1.gr), r1.go)), (((r1.tr, r1.rw), r1.nm), ((r1.fm, r1.oc), r1.ds))), ((((ms, r1.wd), (r1.sc, r1.sd)), ((r1.ke, r1.ro), r1.hs)), (((r1.gc, nI nb), nI nt), ((r1.de, si), r1.th)))) : R8)) := by
      intro k
      induction k using Nat.strongRecOn with
      | ind k ih =>
        intro i ms si hk hi hMS
        have hml := fmI_len K i
        refine G_iload dX8_name_140 rfl ?_
        refine G_iconst (v := 3) dX8_name_142 (by decide) ?_
        refine G_aload_n dX8_name_143 rfl ?_
        refine G_get (f := 17) kc9 dX8_name_144 fX8_334 (by decide) rfl rfl ?_
        refine G_imul dX8_name_147 ?_
        refine G_icmp_geN (tgt := 169) i (3 * nt) dX8_name_148 (by decide) rfl (pk_mul 3 nt) (by omega) (by omega) (fun hge => ?_) (fun hlt => ?_)
        · have e3 : i = 3 * nt := by omega
          rw [e3, fmI_3] at hMS
          obtain ⟨fl, fb⟩ := fm_word (K := K) (m := nt)
          refine G_aload_n dX8_name_169 rfl ?_
          refine G_aload_n dX8_name_170 rfl ?_
          refine G_get (f := 22) kc9 dX8_name_171 fX8_235 (by decide) rfl rfl ?_
          refine G_topi hMS.1 ?_
          refine G_V8 (as := [.int (nI (fmB K nt).length)]) (st := []) cX8_name_174 (con8_digestOf _ ((((((r1.bl, r1.co), (r1.po, r1.ha)), ((r1.nw, r1.gr), r1.go)), (((r1.tr, r1.rw), r1.nm), ((r1.fm, r1.oc), r1.ds))), ((((ms, r1.wd), (r1.sc, r1.sd)), ((r1.ke, r1.ro), r1.hs)), (((r1.gc, nI nb), nI nt), ((r1.de, si), r1.th)))) : R8) (fmB K nt) (by omega) fb hMS.2) rfl rfl rfl rfl rfl (Nat.le_of_ble_eq_true rfl) dX8_name_174 (fun r5 v5 hq => ?_)
          obtain ⟨rfl, wd, sc, ms2, rfl, hwd⟩ := hq
          refine G_w (st' := []) (w' := w8 ((((((r1.bl, r1.co), (r1.po, r1.ha)), ((r1.nw, r1.gr), r1.go)), (((r1.tr, r1.rw), r1.nm), ((r1.fm, r1.oc), r1.ds))), ((((ms2, wd), (sc, r1.sd)), ((r1.ke, r1.ro), r1.hs)), (((r1.gc, nI nb), nI nt), ((r1.de, si), r1.th)))) : R8)) rfl rfl ?_
          refine G_aload_n dX8_name_177 rfl ?_
          refine G_V8 (as := []) (st := []) cX8_name_178 (con8_octetsOf _ ((((((r1.bl, r1.co), (r1.po, r1.ha)), ((r1.nw, r1.gr), r1.go)), (((r1.tr, r1.rw), r1.nm), ((r1.fm, r1.oc), r1.ds))), ((((ms2, wd), (sc, r1.sd)), ((r1.ke, r1.ro), r1.hs)), (((r1.gc, nI nb), nI nt), ((r1.de, si), r1.th)))) : R8) (dig (fmB K nt)) hwd) rfl rfl rfl rfl rfl (Nat.le_of_ble_eq_true rfl) dX8_name_178 (fun r6 v6 hq => ?_)
          obtain ⟨rfl, oc, rfl, hoc⟩ := hq
          refine G_w (st' := []) (w' := w8 ((((((r1.bl, r1.co), (r1.po, r1.ha)), ((r1.nw, r1.gr), r1.go)), (((r1.tr, r1.rw), r1.nm), ((r1.fm, oc), r1.ds))), ((((ms2, wd), (sc, r1.sd)), ((r1.ke, r1.ro), r1.hs)), (((r1.gc, nI nb), nI nt), ((r1.de, si), r1.th)))) : R8)) rfl rfl ?_
          refine G_iload dX8_name_181 rfl ?_
          exact G_ret (v := some (.int _)) ⟨dX8_name_183, _, rfl, rfl⟩ ⟨_, rfl, hSb, F, R, o, rk, st, cn, hHd, Or.inr ⟨hle2, m, B, hBest, rfl, fun _ => ⟨rfl, hnb, rfl, hnt, hnm, hK ▸ hfr, hK ▸ hoc⟩⟩⟩
        refine G_aload_n dX8_name_151 rfl ?_
        refine G_aload_n dX8_name_152 rfl ?_
        refine G_get (f := 16) kc9 dX8_name_153 fX8_176 (by decide) rfl rfl ?_
        refine G_iload dX8_name_156 rfl ?_
        refine G_ialdN (i) dX8_name_158 rfl rfl (by omega) (by decide) ?_
        have hfi : r1.fm i = pt (K (i / 3)) (i % 3) := by
          have := (hfr (i / 3) (by omega)).2 (i % 3) (by omega)
          rw [show 3 * (i / 3) + i % 3 = i by omega] at this
          exact this
        refine G_topi hfi ?_
        refine G_i2l dX8_name_159 ?_
        refine G_V8 (as := [.long (pt (K (i / 3)) (i % 3)).toInt64]) (st := []) cX8_name_160 (con8_sayNumber _ ((((((r1.bl, r1.co), (r1.po, r1.ha)), ((r1.nw, r1.gr), r1.go)), (((r1.tr, r1.rw), r1.nm), ((r1.fm, r1.oc), r1.ds))), ((((ms, r1.wd), (r1.sc, r1.sd)), ((r1.ke, r1.ro), r1.hs)), (((r1.gc, nI nb), nI nt), ((r1.de, si), r1.th)))) : R8) (fmI K i) hMS (by omega) (pt (K (i / 3)) (i % 3)).toInt64 (pt (K (i / 3)) (i % 3)) (by simp)) rfl rfl rfl rfl rfl (Nat.le_of_ble_eq_true rfl) dX8_name_160 (fun r5 v5 hq => ?_)
        obtain ⟨rfl, ms2, rfl, hMS2⟩ := hq
        rw [fmI_s] at hMS2
        refine G_w (st' := []) (w' := w8 ((((((r1.bl, r1.co), (r1.po, r1.ha)), ((r1.nw, r1.gr), r1.go)), (((r1.tr, r1.rw), r1.nm), ((r1.fm, r1.oc), r1.ds))), ((((ms2, r1.wd), (r1.sc, r1.sd)), ((r1.ke, r1.ro), r1.hs)), (((r1.gc, nI nb), nI nt), ((r1.de, nI ((fmI K i).length + 4)), r1.th)))) : R8)) rfl rfl ?_
        refine G_iinc (L' := [_, _, _, _, _, _, _]) (v := nI (i + 1)) dX8_name_163 rfl (nI_1 _) rfl ?_
        refine G_goto (tgt := 140) dX8_name_166 (by decide) ?_
        exact ih (3 * nt - (i + 1)) (by omega) (i + 1) ms2 _ rfl (by omega) hMS2
    exact loopF (3 * nt) 0 r1.ms (nI 0) rfl (by omega) ⟨rfl, fun i hi => by simp [fmI, fmB] at hi⟩
  have loop : ∀ (k : Nat) (h : Nat → Nat) (r1 : R8) (m : Nat) (B : Nat → Nat) (z6 : Option Value), 9 ^ nb - enc h nb = k → PermH nb h → TR r1.tr nb h → (r1.bl = r.bl ∧ r1.co = r.co ∧ r1.po = r.po ∧ r1.ke = r.ke ∧ r1.th = 0 ∧ r1.hs = 1) → Hd r1 q nb nt F R o rk st cn → Best nb nt q o rk (enc h nb) m B → (0 < m → (∀ c, c < nb → r1.nm (c + 1) = nI (B c)) ∧ hL r1.fm (rowL q nt B)) → G ab_x0 mX8_name (d + 6) 0 0 (fun w' v => ∃ r', w' = w8 r' ∧ (r'.bl = r.bl ∧ r'.co = r.co ∧ r'.po = r.po ∧ r'.ke = r.ke ∧ r'.th = 0 ∧ r'.hs = 1) ∧ ∃ F R o rk st cn, Hd r' q nb nt F R o rk st cn ∧ (((¬ lN (nmg st cn) ≤ steps) ∧ (r'.nm = r.nm ∧ r'.fm = r.fm ∧ r'.oc = r.oc ∧ r'.nb = r.nb ∧ r'.fc = r.fc) ∧ v = some (.int (-1))) ∨ (lN (nmg st cn) ≤ steps ∧ ∃ m B, Best nb nt q o rk (9 ^ nb) m B ∧ v = some (.int (nI m)) ∧ (0 < m → LT8 r' nb nt B (rowF q nt B))))) 39 [some (.ref 100), some (.long steps), none, some (.int (nI nb)), some (.int (nI m)), some (.int 1), z6] [] (w8 r1) := by
    intro k
    induction k using Nat.strongRecOn with
    | ind k ih =>
      intro h r1 m B z6 hk2 hph hT hSb hHd hBest hfm
      have h9 := enc_bd (perm8 hnb hph)
      have hm9 := Best_le hBest
      have hb1 : r1.bl 8 = nI nb := by rw [hSb.1]; exact hb
      have hc1 : r1.co 8 = nI nt := by rw [hSb.2.1]; exact hc
      have hp1 : pts r1.po 960 q nt nb := by rw [hSb.2.2.1]; exact hp
      have rest : ∀ (r1 : R8) (m : Nat) (B : Nat → Nat) (z6 : Option Value), TR r1.tr nb h → (r1.bl = r.bl ∧ r1.co = r.co ∧ r1.po = r.po ∧ r1.ke = r.ke ∧ r1.th = 0 ∧ r1.hs = 1) → Hd r1 q nb nt F R o rk st cn → Best nb nt q o rk (enc h nb + 1) m B → (0 < m → (∀ c, c < nb → r1.nm (c + 1) = nI (B c)) ∧ hL r1.fm (rowL q nt B)) → G ab_x0 mX8_name (d + 6) 0 0 (fun w' v => ∃ r', w' = w8 r' ∧ (r'.bl = r.bl ∧ r'.co = r.co ∧ r'.po = r.po ∧ r'.ke = r.ke ∧ r'.th = 0 ∧ r'.hs = 1) ∧ ∃ F R o rk st cn, Hd r' q nb nt F R o rk st cn ∧ (((¬ lN (nmg st cn) ≤ steps) ∧ (r'.nm = r.nm ∧ r'.fm = r.fm ∧ r'.oc = r.oc ∧ r'.nb = r.nb ∧ r'.fc = r.fc) ∧ v = some (.int (-1))) ∨ (lN (nmg st cn) ≤ steps ∧ ∃ m B, Best nb nt q o rk (9 ^ nb) m B ∧ v = some (.int (nI m)) ∧ (0 < m → LT8 r' nb nt B (rowF q nt B))))) 106 [some (.ref 100), some (.long steps), none, some (.int (nI nb)), some (.int (nI m)), some (.int 1), z6] [] (w8 r1) := by
        intro r1 m B z6 hT hSb hHd hBest hfm
        refine G_aload_n dX8_name_106 rfl ?_
        refine G_iload_n dX8_name_107 rfl ?_
        refine G_V8 (as := [.int (nI nb)]) (st := []) cX8_name_108 (con8_turn _ nb hnb r1 h hT hph) rfl rfl rfl rfl rfl (Nat.le_of_ble_eq_true rfl) dX8_name_108 (fun r5 v5 hq => ?_)
        rcases hq with ⟨rfl, rfl, hmax⟩ | ⟨rfl, t2, h2, rfl, hT2, hp2', hlt, hnx⟩
        · refine G_w (st' := [.int 0]) (w' := w8 r5) rfl rfl ?_
          refine G_istore (L' := [_, _, _, _, _, _, _]) dX8_name_111 (Nat.le_of_ble_eq_true rfl) rfl ?_
          refine G_goto (tgt := 39) dX8_name_113 (by decide) ?_
          refine G_iload dX8_name_39 rfl ?_
          refine G_if_eq (tgt := 116) dX8_name_41 (by decide) (fun _ => ?_) (fun h => absurd rfl h)
          exact fin r5 m B _ hSb hHd (Best_up h9 (Nat.le_refl _) (fun s sp => Or.inl (by have := hmax s sp; omega)) hBest) hfm
        · refine G_w (st' := [.int 1]) (w' := w8 ((((((r1.bl, r1.co), (r1.po, r1.ha)), ((r1.nw, r1.gr), r1.go)), (((t2, r1.rw), r1.nm), ((r1.fm, r1.oc), r1.ds))), ((((r1.ms, r1.wd), (r1.sc, r1.sd)), ((r1.ke, r1.ro), r1.hs)), (((r1.gc, r1.nb), r1.fc), ((r1.de, r1.si), r1.th)))) : R8)) rfl rfl ?_
          refine G_istore (L' := [_, _, _, _, _, _, _]) dX8_name_111 (Nat.le_of_ble_eq_true rfl) rfl ?_
          refine G_goto (tgt := 39) dX8_name_113 (by decide) ?_
          have h92 := enc_bd (perm8 hnb hp2')
          refine ih (9 ^ nb - enc h2 nb) (by omega) h2 ((((((r1.bl, r1.co), (r1.po, r1.ha)), ((r1.nw, r1.gr), r1.go)), (((t2, r1.rw), r1.nm), ((r1.fm, r1.oc), r1.ds))), ((((r1.ms, r1.wd), (r1.sc, r1.sd)), ((r1.ke, r1.ro), r1.hs)), (((r1.gc, r1.nb), r1.fc), ((r1.de, r1.si), r1.th)))) : R8) m B _ rfl hp2' hT2 hSb hHd (Best_up hlt (Nat.le_of_lt h92) (fun s sp => ?_) hBest) hfm
          rcases Nat.lt_or_ge (enc h nb) (enc s nb) with z | z
          · exact Or.inr (hnx s sp z)
          · exact Or.inl (by omega)
      refine G_iload dX8_name_39 rfl ?_
      refine G_if_eq (tgt := 116) dX8_name_41 (by decide) (fun h => absurd h (by decide)) (fun _ => ?_)
      refine G_aload_n dX8_name_44 rfl ?_
      refine G_iload_n dX8_name_45 rfl ?_
      refine G_V8 (as := [.int (nI nb)]) (st := []) cX8_name_46 (con8_isNaming _ nb hnb r1 h o rk (fun c hc3 => ⟨hT c hc3, hph.1 c hc3⟩) hHd.2.2.2.2.2.1 hHd.2.2.2.2.2.2 hrk8 hG.1) rfl rfl rfl rfl rfl (Nat.le_of_ble_eq_true rfl) dX8_name_46 (fun r5 v5 hq => ?_)
      obtain ⟨rfl, hq⟩ := hq
      rcases hq with ⟨hN, rfl⟩ | ⟨hN, rfl⟩
      rotate_left
      · refine G_w (st' := [.int 0]) (w' := w8 r5) rfl rfl ?_
        refine G_if_eq (tgt := 106) dX8_name_49 (by decide) (fun _ => ?_) (fun h => absurd rfl h)
        exact rest r5 m B _ hT hSb hHd (Best_not hnb hkey hph hN hBest) hfm
      refine G_w (st' := [.int 1]) (w' := w8 r5) rfl rfl ?_
      refine G_if_eq (tgt := 106) dX8_name_49 (by decide) (fun h => absurd h (by decide)) (fun _ => ?_)
      refine G_aload_n dX8_name_52 rfl ?_
      refine G_V8 (as := []) (st := []) cX8_name_53 (con8_makeRow _ nb nt hnt r5 hc1 q h hp1 (fun c hc3 => ⟨hT c hc3, perm8 hnb hph c hc3⟩)) rfl rfl rfl rfl rfl (Nat.le_of_ble_eq_true rfl) dX8_name_53 (fun r6 v6 hq => ?_)
      obtain ⟨rfl, rw_, rfl, hrw⟩ := hq
      refine G_w (st' := []) (w' := w8 ((((((r5.bl, r5.co), (r5.po, r5.ha)), ((r5.nw, r5.gr), r5.go)), (((r5.tr, rw_), r5.nm), ((r5.fm, r5.oc), r5.ds))), ((((r5.ms, r5.wd), (r5.sc, r5.sd)), ((r5.ke, r5.ro), r5.hs)), (((r5.gc, r5.nb), r5.fc), ((r5.de, r5.si), r5.th)))) : R8)) rfl rfl ?_
      have hA : hR rw_ (rowF q nt h) nt := fun i hi => hrw i (by rw [rowL_len]; exact hi)
      have new : (0 < m → LtR (rowF q nt h) (rowF q nt B) nt) → G ab_x0 mX8_name (d + 6) 0 0 (fun w' v => ∃ r', w' = w8 r' ∧ (r'.bl = r.bl ∧ r'.co = r.co ∧ r'.po = r.po ∧ r'.ke = r.ke ∧ r'.th = 0 ∧ r'.hs = 1) ∧ ∃ F R o rk st cn, Hd r' q nb nt F R o rk st cn ∧ (((¬ lN (nmg st cn) ≤ steps) ∧ (r'.nm = r.nm ∧ r'.fm = r.fm ∧ r'.oc = r.oc ∧ r'.nb = r.nb ∧ r'.fc = r.fc) ∧ v = some (.int (-1))) ∨ (lN (nmg st cn) ≤ steps ∧ ∃ m B, Best nb nt q o rk (9 ^ nb) m B ∧ v = some (.int (nI m)) ∧ (0 < m → LT8 r' nb nt B (rowF q nt B))))) 69 [some (.ref 100), some (.long steps), none, some (.int (nI nb)), some (.int (nI m)), some (.int 1), z6] [.int (-1)] (w8 ((((((r5.bl, r5.co), (r5.po, r5.ha)), ((r5.nw, r5.gr), r5.go)), (((r5.tr, rw_), r5.nm), ((r5.fm, r5.oc), r5.ds))), ((((r5.ms, r5.wd), (r5.sc, r5.sd)), ((r5.ke, r5.ro), r5.hs)), (((r5.gc, r5.nb), r5.fc), ((r5.de, r5.si), r5.th)))) : R8)) := by
        intro hl
        refine G_istore (L' := [_, _, _, _, _, _, _]) dX8_name_69 (Nat.le_of_ble_eq_true rfl) rfl ?_
        refine G_iload dX8_name_71 rfl ?_
        refine G_if_ge (tgt := 81) dX8_name_73 (by decide) (fun h => absurd h (by decide)) (fun _ => ?_)
        refine G_aload_n dX8_name_76 rfl ?_
        refine G_iload_n dX8_name_77 rfl ?_
        refine G_V8 (as := [.int (nI nb)]) (st := []) cX8_name_78 (con8_take _ nb nt hnb hnt ((((((r5.bl, r5.co), (r5.po, r5.ha)), ((r5.nw, r5.gr), r5.go)), (((r5.tr, rw_), r5.nm), ((r5.fm, r5.oc), r5.ds))), ((((r5.ms, r5.wd), (r5.sc, r5.sd)), ((r5.ke, r5.ro), r5.hs)), (((r5.gc, r5.nb), r5.fc), ((r5.de, r5.si), r5.th)))) : R8) hc1) rfl rfl rfl rfl rfl (Nat.le_of_ble_eq_true rfl) dX8_name_78 (fun r7 v7 hq => ?_)
        obtain ⟨rfl, nm, fm, rfl, hnm, hfm2⟩ := hq
        refine G_w (st' := []) (w' := w8 ((((((r5.bl, r5.co), (r5.po, r5.ha)), ((r5.nw, r5.gr), r5.go)), (((r5.tr, rw_), nm), ((fm, r5.oc), r5.ds))), ((((r5.ms, r5.wd), (r5.sc, r5.sd)), ((r5.ke, r5.ro), r5.hs)), (((r5.gc, r5.nb), r5.fc), ((r5.de, r5.si), r5.th)))) : R8)) rfl rfl ?_
        refine G_iload dX8_name_81 rfl ?_
        refine G_if_ge (tgt := 90) dX8_name_83 (by decide) (fun h => absurd h (by decide)) (fun _ => ?_)
        refine G_iconst (v := 1) dX8_name_86 (by decide) ?_
        refine G_goto (tgt := 104) dX8_name_87 (by decide) ?_
        refine G_istore (L' := [_, _, _, _, _, _, _]) dX8_name_104 (Nat.le_of_ble_eq_true rfl) rfl ?_
        refine rest ((((((r5.bl, r5.co), (r5.po, r5.ha)), ((r5.nw, r5.gr), r5.go)), (((r5.tr, rw_), nm), ((fm, r5.oc), r5.ds))), ((((r5.ms, r5.wd), (r5.sc, r5.sd)), ((r5.ke, r5.ro), r5.hs)), (((r5.gc, r5.nb), r5.fc), ((r5.de, r5.si), r5.th)))) : R8) 1 h _ hT hSb hHd (Best_new hnb hkey hph hN hl hBest) (fun _ => ⟨fun c hc3 => ?_, fun i hi => ?_⟩)
        · show nm (c + 1) = _
          rw [hnm (c + 1) (by omega) (by omega)]
          exact hT c hc3
        · rw [rowL_len] at hi
          have := hrw i (by rw [rowL_len]; exact hi)
          refine ⟨this.1, fun p hp3 => ?_⟩
          show fm (3 * i + p) = _
          rw [hfm2 _ (by omega)]
          exact this.2 p hp3
      refine G_iload dX8_name_56 rfl ?_
      by_cases hm0 : m = 0
      · subst hm0
        refine G_if_ne (tgt := 65) dX8_name_58 (by decide) (fun h => absurd rfl h) (fun _ => ?_)
        refine G_iconst (v := -1) dX8_name_61 (by decide) ?_
        refine G_goto (tgt := 69) dX8_name_62 (by decide) ?_
        exact new (fun z => by omega)
      have hmp : 0 < m := by omega
      refine G_if_ne (tgt := 65) dX8_name_58 (by decide) (fun _ => ?_) (fun h => absurd h (nI_ne0 hmp (by omega)))
      obtain ⟨hnm, hfl⟩ := hfm hmp
      have hB : hR r5.fm (rowF q nt B) nt := fun i hi => hfl i (by rw [rowL_len]; exact hi)
      refine G_aload_n dX8_name_65 rfl ?_
      refine G_V8 (as := []) (st := []) cX8_name_66 (con8_compareForm _ nt hnt ((((((r5.bl, r5.co), (r5.po, r5.ha)), ((r5.nw, r5.gr), r5.go)), (((r5.tr, rw_), r5.nm), ((r5.fm, r5.oc), r5.ds))), ((((r5.ms, r5.wd), (r5.sc, r5.sd)), ((r5.ke, r5.ro), r5.hs)), (((r5.gc, r5.nb), r5.fc), ((r5.de, r5.si), r5.th)))) : R8) hc1 (rowF q nt h) (rowF q nt B) hA hB) rfl rfl rfl rfl rfl (Nat.le_of_ble_eq_true rfl) dX8_name_66 (fun r7 v7 hq => ?_)
      obtain ⟨rfl, hq⟩ := hq
      rcases hq with ⟨hl, rfl⟩ | ⟨hl, rfl⟩ | ⟨he, rfl⟩
      · refine G_w (st' := [.int (-1)]) (w' := w8 ((((((r5.bl, r5.co), (r5.po, r5.ha)), ((r5.nw, r5.gr), r5.go)), (((r5.tr, rw_), r5.nm), ((r5.fm, r5.oc), r5.ds))), ((((r5.ms, r5.wd), (r5.sc, r5.sd)), ((r5.ke, r5.ro), r5.hs)), (((r5.gc, r5.nb), r5.fc), ((r5.de, r5.si), r5.th)))) : R8)) rfl rfl ?_
        exact new (fun _ => hl)
      · refine G_w (st' := [.int 1]) (w' := w8 ((((((r5.bl, r5.co), (r5.po, r5.ha)), ((r5.nw, r5.gr), r5.go)), (((r5.tr, rw_), r5.nm), ((r5.fm, r5.oc), r5.ds))), ((((r5.ms, r5.wd), (r5.sc, r5.sd)), ((r5.ke, r5.ro), r5.hs)), (((r5.gc, r5.nb), r5.fc), ((r5.de, r5.si), r5.th)))) : R8)) rfl rfl ?_
        refine G_istore (L' := [_, _, _, _, _, _, _]) dX8_name_69 (Nat.le_of_ble_eq_true rfl) rfl ?_
        refine G_iload dX8_name_71 rfl ?_
        refine G_if_ge (tgt := 81) dX8_name_73 (by decide) (fun _ => ?_) (fun h => absurd (by decide) h)
        refine G_iload dX8_name_81 rfl ?_
        refine G_if_ge (tgt := 90) dX8_name_83 (by decide) (fun _ => ?_) (fun h => absurd (by decide) h)
        refine G_iload dX8_name_90 rfl ?_
        refine G_if_ne (tgt := 102) dX8_name_92 (by decide) (fun _ => ?_) (fun h => absurd h (by decide))
        refine G_iload dX8_name_102 rfl ?_
        refine G_istore (L' := [_, _, _, _, _, _, _]) dX8_name_104 (Nat.le_of_ble_eq_true rfl) rfl ?_
        exact rest ((((((r5.bl, r5.co), (r5.po, r5.ha)), ((r5.nw, r5.gr), r5.go)), (((r5.tr, rw_), r5.nm), ((r5.fm, r5.oc), r5.ds))), ((((r5.ms, r5.wd), (r5.sc, r5.sd)), ((r5.ke, r5.ro), r5.hs)), (((r5.gc, r5.nb), r5.fc), ((r5.de, r5.si), r5.th)))) : R8) m B _ hT hSb hHd (Best_more hnb hkey hph hl hmp hBest) hfm
      · refine G_w (st' := [.int 0]) (w' := w8 ((((((r5.bl, r5.co), (r5.po, r5.ha)), ((r5.nw, r5.gr), r5.go)), (((r5.tr, rw_), r5.nm), ((r5.fm, r5.oc), r5.ds))), ((((r5.ms, r5.wd), (r5.sc, r5.sd)), ((r5.ke, r5.ro), r5.hs)), (((r5.gc, r5.nb), r5.fc), ((r5.de, r5.si), r5.th)))) : R8)) rfl rfl ?_
        refine G_istore (L' := [_, _, _, _, _, _, _]) dX8_name_69 (Nat.le_of_ble_eq_true rfl) rfl ?_
        refine G_iload dX8_name_71 rfl ?_
        refine G_if_ge (tgt := 81) dX8_name_73 (by decide) (fun _ => ?_) (fun h => absurd (by decide) h)
        refine G_iload dX8_name_81 rfl ?_
        refine G_if_ge (tgt := 90) dX8_name_83 (by decide) (fun _ => ?_) (fun h => absurd (by decide) h)
        refine G_iload dX8_name_90 rfl ?_
        refine G_if_ne (tgt := 102) dX8_name_92 (by decide) (fun h => absurd rfl h) (fun _ => ?_)
        refine G_iload dX8_name_95 rfl ?_
        refine G_iconst (v := 1) dX8_name_97 (by decide) ?_
        refine G_iadd dX8_name_98 ?_
        refine G_topi (y := nI (m + 1)) (nI_1 m) ?_
        refine G_goto (tgt := 104) dX8_name_99 (by decide) ?_
        refine G_istore (L' := [_, _, _, _, _, _, _]) dX8_name_104 (Nat.le_of_ble_eq_true rfl) rfl ?_
        exact rest ((((((r5.bl, r5.co), (r5.po, r5.ha)), ((r5.nw, r5.gr), r5.go)), (((r5.tr, rw_), r5.nm), ((r5.fm, r5.oc), r5.ds))), ((((r5.ms, r5.wd), (r5.sc, r5.sd)), ((r5.ke, r5.ro), r5.hs)), (((r5.gc, r5.nb), r5.fc), ((r5.de, r5.si), r5.th)))) : R8) (m + 1) B _ hT hSb hHd (Best_same hnb hkey hph hN he hmp hBest) (fun _ => ⟨hnm, hfl⟩)
  exact loop _ (fun c => c + 1) ((((((r3.bl, r3.co), (r3.po, r3.ha)), ((r3.nw, r3.gr), r3.go)), (((t0, r3.rw), r3.nm), ((r3.fm, r3.oc), r3.ds))), ((((r3.ms, r3.wd), (r3.sc, r3.sd)), ((r3.ke, r3.ro), r3.hs)), (((r3.gc, r3.nb), r3.fc), ((r3.de, r3.si), r3.th)))) : R8) 0 (fun _ => 0) none rfl (id_perm nb) (fun c hc3 => ht0 (c + 1) (by omega) (by omega)) ⟨s1, s2, s3, s8', s11, hs2⟩ hH (Or.inl ⟨rfl, fun s sp _ => id_least hnb s sp⟩) (fun z => by omega)
