/-! The reference: turn, take. -/
/-- the trial holds h -/
def TR (t : Nat → Int32) (n : Nat) (h : Nat → Nat) : Prop := ∀ c, c < n → t (c + 1) = nI (h c)
/-- the suffix as it is reversed, i steps on -/
def rvs (n P j i : Nat) (h : Nat → Nat) (x : Nat) : Nat := if x ≤ P then swp h P j x else if x < P + i ∨ n < x + i then swp h P j (n + P - x) else swp h P j x
theorem rvs_1 {n P j : Nat} {h : Nat → Nat} {x : Nat} (hx : x < n) : rvs n P j 1 h x = swp h P j x := by
  unfold rvs
  split
  · rfl
  · rw [if_neg (by omega)]
theorem rvs_end {n P j i : Nat} {h : Nat → Nat} {x : Nat} (hx : x < n) (hi : n ≤ P + i + i) (hin : P + i ≤ n) : rvs n P j i h x = nxt n P j h x := by
  unfold rvs nxt piv
  by_cases h1 : x ≤ P
  · rw [if_pos h1, if_pos h1]
  · rw [if_neg h1, if_neg h1]
    by_cases h2 : x < P + i ∨ n < x + i
    · rw [if_pos h2]
    · rw [if_neg h2, show n + P - x = x by omega]
theorem rvs_s {n P j i : Nat} {h : Nat → Nat} (hi : 1 ≤ i) (hlt : P + i + i < n) {t : Nat → Int32} (ht : TR t n (rvs n P j i h)) : TR (upd (upd t (P + 1 + i) (t (n + 1 - i))) (n + 1 - i) (t (P + 1 + i))) n (rvs n P j (i + 1) h) := by
  have e1 : t (n + 1 - i) = nI (swp h P j (n - i)) := by
    rw [show n + 1 - i = (n - i) + 1 by omega, ht (n - i) (by omega)]
    unfold rvs
    rw [if_neg (by omega), if_neg (by omega)]
  have e2 : t (P + 1 + i) = nI (swp h P j (P + i)) := by
    rw [show P + 1 + i = (P + i) + 1 by omega, ht (P + i) (by omega)]
    unfold rvs
    rw [if_neg (by omega), if_neg (by omega)]
  intro c hc
  by_cases c1 : c + 1 = n + 1 - i
  · rw [c1, pk_us, e2]
    unfold rvs
    rw [if_neg (by omega), if_pos (by omega), show n + P - c = P + i by omega]
  · rw [pk_un c1]
    by_cases c2 : c + 1 = P + 1 + i
    · rw [c2, pk_us, e1]
      unfold rvs
      rw [if_neg (by omega), if_pos (by omega), show n + P - c = n - i by omega]
    · rw [pk_un c2, ht c hc]
      unfold rvs
      by_cases c3 : c ≤ P
      · rw [if_pos c3, if_pos c3]
      · rw [if_neg c3, if_neg c3]
        by_cases c4 : c < P + i ∨ n < c + i
        · rw [if_pos c4, if_pos (by omega)]
        · rw [if_neg c4, if_neg (by omega)]
set_option maxRecDepth 20000 in
set_option maxHeartbeats 4000000 in
theorem con8_turn (d n : Nat) (hn : n ≤ 8) (r : R8) (h : Nat → Nat) (ht : TR r.tr n h) (hp : PermH n h) : Con mX8_turn (d + 1) 0 0 (w8 r) [.ref 100, .int (nI n)] (fun w' v => ∃ r', w' = w8 r' ∧ ((v = some (.int 0) ∧ r' = r ∧ ∀ s, PermH n s → enc s n ≤ enc h n) ∨ (v = some (.int 1) ∧ ∃ t h', r' = ((((((r.bl, r.co), (r.po, r.ha)), ((r.nw, r.gr), r.go)), (((t, r.rw), r.nm), ((r.fm, r.oc), r.ds))), ((((r.ms, r.wd), (r.sc, r.sd)), ((r.ke, r.ro), r.hs)), (((r.gc, r.nb), r.fc), ((r.de, r.si), r.th)))) : R8) ∧ TR t n h' ∧ PermH n h' ∧ enc h n < enc h' n ∧ ∀ s, PermH n s → enc h n < enc s n → enc h' n ≤ enc s n))) := by
  refine Con.of (ab_okc rfl (by decide)) (Nat.le_of_ble_eq_true rfl) ?_
  show G ab_x0 mX8_turn (d + 1) 0 0 _ 0 [some (.ref 100), some (.int (nI n)), none, none, none] [] _
  refine G_iload_n dX8_turn_0 rfl ?_
  refine G_iconst (v := 1) dX8_turn_1 (by decide) ?_
  have h8 := perm8 hn hp
  have none_ : ∀ (kv : Int32), kv < 1 → (∀ i, i + 1 < n → h (i + 1) < h i) → G ab_x0 mX8_turn (d + 1) 0 0 (fun w' v => ∃ r', w' = w8 r' ∧ ((v = some (.int 0) ∧ r' = r ∧ ∀ s, PermH n s → enc s n ≤ enc h n) ∨ (v = some (.int 1) ∧ ∃ t h', r' = ((((((r.bl, r.co), (r.po, r.ha)), ((r.nw, r.gr), r.go)), (((t, r.rw), r.nm), ((r.fm, r.oc), r.ds))), ((((r.ms, r.wd), (r.sc, r.sd)), ((r.ke, r.ro), r.hs)), (((r.gc, r.nb), r.fc), ((r.de, r.si), r.th)))) : R8) ∧ TR t n h' ∧ PermH n h' ∧ enc h n < enc h' n ∧ ∀ s, PermH n s → enc h n < enc s n → enc h' n ≤ enc s n))) 32 [some (.ref 100), some (.int (nI n)), some (.int kv), none, none] [] (w8 r) := by
    intro kv hkv hd
    refine G_iload_n dX8_turn_32 rfl ?_
    refine G_iconst (v := 1) dX8_turn_33 (by decide) ?_
    refine G_icmp_ge (tgt := 39) dX8_turn_34 (by decide) (fun h => absurd hkv (Int32.not_lt.mpr h)) (fun _ => ?_)
    refine G_iconst (v := 0) dX8_turn_37 (by decide) ?_
    exact G_ret (v := some (.int _)) ⟨dX8_turn_38, _, rfl, rfl⟩ ⟨r, rfl, Or.inl ⟨rfl, rfl, perm_last hn hp hd⟩⟩
  rcases Nat.eq_zero_or_pos n with h0 | hpos
  · subst h0
    refine G_isub dX8_turn_2 ?_
    refine G_topi (y := -1) (by decide) ?_
    refine G_istore_n (L' := [_, _, _, _, _]) dX8_turn_3 (Nat.le_of_ble_eq_true rfl) rfl ?_
    refine G_iload_n dX8_turn_4 rfl ?_
    refine G_iconst (v := 1) dX8_turn_5 (by decide) ?_
    refine G_icmp_lt (tgt := 32) dX8_turn_6 (by decide) (fun _ => ?_) (fun h => absurd (by decide) h)
    exact none_ (-1) (by decide) (fun i hi => by omega)
  refine G_isub dX8_turn_2 ?_
  refine G_topi (y := nI (n - 1)) (pk_sub (b := 1) hpos) ?_
  refine G_istore_n (L' := [_, _, _, _, _]) dX8_turn_3 (Nat.le_of_ble_eq_true rfl) rfl ?_
  have loop : ∀ (e : Nat), e < n → (∀ i, e ≤ i → i + 1 < n → h (i + 1) < h i) → G ab_x0 mX8_turn (d + 1) 0 0 (fun w' v => ∃ r', w' = w8 r' ∧ ((v = some (.int 0) ∧ r' = r ∧ ∀ s, PermH n s → enc s n ≤ enc h n) ∨ (v = some (.int 1) ∧ ∃ t h', r' = ((((((r.bl, r.co), (r.po, r.ha)), ((r.nw, r.gr), r.go)), (((t, r.rw), r.nm), ((r.fm, r.oc), r.ds))), ((((r.ms, r.wd), (r.sc, r.sd)), ((r.ke, r.ro), r.hs)), (((r.gc, r.nb), r.fc), ((r.de, r.si), r.th)))) : R8) ∧ TR t n h' ∧ PermH n h' ∧ enc h n < enc h' n ∧ ∀ s, PermH n s → enc h n < enc s n → enc h' n ≤ enc s n))) 4 [some (.ref 100), some (.int (nI n)), some (.int (nI e)), none, none] [] (w8 r) := by
    intro e
    induction e with
    | zero =>
      intro he hd
      refine G_iload_n dX8_turn_4 rfl ?_
      refine G_iconst (v := 1) dX8_turn_5 (by decide) ?_
      refine G_icmp_lt (tgt := 32) dX8_turn_6 (by decide) (fun _ => ?_) (fun h => absurd (by decide) h)
      exact none_ (nI 0) (by decide) (fun i hi => hd i (by omega) hi)
    | succ P ih =>
      intro he hd
      have t1 := ht P (by omega)
      have t2 := ht (P + 1) (by omega)
      have b1 := h8 P (by omega)
      have b2 := h8 (P + 1) (by omega)
      refine G_iload_n dX8_turn_4 rfl ?_
      refine G_iconst (v := 1) dX8_turn_5 (by decide) ?_
      refine G_icmp_ltN (tgt := 32) (P + 1) 1 dX8_turn_6 (by decide) rfl rfl (by omega) (by omega) (fun h => by omega) (fun _ => ?_)
      refine G_aload_n dX8_turn_9 rfl ?_
      refine G_get (f := 12) kc9 dX8_turn_10 fX8_167 (by decide) rfl rfl ?_
      refine G_iload_n dX8_turn_13 rfl ?_
      refine G_ialdN (P + 1) dX8_turn_14 rfl rfl (by omega) (by decide) ?_
      refine G_aload_n dX8_turn_15 rfl ?_
      refine G_get (f := 12) kc9 dX8_turn_16 fX8_167 (by decide) rfl rfl ?_
      refine G_iload_n dX8_turn_19 rfl ?_
      refine G_iconst (v := 1) dX8_turn_20 (by decide) ?_
      refine G_iadd dX8_turn_21 ?_
      refine G_ialdN (P + 1 + 1) dX8_turn_22 rfl (nI_1 _) (by omega) (by decide) ?_
      refine G_icmp_leN (tgt := 32) (h P) (h (P + 1)) dX8_turn_23 (by decide) t1 t2 (by omega) (by omega) (fun hle => ?_) (fun hgt => ?_)
      rotate_left
      · refine G_iinc (L' := [_, _, _, _, _]) (v := nI P) dX8_turn_26 rfl (pk_m1 P) rfl ?_
        refine G_goto (tgt := 4) dX8_turn_29 (by decide) ?_
        refine ih (by omega) (fun i h1 h2 => ?_)
        by_cases e : i = P
        · rw [e]; exact hgt
        · exact hd i (by omega) h2
      have hlt : h P < h (P + 1) := by
        have := hp.2 P (P + 1) (by omega) he
        omega
      refine G_iload_n dX8_turn_32 rfl ?_
      refine G_iconst (v := 1) dX8_turn_33 (by decide) ?_
      refine G_icmp_geN (tgt := 39) (P + 1) 1 dX8_turn_34 (by decide) rfl rfl (by omega) (by omega) (fun _ => ?_) (fun h => by omega)
      refine G_iload_n dX8_turn_39 rfl ?_
      refine G_istore_n (L' := [_, _, _, _, _]) dX8_turn_40 (Nat.le_of_ble_eq_true rfl) rfl ?_
      have loop2 : ∀ (f : Nat), f < n → P < f → (∀ i, f < i → i < n → h i < h P) → G ab_x0 mX8_turn (d + 1) 0 0 (fun w' v => ∃ r', w' = w8 r' ∧ ((v = some (.int 0) ∧ r' = r ∧ ∀ s, PermH n s → enc s n ≤ enc h n) ∨ (v = some (.int 1) ∧ ∃ t h', r' = ((((((r.bl, r.co), (r.po, r.ha)), ((r.nw, r.gr), r.go)), (((t, r.rw), r.nm), ((r.fm, r.oc), r.ds))), ((((r.ms, r.wd), (r.sc, r.sd)), ((r.ke, r.ro), r.hs)), (((r.gc, r.nb), r.fc), ((r.de, r.si), r.th)))) : R8) ∧ TR t n h' ∧ PermH n h' ∧ enc h n < enc h' n ∧ ∀ s, PermH n s → enc h n < enc s n → enc h' n ≤ enc s n))) 41 [some (.ref 100), some (.int (nI n)), some (.int (nI (P + 1))), some (.int (nI (f + 1))), none] [] (w8 r) := by
        intro f
        induction f with
        | zero => intro _ h1 _; omega
        | succ f ihf =>
          intro hfn hPf hlow
          have t3 := ht (f + 1) hfn
          have b3 := h8 (f + 1) hfn
          refine G_aload_n dX8_turn_41 rfl ?_
          refine G_get (f := 12) kc9 dX8_turn_42 fX8_167 (by decide) rfl rfl ?_
          refine G_iload_n dX8_turn_45 rfl ?_
          refine G_ialdN (f + 1 + 1) dX8_turn_46 rfl rfl (by omega) (by decide) ?_
          refine G_aload_n dX8_turn_47 rfl ?_
          refine G_get (f := 12) kc9 dX8_turn_48 fX8_167 (by decide) rfl rfl ?_
          refine G_iload_n dX8_turn_51 rfl ?_
          refine G_ialdN (P + 1) dX8_turn_52 rfl rfl (by omega) (by decide) ?_
          refine G_icmp_geN (tgt := 62) (h (f + 1)) (h P) dX8_turn_53 (by decide) t3 t1 (by omega) (by omega) (fun hge => ?_) (fun hlt2 => ?_)
          rotate_left
          · refine G_iinc (L' := [_, _, _, _, _]) (v := nI (f + 1)) dX8_turn_56 rfl (pk_m1 (f + 1)) rfl ?_
            refine G_goto (tgt := 41) dX8_turn_59 (by decide) ?_
            have hPf2 : P < f := by
              rcases Nat.lt_or_ge P f with z | z
              · exact z
              · rw [show f = P by omega] at hlt2; omega
            refine ihf (by omega) hPf2 (fun i h1 h2 => ?_)
            by_cases e : i = f + 1
            · rw [e]; exact hlt2
            · exact hlow i (by omega) h2
          have hup : h P < h (f + 1) := by
            have := hp.2 P (f + 1) (by omega) hfn
            omega
          obtain ⟨n1, n2⟩ := nxt_least hn hp hPf hfn hd hup hlow
          have n3 := nxt_perm hp hPf hfn
          refine G_aload_n dX8_turn_62 rfl ?_
          refine G_iload_n dX8_turn_63 rfl ?_
          refine G_iload_n dX8_turn_64 rfl ?_
          refine G_V8 (as := [.int (nI (P + 1)), .int (nI (f + 1 + 1))]) (st := []) cX8_turn_65 (con8_change d (P + 1) (f + 1 + 1) (by omega) (by omega) r) rfl rfl rfl rfl rfl (Nat.le_of_ble_eq_true rfl) dX8_turn_65 (fun r2 v2 hq => ?_)
          obtain ⟨rfl, rfl⟩ := hq
          have hT1 : TR (upd (upd r.tr (P + 1) (r.tr (f + 1 + 1))) (f + 1 + 1) (r.tr (P + 1))) n (rvs n P (f + 1) 1 h) := by
            intro c hc
            rw [rvs_1 hc]
            unfold swp
            by_cases c1 : c = f + 1
            · rw [c1, pk_us, if_neg (by omega), if_pos rfl, t1]
            · rw [pk_un (by omega)]
              by_cases c2 : c = P
              · rw [c2, pk_us, if_pos rfl, t3]
              · rw [pk_un (by omega), if_neg c2, if_neg c1]; exact ht c hc
          generalize upd (upd r.tr (P + 1) (r.tr (f + 1 + 1))) (f + 1 + 1) (r.tr (P + 1)) = tt at hT1 ⊢
          refine G_w (st' := []) (w' := w8 ((((((r.bl, r.co), (r.po, r.ha)), ((r.nw, r.gr), r.go)), (((tt, r.rw), r.nm), ((r.fm, r.oc), r.ds))), ((((r.ms, r.wd), (r.sc, r.sd)), ((r.ke, r.ro), r.hs)), (((r.gc, r.nb), r.fc), ((r.de, r.si), r.th)))) : R8)) rfl rfl ?_
          refine G_iconst (v := 1) dX8_turn_68 (by decide) ?_
          refine G_istore (L' := [_, _, _, _, _]) dX8_turn_69 (Nat.le_of_ble_eq_true rfl) rfl ?_
          have loop3 : ∀ (k i : Nat) (tt : Nat → Int32), n - i = k → 1 ≤ i → P + i ≤ n → P + i + i ≤ n + 2 → TR tt n (rvs n P (f + 1) i h) → G ab_x0 mX8_turn (d + 1) 0 0 (fun w' v => ∃ r', w' = w8 r' ∧ ((v = some (.int 0) ∧ r' = r ∧ ∀ s, PermH n s → enc s n ≤ enc h n) ∨ (v = some (.int 1) ∧ ∃ t h', r' = ((((((r.bl, r.co), (r.po, r.ha)), ((r.nw, r.gr), r.go)), (((t, r.rw), r.nm), ((r.fm, r.oc), r.ds))), ((((r.ms, r.wd), (r.sc, r.sd)), ((r.ke, r.ro), r.hs)), (((r.gc, r.nb), r.fc), ((r.de, r.si), r.th)))) : R8) ∧ TR t n h' ∧ PermH n h' ∧ enc h n < enc h' n ∧ ∀ s, PermH n s → enc h n < enc s n → enc h' n ≤ enc s n))) 71 [some (.ref 100), some (.int (nI n)), some (.int (nI (P + 1))), some (.int (nI (f + 1 + 1))), some (.int (nI i))] [] (w8 ((((((r.bl, r.co), (r.po, r.ha)), ((r.nw, r.gr), r.go)), (((tt, r.rw), r.nm), ((r.fm, r.oc), r.ds))), ((((r.ms, r.wd), (r.sc, r.sd)), ((r.ke, r.ro), r.hs)), (((r.gc, r.nb), r.fc), ((r.de, r.si), r.th)))) : R8)) := by
            intro k
            induction k using Nat.strongRecOn with
            | ind k ih3 =>
              intro i tt hk hi hPi hPii hT
              refine G_iload_n dX8_turn_71 rfl ?_
              refine G_iload dX8_turn_72 rfl ?_
              refine G_iadd dX8_turn_74 ?_
              refine G_iload_n dX8_turn_75 rfl ?_
              refine G_iconst (v := 1) dX8_turn_76 (by decide) ?_
              refine G_iadd dX8_turn_77 ?_
              refine G_iload dX8_turn_78 rfl ?_
              refine G_isub dX8_turn_80 ?_
              refine G_icmp_geN (tgt := 104) (P + 1 + i) (n + 1 - i) dX8_turn_81 (by decide) (nI_add _ _) ((congrArg (fun z => z - nI i) (nI_1 n)).trans (pk_sub (by omega))) (by omega) (by omega) (fun hge3 => ?_) (fun hlt3 => ?_)
              · refine G_iconst (v := 1) dX8_turn_104 (by decide) ?_
                refine G_ret (v := some (.int _)) ⟨dX8_turn_105, _, rfl, rfl⟩ ⟨_, rfl, Or.inr ⟨rfl, tt, nxt n P (f + 1) h, rfl, fun c hc => ?_, n3, n1, n2⟩⟩
                rw [hT c hc, rvs_end hc (by omega) hPi]
              refine G_aload_n dX8_turn_84 rfl ?_
              refine G_iload_n dX8_turn_85 rfl ?_
              refine G_iload dX8_turn_86 rfl ?_
              refine G_iadd dX8_turn_88 ?_
              refine G_topi (y := nI (P + 1 + i)) (nI_add _ _) ?_
              refine G_iload_n dX8_turn_89 rfl ?_
              refine G_iconst (v := 1) dX8_turn_90 (by decide) ?_
              refine G_iadd dX8_turn_91 ?_
              refine G_iload dX8_turn_92 rfl ?_
              refine G_isub dX8_turn_94 ?_
              refine G_topi (y := nI (n + 1 - i)) ((congrArg (fun z => z - nI i) (nI_1 n)).trans (pk_sub (by omega))) ?_
              refine G_V8 (as := [.int (nI (P + 1 + i)), .int (nI (n + 1 - i))]) (st := []) cX8_turn_95 (con8_change d (P + 1 + i) (n + 1 - i) (by omega) (by omega) ((((((r.bl, r.co), (r.po, r.ha)), ((r.nw, r.gr), r.go)), (((tt, r.rw), r.nm), ((r.fm, r.oc), r.ds))), ((((r.ms, r.wd), (r.sc, r.sd)), ((r.ke, r.ro), r.hs)), (((r.gc, r.nb), r.fc), ((r.de, r.si), r.th)))) : R8)) rfl rfl rfl rfl rfl (Nat.le_of_ble_eq_true rfl) dX8_turn_95 (fun r2 v2 hq => ?_)
              obtain ⟨rfl, rfl⟩ := hq
              refine G_w (st' := []) (w' := w8 ((((((r.bl, r.co), (r.po, r.ha)), ((r.nw, r.gr), r.go)), (((upd (upd tt (P + 1 + i) (tt (n + 1 - i))) (n + 1 - i) (tt (P + 1 + i)), r.rw), r.nm), ((r.fm, r.oc), r.ds))), ((((r.ms, r.wd), (r.sc, r.sd)), ((r.ke, r.ro), r.hs)), (((r.gc, r.nb), r.fc), ((r.de, r.si), r.th)))) : R8)) rfl rfl ?_
              refine G_iinc (L' := [_, _, _, _, _]) (v := nI (i + 1)) dX8_turn_98 rfl (nI_1 _) rfl ?_
              refine G_goto (tgt := 71) dX8_turn_101 (by decide) ?_
              exact ih3 (n - (i + 1)) (by omega) (i + 1) _ rfl (by omega) (by omega) (by omega) (rvs_s hi (by omega) hT)
          exact loop3 _ 1 tt rfl (by omega) (by omega) (by omega) hT1
      have := loop2 (n - 1) (by omega) (by omega) (fun i h1 h2 => by omega)
      rw [show n - 1 + 1 = n by omega] at this
      exact this
  exact loop (n - 1) (by omega) (fun i h1 h2 => by omega)
set_option maxRecDepth 20000 in
set_option maxHeartbeats 1000000 in
theorem con8_take (d n nt : Nat) (hn : n ≤ 8) (hnt : nt ≤ 40) (r : R8) (hc : r.co 8 = nI nt) : Con mX8_take (d) 0 0 (w8 r) [.ref 100, .int (nI n)] (fun w' v => ∃ r', w' = w8 r' ∧ v = none ∧ ∃ nm fm, r' = ((((((r.bl, r.co), (r.po, r.ha)), ((r.nw, r.gr), r.go)), (((r.tr, r.rw), nm), ((fm, r.oc), r.ds))), ((((r.ms, r.wd), (r.sc, r.sd)), ((r.ke, r.ro), r.hs)), (((r.gc, r.nb), r.fc), ((r.de, r.si), r.th)))) : R8) ∧ (∀ b, 1 ≤ b → b ≤ n → nm b = r.tr b) ∧ ∀ i, i < 3 * nt → fm i = r.rw i) := by
  refine Con.of (ab_okc rfl (by decide)) (Nat.le_of_ble_eq_true rfl) ?_
  show G ab_x0 mX8_take (d) 0 0 _ 0 [some (.ref 100), some (.int (nI n)), none] [] _
  refine G_iconst (v := 1) dX8_take_0 (by decide) ?_
  refine G_istore_n (L' := [_, _, _]) dX8_take_1 (Nat.le_of_ble_eq_true rfl) rfl ?_
  have l2 : ∀ (k i : Nat) (nm fm : Nat → Int32), 3 * nt - i = k → i ≤ 3 * nt → (∀ b, 1 ≤ b → b ≤ n → nm b = r.tr b) → (∀ j, j < i → fm j = r.rw j) → G ab_x0 mX8_take d 0 0 (fun w' v => ∃ r', w' = w8 r' ∧ v = none ∧ ∃ nm fm, r' = ((((((r.bl, r.co), (r.po, r.ha)), ((r.nw, r.gr), r.go)), (((r.tr, r.rw), nm), ((fm, r.oc), r.ds))), ((((r.ms, r.wd), (r.sc, r.sd)), ((r.ke, r.ro), r.hs)), (((r.gc, r.nb), r.fc), ((r.de, r.si), r.th)))) : R8) ∧ (∀ b, 1 ≤ b → b ≤ n → nm b = r.tr b) ∧ ∀ i, i < 3 * nt → fm i = r.rw i) 27 [some (.ref 100), some (.int (nI n)), some (.int (nI i))] [] (w8 ((((((r.bl, r.co), (r.po, r.ha)), ((r.nw, r.gr), r.go)), (((r.tr, r.rw), nm), ((fm, r.oc), r.ds))), ((((r.ms, r.wd), (r.sc, r.sd)), ((r.ke, r.ro), r.hs)), (((r.gc, r.nb), r.fc), ((r.de, r.si), r.th)))) : R8)) := by
    intro k
    induction k using Nat.strongRecOn with
    | ind k ih =>
      intro i nm fm hk hi hnm hfm
      refine G_iload_n dX8_take_27 rfl ?_
      refine G_iconst (v := 3) dX8_take_28 (by decide) ?_
      refine G_aload_n dX8_take_29 rfl ?_
      refine G_get (f := 2) kc9 dX8_take_30 fX8_149 (by decide) rfl rfl ?_
      refine G_bipush (v := 8) dX8_take_33 (by decide) ?_
      refine G_ialdN (8) dX8_take_35 rfl rfl (by decide) (by decide) ?_
      refine G_imul dX8_take_36 ?_
      refine G_icmp_geN (tgt := 58) i (3 * nt) dX8_take_37 (by decide) rfl ((congrArg (fun z => (3 : Int32) * z) hc).trans (pk_mul 3 nt)) (by omega) (by omega) (fun hge => ?_) (fun hlt => ?_)
      · exact G_ret (v := none) ⟨dX8_take_58, rfl⟩ ⟨_, rfl, rfl, nm, fm, rfl, hnm, fun j hj => hfm j (by omega)⟩
      refine G_aload_n dX8_take_40 rfl ?_
      refine G_get (f := 16) kc9 dX8_take_41 fX8_176 (by decide) rfl rfl ?_
      refine G_iload_n dX8_take_44 rfl ?_
      refine G_aload_n dX8_take_45 rfl ?_
      refine G_get (f := 13) kc9 dX8_take_46 fX8_170 (by decide) rfl rfl ?_
      refine G_iload_n dX8_take_49 rfl ?_
      refine G_ialdN (i) dX8_take_50 rfl rfl (by omega) (by decide) ?_
      refine G_iastN (w' := w8 ((((((r.bl, r.co), (r.po, r.ha)), ((r.nw, r.gr), r.go)), (((r.tr, r.rw), nm), ((upd fm i (r.rw i), r.oc), r.ds))), ((((r.ms, r.wd), (r.sc, r.sd)), ((r.ke, r.ro), r.hs)), (((r.gc, r.nb), r.fc), ((r.de, r.si), r.th)))) : R8)) (i) dX8_take_51 rfl rfl (by omega) (by decide) rfl ?_
      refine G_iinc (L' := [_, _, _]) (v := nI (i + 1)) dX8_take_52 rfl (nI_1 _) rfl ?_
      refine G_goto (tgt := 27) dX8_take_55 (by decide) ?_
      refine ih (3 * nt - (i + 1)) (by omega) (i + 1) nm _ rfl (by omega) hnm (fun j hj => ?_)
      by_cases e : j = i
      · rw [e, pk_us]
      · rw [pk_un e]; exact hfm j (by omega)
  have l1 : ∀ (k i : Nat) (nm : Nat → Int32), n - i = k → i ≤ n → (∀ b, 1 ≤ b → b ≤ i → nm b = r.tr b) → G ab_x0 mX8_take d 0 0 (fun w' v => ∃ r', w' = w8 r' ∧ v = none ∧ ∃ nm fm, r' = ((((((r.bl, r.co), (r.po, r.ha)), ((r.nw, r.gr), r.go)), (((r.tr, r.rw), nm), ((fm, r.oc), r.ds))), ((((r.ms, r.wd), (r.sc, r.sd)), ((r.ke, r.ro), r.hs)), (((r.gc, r.nb), r.fc), ((r.de, r.si), r.th)))) : R8) ∧ (∀ b, 1 ≤ b → b ≤ n → nm b = r.tr b) ∧ ∀ i, i < 3 * nt → fm i = r.rw i) 2 [some (.ref 100), some (.int (nI n)), some (.int (nI (i + 1)))] [] (w8 ((((((r.bl, r.co), (r.po, r.ha)), ((r.nw, r.gr), r.go)), (((r.tr, r.rw), nm), ((r.fm, r.oc), r.ds))), ((((r.ms, r.wd), (r.sc, r.sd)), ((r.ke, r.ro), r.hs)), (((r.gc, r.nb), r.fc), ((r.de, r.si), r.th)))) : R8)) := by
    intro k
    induction k using Nat.strongRecOn with
    | ind k ih =>
      intro i nm hk hi hnm
      refine G_iload_n dX8_take_2 rfl ?_
      refine G_iload_n dX8_take_3 rfl ?_
      refine G_icmp_gtN (tgt := 25) (i + 1) n dX8_take_4 (by decide) rfl rfl (by omega) (by omega) (fun hgt => ?_) (fun hle => ?_)
      · refine G_iconst (v := 0) dX8_take_25 (by decide) ?_
        refine G_istore_n (L' := [_, _, _]) dX8_take_26 (Nat.le_of_ble_eq_true rfl) rfl ?_
        exact l2 (3 * nt) 0 nm r.fm rfl (by omega) (fun b h1 h2 => hnm b h1 (by omega)) (fun j hj => by omega)
      refine G_aload_n dX8_take_7 rfl ?_
      refine G_get (f := 14) kc9 dX8_take_8 fX8_173 (by decide) rfl rfl ?_
      refine G_iload_n dX8_take_11 rfl ?_
      refine G_aload_n dX8_take_12 rfl ?_
      refine G_get (f := 12) kc9 dX8_take_13 fX8_167 (by decide) rfl rfl ?_
      refine G_iload_n dX8_take_16 rfl ?_
      refine G_ialdN (i + 1) dX8_take_17 rfl rfl (by omega) (by decide) ?_
      refine G_iastN (w' := w8 ((((((r.bl, r.co), (r.po, r.ha)), ((r.nw, r.gr), r.go)), (((r.tr, r.rw), upd nm (i + 1) (r.tr (i + 1))), ((r.fm, r.oc), r.ds))), ((((r.ms, r.wd), (r.sc, r.sd)), ((r.ke, r.ro), r.hs)), (((r.gc, r.nb), r.fc), ((r.de, r.si), r.th)))) : R8)) (i + 1) dX8_take_18 rfl rfl (by omega) (by decide) rfl ?_
      refine G_iinc (L' := [_, _, _]) (v := nI (i + 1 + 1)) dX8_take_19 rfl (nI_1 _) rfl ?_
      refine G_goto (tgt := 2) dX8_take_22 (by decide) ?_
      refine ih (n - (i + 1)) (by omega) (i + 1) _ rfl (by omega) (fun b h1 h2 => ?_)
      by_cases e : b = i + 1
      · rw [e, pk_us]
      · rw [pk_un e]; exact hnm b h1 (by omega)
  exact l1 n 0 r.nm rfl (by omega) (fun b h1 h2 => by omega)
