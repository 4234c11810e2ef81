/-! Matcher.matches, automorphisms. -/
/-- h is a way in which the graph becomes the target -/
def Way (k : Nat → Nat) (nt nb : Nat) (R K' R' : Nat → Int32) (nt' nb' : Nat) (h : Nat → Nat) : Prop := kT k nt K' nt' h 0 ∧ ∀ c, c < nb → okc k nt R K' R' nt' nb' h c ∧ ∀ c', c' < c → h c' ≠ h c
theorem Way_iff {k : Nat → Nat} {nt nb : Nat} {R K' R' : Nat → Int32} {nt' nb' : Nat} {g h : Nat → Nat} (hk : kT k nt K' nt' g 0) : Way k nt nb R K' R' nt' nb' h ↔ Ext k nt nb R K' R' nt' nb' g 0 h :=
  ⟨fun a => ⟨fun c hc => by omega, fun c _ hc => a.2 c hc⟩, fun a => ⟨kT_congr (fun c hc => by omega) hk, fun c hc => a.2 c (by omega) hc⟩⟩
set_option maxRecDepth 20000 in
set_option maxHeartbeats 4000000 in
theorem con_matches (d : Nat) (I La K R : Nat → Int32) (nb nt : Nat) (hs ro cv : Int32) (t1 t2 t3 : Nat) (K' R' : Nat → Int32) (nb' nt' : Nat) (hs' ro' cv' : Int32) (t4 t5 t6 : Nat) (hnb : nb ≤ 8) (hnb' : nb' ≤ 8) (hnt : nt ≤ 40) (hnt' : nt' ≤ 40) (k g : Nat → Nat) (hK : ∀ i, i < nt → K i = nI (k i) ∧ k i < 2 ^ 30) (hs1 : ∀ i j, i < j → j < nt' → K' i < K' j) (hI : ∀ j, j < 8 → I j = nI (g j) ∧ g j ≤ 8) : Con mX4_matches (d + 12) 0 0 (xD I La K R nb nt hs ro cv t1 t2 t3 K' R' nb' nt' hs' ro' cv' t4 t5 t6) [.ref 100, .ref 103, .ref 107] (fun w' v => ∃ (I2 La2 : Nat → Int32) (h : Nat → Nat), w' = (xD I2 La2 K R nb nt hs ro cv t1 t2 t3 K' R' nb' nt' hs' ro' cv' t4 t5 t6) ∧ (∀ j, j < 8 → I2 j = nI (h j) ∧ h j ≤ 8) ∧ ((Way k nt nb R K' R' nt' nb' h ∧ (∀ h2, Way k nt nb R K' R' nt' nb' h2 → LexLe 0 nb h h2) ∧ v = some (.int 1)) ∨ ((¬ ∃ h2, Way k nt nb R K' R' nt' nb' h2) ∧ v = some (.int 0)))) := by
  refine Con.of (ab_okc rfl (by decide)) (Nat.le_of_ble_eq_true rfl) ?_
  show G ab_x0 mX4_matches (d + 12) 0 0 _ 0 [some (.ref 100), some (.ref 103), some (.ref 107)] [] _
  refine G_aload_n dX4_matches_0 rfl ?_
  refine G_aload_n dX4_matches_1 rfl ?_
  refine G_V (is := [0, 2, 3, 4]) (fo := [101, 105]) (as := [.ref 100, .ref 102]) (as' := [.ref 103]) (st := []) (k := 0) (n := 0) cX4_matches_2 (con_readLasts (d + 9) nt hnt La K k hK (nI nb) hs ro 4 5) ab_pfx rfl (by decide) rfl rfl rfl rfl rfl rfl (Nat.le_of_ble_eq_true rfl) dX4_matches_2 (fun w' v h => by obtain ⟨_, _, h, _⟩ := h; rw [h]; exact (rfl : (4 : Nat) = 4)) (fun w2 v2 hq => ?_)
  obtain ⟨rfl, La2, rfl, hLa⟩ := hq
  refine G_w (st' := []) (w' := (xD I La2 K R nb nt hs ro cv t1 t2 t3 K' R' nb' nt' hs' ro' cv' t4 t5 t6)) rfl rfl ?_
  refine G_aload_n dX4_matches_5 rfl ?_
  refine G_aload_n dX4_matches_6 rfl ?_
  refine G_aload_n dX4_matches_7 rfl ?_
  refine G_iconst (v := (-1)) dX4_matches_8 (by decide) ?_
  refine G_topi (y := nI 0 - 1) (by decide) ?_
  refine G_V (is := [0, 1, 2, 3, 4, 5, 6, 7, 8, 9, 10]) (fo := [t1, t2, t3, t4, t5, t6]) (as := [.ref 100, .ref 103, .ref 107, .int (nI 0 - 1)]) (as' := [.ref 103, .ref 107, .int (nI 0 - 1)]) (st := []) (k := 0) (n := 0) cX4_matches_9 (con_keepsTriples_D (d + 10) 0 (by omega) I La2 K R nb nt hs ro cv 4 5 6 K' R' nb' nt' hs' ro' cv' 7 8 9 hnt hnt' k g hK hs1 hI hLa) ab_pfx rfl (by decide) rfl rfl rfl rfl rfl rfl (Nat.le_of_ble_eq_true rfl) dX4_matches_9 (fun w' v h => by rw [h.1]) (fun w2 v2 hq => ?_)
  obtain ⟨rfl, hq⟩ := hq
  rcases hq with ⟨hkt, rfl⟩ | ⟨hkt, rfl⟩
  · refine G_w (st' := [.int 1]) (w' := (xD I La2 K R nb nt hs ro cv t1 t2 t3 K' R' nb' nt' hs' ro' cv' t4 t5 t6)) rfl rfl ?_
    refine G_if_eq (tgt := 30) dX4_matches_12 (by decide) (fun h => absurd h (by decide)) (fun _ => ?_)
    refine G_aload_n dX4_matches_15 rfl ?_
    refine G_aload_n dX4_matches_16 rfl ?_
    refine G_aload_n dX4_matches_17 rfl ?_
    refine G_iconst (v := 0) dX4_matches_18 (by decide) ?_
    refine G_iconst (v := 0) dX4_matches_19 (by decide) ?_
    refine G_V (is := [0, 1, 2, 3, 4, 5, 6, 7, 8, 9, 10]) (fo := [t1, t2, t3, t4, t5, t6]) (as := [.ref 100, .ref 103, .ref 107, .int (nI 0), .int (nI 0)]) (as' := [.ref 103, .ref 107, .int (nI 0), .int (nI 0)]) (st := []) (k := 0) (n := 0) cX4_matches_20 (con_completes_D d La2 K R nb nt hs ro cv K' R' nb' nt' hs' ro' cv' hnb hnb' hnt hnt' k hK hs1 hLa 8 0 0 I g 4 5 6 7 8 9 (by omega) (by omega) hI (fun i _ => by simp)) ab_pfx rfl (by decide) rfl rfl rfl rfl rfl rfl (Nat.le_of_ble_eq_true rfl) dX4_matches_20 (fun w' v h => by obtain ⟨_, _, h, _⟩ := h; rw [h]; exact (rfl : (11 : Nat) = 11)) (fun w2 v2 hq => ?_)
    obtain ⟨I3, h3, rfl, hI3, _, hq⟩ := hq
    rcases hq with ⟨hx, hlex, rfl⟩ | ⟨hx, rfl⟩
    · refine G_w (st' := [.int 1]) (w' := (xD I3 La2 K R nb nt hs ro cv t1 t2 t3 K' R' nb' nt' hs' ro' cv' t4 t5 t6)) rfl rfl ?_
      refine G_if_eq (tgt := 30) dX4_matches_23 (by decide) (fun h => absurd h (by decide)) (fun _ => ?_)
      refine G_iconst (v := 1) dX4_matches_26 (by decide) ?_
      refine G_goto (tgt := 31) dX4_matches_27 (by decide) ?_
      exact G_ret (v := some (.int _)) ⟨dX4_matches_31, _, rfl, rfl⟩ ⟨I3, La2, h3, rfl, hI3, Or.inl ⟨(Way_iff hkt).mpr hx, fun h2 hw => hlex h2 ((Way_iff hkt).mp hw), rfl⟩⟩
    · refine G_w (st' := [.int 0]) (w' := (xD I3 La2 K R nb nt hs ro cv t1 t2 t3 K' R' nb' nt' hs' ro' cv' t4 t5 t6)) rfl rfl ?_
      refine G_if_eq (tgt := 30) dX4_matches_23 (by decide) (fun _ => ?_) (fun h => absurd rfl h)
      refine G_iconst (v := 0) dX4_matches_30 (by decide) ?_
      exact G_ret (v := some (.int _)) ⟨dX4_matches_31, _, rfl, rfl⟩ ⟨I3, La2, h3, rfl, hI3, Or.inr ⟨fun ⟨h2, hw⟩ => hx ⟨h2, (Way_iff hkt).mp hw⟩, rfl⟩⟩
  · refine G_w (st' := [.int 0]) (w' := (xD I La2 K R nb nt hs ro cv t1 t2 t3 K' R' nb' nt' hs' ro' cv' t4 t5 t6)) rfl rfl ?_
    refine G_if_eq (tgt := 30) dX4_matches_12 (by decide) (fun _ => ?_) (fun h => absurd rfl h)
    refine G_iconst (v := 0) dX4_matches_30 (by decide) ?_
    exact G_ret (v := some (.int _)) ⟨dX4_matches_31, _, rfl, rfl⟩ ⟨I, La2, g, rfl, hI, Or.inr ⟨fun ⟨h2, hw⟩ => hkt (kT_congr (fun c hc => by omega) hw.1), rfl⟩⟩
/-- how many of a .. n - 1 have P -/
noncomputable def cntP (P : Nat → Prop) (a : Nat) : Nat → Nat
  | 0 => 0
  | n + 1 => cntP P a n + (match Classical.propDecidable (a ≤ n ∧ P n) with
    | isTrue _ => 1
    | isFalse _ => 0)
theorem cntP_yes {P : Nat → Prop} {a n : Nat} (h : a ≤ n ∧ P n) : cntP P a (n + 1) = cntP P a n + 1 := by
  show cntP P a n + _ = _
  cases Classical.propDecidable (a ≤ n ∧ P n) with
  | isTrue _ => rfl
  | isFalse q => exact absurd h q
theorem cntP_no {P : Nat → Prop} {a n : Nat} (h : ¬ (a ≤ n ∧ P n)) : cntP P a (n + 1) = cntP P a n := by
  show cntP P a n + _ = _
  cases Classical.propDecidable (a ≤ n ∧ P n) with
  | isTrue q => exact absurd q h
  | isFalse _ => rfl
theorem cntP_lo {P : Nat → Prop} {a : Nat} : ∀ {n : Nat}, n ≤ a → cntP P a n = 0
  | 0, _ => rfl
  | n + 1, h => by rw [cntP_no (fun q => by omega), cntP_lo (by omega)]
theorem cntP_le {P : Nat → Prop} {a : Nat} : ∀ n : Nat, cntP P a n ≤ n
  | 0 => Nat.le_refl _
  | n + 1 => by
    have := cntP_le (P := P) (a := a) n
    by_cases h : a ≤ n ∧ P n
    · rw [cntP_yes h]; omega
    · rw [cntP_no h]; omega
/-- blank b can go to im while all before it stay -/
def Orb (k : Nat → Nat) (nt nb : Nat) (R K : Nat → Int32) (b im : Nat) : Prop := ∃ h, Ext k nt nb R K R nt nb (fun c => c + 1) b h ∧ h b = im + 1
noncomputable def aut (k : Nat → Nat) (nt nb : Nat) (R K : Nat → Int32) : Nat → Nat
  | 0 => 1
  | b + 1 => aut k nt nb R K b * cntP (Orb k nt nb R K b) b nb
theorem Ext_re {k : Nat → Nat} {nt nb : Nat} {R K' R' : Nat → Int32} {nt' nb' b : Nat} {g g' h : Nat → Nat} (e : ∀ c, c < b → g c = g' c) (hx : Ext k nt nb R K' R' nt' nb' g b h) : Ext k nt nb R K' R' nt' nb' g' b h := ⟨fun c hc => by rw [hx.1 c hc, e c hc], hx.2⟩
set_option maxRecDepth 20000 in
set_option maxHeartbeats 4000000 in
theorem con_automorphisms (d : Nat) (I La K R : Nat → Int32) (nb nt : Nat) (hs ro cv : Int32) (t1 t2 t3 : Nat) (hnb : nb ≤ 8) (hnt : nt ≤ 40) (k g : Nat → Nat) (hK : ∀ i, i < nt → K i = nI (k i) ∧ k i < 2 ^ 30) (hs1 : ∀ i j, i < j → j < nt → K i < K j) (hI : ∀ j, j < 8 → I j = nI (g j) ∧ g j ≤ 8) : Con mX4_automorphisms (d + 12) 0 0 (xS I La K R nb nt hs ro cv t1 t2 t3) [.ref 100, .ref 103] (fun w' v => ∃ (I2 La2 : Nat → Int32) (h : Nat → Nat), w' = (xS I2 La2 K R nb nt hs ro cv t1 t2 t3) ∧ (∀ j, j < 8 → I2 j = nI (h j) ∧ h j ≤ 8) ∧ v = some (.int (nI (aut k nt nb R K nb)))) := by
  refine Con.of (ab_okc rfl (by decide)) (Nat.le_of_ble_eq_true rfl) ?_
  show G ab_x0 mX4_automorphisms (d + 12) 0 0 _ 0 [some (.ref 100), some (.ref 103), none, none, none, none, none] [] _
  refine G_aload_n dX4_automorphisms_0 rfl ?_
  refine G_aload_n dX4_automorphisms_1 rfl ?_
  refine G_V (is := [0, 2, 3, 4]) (fo := [101, 105]) (as := [.ref 100, .ref 102]) (as' := [.ref 103]) (st := []) (k := 0) (n := 0) cX4_automorphisms_2 (con_readLasts (d + 9) nt hnt La K k hK (nI nb) hs ro 4 5) ab_pfx rfl (by decide) rfl rfl rfl rfl rfl rfl (Nat.le_of_ble_eq_true rfl) dX4_automorphisms_2 (fun w' v h => by obtain ⟨_, _, h, _⟩ := h; rw [h]; exact (rfl : (4 : Nat) = 4)) (fun w2 v2 hq => ?_)
  obtain ⟨rfl, La2, rfl, hLa⟩ := hq
  refine G_w (st' := []) (w' := (xS I La2 K R nb nt hs ro cv t1 t2 t3)) rfl rfl ?_
  refine G_iconst (v := 1) dX4_automorphisms_5 (by decide) ?_
  refine G_istore_n (L' := [_, _, _, _, _, _, _]) dX4_automorphisms_6 (Nat.le_of_ble_eq_true rfl) rfl ?_
  refine G_iconst (v := 0) dX4_automorphisms_7 (by decide) ?_
  refine G_istore_n (L' := [_, _, _, _, _, _, _]) dX4_automorphisms_8 (Nat.le_of_ble_eq_true rfl) rfl ?_
  refine G_iconst (v := 0) dX4_automorphisms_9 (by decide) ?_
  refine G_istore (L' := [_, _, _, _, _, _, _]) dX4_automorphisms_10 (Nat.le_of_ble_eq_true rfl) rfl ?_
  have outer : ∀ (b T : Nat) (I1 : Nat → Int32) (h0 : Nat → Nat) (z5 z6 : Option Value), b ≤ nb → T < 256 → (∀ j, j < 8 → I1 j = nI (h0 j) ∧ h0 j ≤ 8) → (∀ c, c < b → h0 c = c + 1) → msk T b h0 → G ab_x0 mX4_automorphisms (d + 12) 0 0 (fun w' v => ∃ (I2 La2 : Nat → Int32) (h : Nat → Nat), w' = (xS I2 La2 K R nb nt hs ro cv t1 t2 t3) ∧ (∀ j, j < 8 → I2 j = nI (h j) ∧ h j ≤ 8) ∧ v = some (.int (nI (aut k nt nb R K nb)))) 12 [some (.ref 100), some (.ref 103), some (.int (nI (aut k nt nb R K b))), some (.int (nI T)), some (.int (nI b)), z5, z6] [] (xS I1 La2 K R nb nt hs ro cv t1 t2 t3) := by
    intro b
    induction hm : nb - b using Nat.strongRecOn generalizing b with
    | ind m ih =>
      subst hm
      intro T I1 h0 z5 z6 hb hT hI1 hid hmk
      refine G_iload dX4_automorphisms_12 rfl ?_
      refine G_aload_n dX4_automorphisms_14 rfl ?_
      refine G_get (f := 1) kc1 dX4_automorphisms_15 fX4_30 (by decide) rfl rfl ?_
      refine G_icmp_geN (tgt := 107) b nb dX4_automorphisms_18 (by decide) rfl rfl (by omega) (by omega) (fun hge => ?_) (fun hbb => ?_)
      · have e : b = nb := by omega
        subst e
        refine G_iload_n dX4_automorphisms_107 rfl ?_
        exact G_ret (v := some (.int _)) ⟨dX4_automorphisms_108, _, rfl, rfl⟩ ⟨I1, La2, h0, rfl, hI1, rfl⟩
      refine G_iconst (v := 0) dX4_automorphisms_21 (by decide) ?_
      refine G_istore (L' := [_, _, _, _, _, _, _]) dX4_automorphisms_22 (Nat.le_of_ble_eq_true rfl) rfl ?_
      refine G_iload dX4_automorphisms_24 rfl ?_
      refine G_istore (L' := [_, _, _, _, _, _, _]) dX4_automorphisms_26 (Nat.le_of_ble_eq_true rfl) rfl ?_
      have inner : ∀ (im : Nat) (I2 : Nat → Int32) (h1 : Nat → Nat), b ≤ im → im ≤ nb → (∀ j, j < 8 → I2 j = nI (h1 j) ∧ h1 j ≤ 8) → (∀ c, c < b → h1 c = c + 1) → G ab_x0 mX4_automorphisms (d + 12) 0 0 (fun w' v => ∃ (I2 La2 : Nat → Int32) (h : Nat → Nat), w' = (xS I2 La2 K R nb nt hs ro cv t1 t2 t3) ∧ (∀ j, j < 8 → I2 j = nI (h j) ∧ h j ≤ 8) ∧ v = some (.int (nI (aut k nt nb R K nb)))) 28 [some (.ref 100), some (.ref 103), some (.int (nI (aut k nt nb R K b))), some (.int (nI T)), some (.int (nI b)), some (.int (nI (cntP (Orb k nt nb R K b) b im))), some (.int (nI im))] [] (xS I2 La2 K R nb nt hs ro cv t1 t2 t3) := by
        intro im
        induction hm : nb - im using Nat.strongRecOn generalizing im with
        | ind m ihi =>
          subst hm
          intro I2 h1 hbi him hI2 hid1
          have hcl := cntP_le (P := Orb k nt nb R K b) (a := b) im
          refine G_iload dX4_automorphisms_28 rfl ?_
          refine G_aload_n dX4_automorphisms_30 rfl ?_
          refine G_get (f := 1) kc1 dX4_automorphisms_31 fX4_30 (by decide) rfl rfl ?_
          refine G_icmp_geN (tgt := 78) im nb dX4_automorphisms_34 (by decide) rfl rfl (by omega) (by omega) (fun hge => ?_) (fun hlt => ?_)
          · have e : im = nb := by omega
            subst e
            refine G_iload_n dX4_automorphisms_78 rfl ?_
            refine G_iload dX4_automorphisms_79 rfl ?_
            refine G_imul dX4_automorphisms_81 ?_
            refine G_topi (pk_mul _ _) ?_
            refine G_istore_n (L' := [_, _, _, _, _, _, _]) dX4_automorphisms_82 (Nat.le_of_ble_eq_true rfl) rfl ?_
            refine G_aload_n dX4_automorphisms_83 rfl ?_
            refine G_get (f := 0) kc5 dX4_automorphisms_84 fX4_9 (by decide) rfl rfl ?_
            refine G_iload dX4_automorphisms_87 rfl ?_
            refine G_iload dX4_automorphisms_89 rfl ?_
            refine G_iconst (v := 1) dX4_automorphisms_91 (by decide) ?_
            refine G_iadd dX4_automorphisms_92 ?_
            refine G_topi (nI_1 b) ?_
            refine G_iastN (w' := (xS (upd I2 b (nI (b + 1))) La2 K R im nt hs ro cv t1 t2 t3)) b dX4_automorphisms_93 rfl rfl (by omega) (by omega) rfl ?_
            obtain ⟨ho1, ho2⟩ := tk_or T hT b (by omega)
            refine G_iload_n dX4_automorphisms_94 rfl ?_
            refine G_iconst (v := 1) dX4_automorphisms_95 (by decide) ?_
            refine G_iload dX4_automorphisms_96 rfl ?_
            refine G_ishl dX4_automorphisms_98 ?_
            refine G_ior dX4_automorphisms_99 ?_
            refine G_topi ho1 ?_
            refine G_istore_n (L' := [_, _, _, _, _, _, _]) dX4_automorphisms_100 (Nat.le_of_ble_eq_true rfl) rfl ?_
            refine G_iinc (L' := [_, _, _, _, _, _, _]) (v := nI (b + 1)) dX4_automorphisms_101 rfl (nI_succ b).symm rfl ?_
            refine G_goto (tgt := 12) dX4_automorphisms_104 (by decide) ?_
            refine ih (im - (b + 1)) (by omega) (b + 1) rfl (T ||| 2 ^ b) _ (updN h1 b (b + 1)) _ _ (by omega) ho2 (fun j hj => ?_) (fun c hc => ?_) ?_
            · by_cases e : j = b
              · rw [e, pk_us, updN_s]; exact ⟨rfl, by omega⟩
              · rw [pk_un e, updN_n e]; exact hI2 j hj
            · by_cases e : c = b
              · rw [e, updN_s]
              · rw [updN_n e]; exact hid1 c (by omega)
            · exact msk_up hmk (by omega) (fun c hc => by rw [updN_n (by omega), hid1 c hc, hid c hc]) updN_s
          have nxt : ∀ (I3 : Nat → Int32) (h3 : Nat → Nat) (q : Nat), (∀ j, j < 8 → I3 j = nI (h3 j) ∧ h3 j ≤ 8) → (∀ c, c < b → h3 c = c + 1) → q = cntP (Orb k nt nb R K b) b (im + 1) → G ab_x0 mX4_automorphisms (d + 12) 0 0 (fun w' v => ∃ (I2 La2 : Nat → Int32) (h : Nat → Nat), w' = (xS I2 La2 K R nb nt hs ro cv t1 t2 t3) ∧ (∀ j, j < 8 → I2 j = nI (h j) ∧ h j ≤ 8) ∧ v = some (.int (nI (aut k nt nb R K nb)))) 72 [some (.ref 100), some (.ref 103), some (.int (nI (aut k nt nb R K b))), some (.int (nI T)), some (.int (nI b)), some (.int (nI q)), some (.int (nI im))] [] (xS I3 La2 K R nb nt hs ro cv t1 t2 t3) := by
            intro I3 h3 q a1 a2 a3
            refine G_iinc (L' := [_, _, _, _, _, _, _]) (v := nI (im + 1)) dX4_automorphisms_72 rfl (nI_succ im).symm rfl ?_
            refine G_goto (tgt := 28) dX4_automorphisms_75 (by decide) ?_
            rw [a3]
            exact ihi (nb - (im + 1)) (by omega) (im + 1) rfl I3 h3 (by omega) (by omega) a1 a2
          refine G_aload_n dX4_automorphisms_37 rfl ?_
          refine G_aload_n dX4_automorphisms_38 rfl ?_
          refine G_aload_n dX4_automorphisms_39 rfl ?_
          refine G_iload dX4_automorphisms_40 rfl ?_
          refine G_iload dX4_automorphisms_42 rfl ?_
          refine G_V (is := [0, 1, 2, 3, 4, 5, 6]) (fo := [t1, t2, t3]) (as := [.ref 100, .ref 103, .ref 103, .int (nI b), .int (nI im)]) (as' := [.ref 103, .ref 103, .int (nI b), .int (nI im)]) (st := []) (k := 0) (n := 0) cX4_automorphisms_44 (con_fits_S (d + 9) b im (by omega) (by omega) I2 La2 K R nb nt hs ro cv 4 5 6 hnt hnt k h1 hK hs1 hI2 hLa) ab_pfx rfl (by decide) rfl rfl rfl rfl rfl rfl (Nat.le_of_ble_eq_true rfl) dX4_automorphisms_44 (fun w' v h => by rcases h with ⟨_, _, h⟩ | ⟨_, h, _⟩ <;> rw [h] <;> exact (rfl : (7 : Nat) = 7)) (fun w2 v2 hq => ?_)
          rcases hq with ⟨hr, rfl, rfl⟩ | ⟨hr, rfl, hq⟩
          · refine G_w (st' := [.int 0]) (w' := (xS I2 La2 K R nb nt hs ro cv t1 t2 t3)) rfl rfl ?_
            refine G_if_eq (tgt := 72) dX4_automorphisms_47 (by decide) (fun _ => ?_) (fun h => absurd rfl h)
            refine nxt I2 h1 _ hI2 hid1 (cntP_no (fun q => ?_)).symm
            obtain ⟨_, h2, hx, e⟩ := q
            have := (hx.2 b (Nat.le_refl _) hbb).1.2.2.1
            rw [e] at this
            exact hr this
          have hI3 : ∀ j, j < 8 → upd I2 b (nI (im + 1)) j = nI (updN h1 b (im + 1) j) ∧ updN h1 b (im + 1) j ≤ 8 := fun j hj => by
            by_cases e : j = b
            · rw [e, pk_us, updN_s]; exact ⟨rfl, by omega⟩
            · rw [pk_un e, updN_n e]; exact hI2 j hj
          have hid3 : ∀ c, c < b → updN h1 b (im + 1) c = c + 1 := fun c hc => by rw [updN_n (by omega)]; exact hid1 c hc
          have same2 : ∀ h2, Ext k nt nb R K R nt nb (fun c => c + 1) b h2 → h2 b = im + 1 → ∀ c, c < b + 1 → h2 c = updN h1 b (im + 1) c := fun h2 hx e c hc => by
            by_cases ec : c = b
            · rw [ec, e, updN_s]
            · rw [hx.1 c (by omega), hid3 c (by omega)]
          rcases hq with ⟨hkt, rfl⟩ | ⟨hkt, rfl⟩
          · refine G_w (st' := [.int 1]) (w' := (xS (upd I2 b (nI (im + 1))) La2 K R nb nt hs ro cv t1 t2 t3)) rfl rfl ?_
            refine G_if_eq (tgt := 72) dX4_automorphisms_47 (by decide) (fun h => absurd h (by decide)) (fun _ => ?_)
            refine G_aload_n dX4_automorphisms_50 rfl ?_
            refine G_aload_n dX4_automorphisms_51 rfl ?_
            refine G_aload_n dX4_automorphisms_52 rfl ?_
            refine G_iload dX4_automorphisms_53 rfl ?_
            refine G_iconst (v := 1) dX4_automorphisms_55 (by decide) ?_
            refine G_iadd dX4_automorphisms_56 ?_
            refine G_topi (nI_1 b) ?_
            refine G_iload_n dX4_automorphisms_57 rfl ?_
            refine G_iconst (v := 1) dX4_automorphisms_58 (by decide) ?_
            refine G_iload dX4_automorphisms_59 rfl ?_
            refine G_ishl dX4_automorphisms_61 ?_
            refine G_ior dX4_automorphisms_62 ?_
            obtain ⟨ho1, ho2⟩ := tk_or T hT im (by omega)
            refine G_topi ho1 ?_
            have hmk2 : msk (T ||| 2 ^ im) (b + 1) (updN h1 b (im + 1)) := msk_up hmk (by omega) (fun c hc => by rw [hid3 c hc, hid c hc]) updN_s
            have hcm := con_completes_S (d + b + 1) La2 K R nb nt hs ro cv hnb hnb hnt hnt k hK hs1 hLa (8 - (b + 1)) (b + 1) (T ||| 2 ^ im) (upd I2 b (nI (im + 1))) (updN h1 b (im + 1)) 4 5 6 (by omega) ho2 hI3 hmk2
            rw [show d + b + 1 + 3 + (8 - (b + 1)) = d + 11 by omega] at hcm
            refine G_V (is := [0, 1, 2, 3, 4, 5, 6]) (fo := [t1, t2, t3]) (as := [.ref 100, .ref 103, .ref 103, .int (nI (b + 1)), .int (nI (T ||| 2 ^ im))]) (as' := [.ref 103, .ref 103, .int (nI (b + 1)), .int (nI (T ||| 2 ^ im))]) (st := []) (k := 0) (n := 0) cX4_automorphisms_63 hcm ab_pfx rfl (by decide) rfl rfl rfl rfl rfl rfl (Nat.le_of_ble_eq_true rfl) dX4_automorphisms_63 (fun w' v h => by obtain ⟨_, _, h, _⟩ := h; rw [h]; exact (rfl : (7 : Nat) = 7)) (fun w2 v2 hq => ?_)
            obtain ⟨I4, h4, rfl, hI4, hg4, hq⟩ := hq
            have hid4 : ∀ c, c < b → h4 c = c + 1 := fun c hc => by rw [hg4 c (by omega), hid3 c hc]
            have hb4 : h4 b = im + 1 := by rw [hg4 b (by omega), updN_s]
            rcases hq with ⟨hx4, _, rfl⟩ | ⟨hnone, rfl⟩
            · refine G_w (st' := [.int 1]) (w' := (xS I4 La2 K R nb nt hs ro cv t1 t2 t3)) rfl rfl ?_
              refine G_if_eq (tgt := 72) dX4_automorphisms_66 (by decide) (fun h => absurd h (by decide)) (fun _ => ?_)
              refine G_iinc (L' := [_, _, _, _, _, _, _]) (v := nI (cntP (Orb k nt nb R K b) b im + 1)) dX4_automorphisms_69 rfl (nI_succ _).symm rfl ?_
              refine nxt I4 h4 _ hI4 hid4 (cntP_yes ⟨hbi, h4, ⟨hid4, fun c hc1 hc2 => ?_⟩, hb4⟩).symm
              by_cases ec : c = b
              · subst ec
                refine ⟨⟨by omega, by omega, by rw [hb4]; exact hr, kT_congr (fun q hq => (hg4 q hq).symm) hkt⟩, fun c' hc' e => ?_⟩
                rw [hid4 c' hc', hb4] at e
                omega
              · exact hx4.2 c (by omega) hc2
            · refine G_w (st' := [.int 0]) (w' := (xS I4 La2 K R nb nt hs ro cv t1 t2 t3)) rfl rfl ?_
              refine G_if_eq (tgt := 72) dX4_automorphisms_66 (by decide) (fun _ => ?_) (fun h => absurd rfl h)
              refine nxt I4 h4 _ hI4 hid4 (cntP_no (fun q => ?_)).symm
              obtain ⟨_, h2, hx, e⟩ := q
              exact hnone ⟨h2, fun c hc => same2 h2 hx e c hc, fun c hc1 hc2 => hx.2 c (by omega) hc2⟩
          · refine G_w (st' := [.int 0]) (w' := (xS (upd I2 b (nI (im + 1))) La2 K R nb nt hs ro cv t1 t2 t3)) rfl rfl ?_
            refine G_if_eq (tgt := 72) dX4_automorphisms_47 (by decide) (fun _ => ?_) (fun h => absurd rfl h)
            refine nxt _ (updN h1 b (im + 1)) _ hI3 hid3 (cntP_no (fun q => ?_)).symm
            obtain ⟨_, h2, hx, e⟩ := q
            exact hkt (kT_congr (same2 h2 hx e) (hx.2 b (Nat.le_refl _) hbb).1.2.2.2)
      have e0 : cntP (Orb k nt nb R K b) b b = 0 := cntP_lo (Nat.le_refl _)
      have := inner b I1 h0 (Nat.le_refl _) (by omega) hI1 hid
      rw [e0] at this
      exact this
  exact outer 0 0 I g _ _ (by omega) (by omega) hI (fun c hc => by omega) (fun i _ => by simp)
