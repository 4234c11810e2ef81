/-! Matcher.completes: the first way, in the order of the blanks and of the numbers. -/
/-- blank c can have its number in h -/
def okc (k : Nat → Nat) (nt : Nat) (R : Nat → Int32) (K' R' : Nat → Int32) (nt' nb' : Nat) (h : Nat → Nat) (c : Nat) : Prop := 1 ≤ h c ∧ h c ≤ nb' ∧ R c = R' (h c - 1) ∧ kT k nt K' nt' h (c + 1)
/-- h goes on from g at blank b -/
def Ext (k : Nat → Nat) (nt nb : Nat) (R K' R' : Nat → Int32) (nt' nb' : Nat) (g : Nat → Nat) (b : Nat) (h : Nat → Nat) : Prop := (∀ c, c < b → h c = g c) ∧ ∀ c, b ≤ c → c < nb → okc k nt R K' R' nt' nb' h c ∧ ∀ c', c' < c → h c' ≠ h c
def LexLe (b n : Nat) (h h2 : Nat → Nat) : Prop := (∀ c, b ≤ c → c < n → h c = h2 c) ∨ ∃ c, b ≤ c ∧ c < n ∧ h c < h2 c ∧ ∀ c', b ≤ c' → c' < c → h c' = h2 c'
theorem kT_congr {k : Nat → Nat} {nt : Nat} {K' : Nat → Int32} {nt' n : Nat} {g h : Nat → Nat} (e : ∀ c, c < n → g c = h c) (hk : kT k nt K' nt' g n) : kT k nt K' nt' h n := fun i hi hl => by
  obtain ⟨j, h1, h2⟩ := hk i hi hl
  exact ⟨j, h1, by rw [h2, rnK_congr (Nat.le_of_eq hl) e]⟩
theorem tk_bit : ∀ T, T < 256 → ∀ i, i < 8 → ((nI T >>> (nI i &&& 31) &&& 1 = 0) ↔ T.testBit i = false) := by decide +kernel
theorem tk_or : ∀ T, T < 256 → ∀ i, i < 8 → nI T ||| ((1 : Int32) <<< (nI i &&& 31)) = nI (T ||| 2 ^ i) ∧ T ||| 2 ^ i < 256 := by decide +kernel
/-- the mask of the numbers that are given -/
def msk (T b : Nat) (g : Nat → Nat) : Prop := ∀ i, i < 8 → (T.testBit i = true ↔ ∃ c, c < b ∧ g c = i + 1)
theorem msk_up {T b i : Nat} {g g1 : Nat → Nat} (h : msk T b g) (hi : i < 8) (e : ∀ c, c < b → g1 c = g c) (e2 : g1 b = i + 1) : msk (T ||| 2 ^ i) (b + 1) g1 := fun j hj => by
  rw [Nat.testBit_or, Nat.testBit_two_pow, Bool.or_eq_true, h j hj, decide_eq_true_eq]
  constructor
  · rintro (⟨c, hc, q⟩ | q)
    · exact ⟨c, by omega, by rw [e c hc]; exact q⟩
    · exact ⟨b, by omega, by rw [e2]; omega⟩
  · rintro ⟨c, hc, q⟩
    by_cases hcb : c = b
    · right
      rw [hcb, e2] at q
      omega
    · left
      exact ⟨c, by omega, by rw [← e c (by omega)]; exact q⟩
set_option maxRecDepth 20000 in
set_option maxHeartbeats 4000000 in
theorem con_completes_D (d : Nat) (La K R : Nat → Int32) (nb nt : Nat) (hs ro cv : Int32) (K' R' : Nat → Int32) (nb' nt' : Nat) (hs' ro' cv' : Int32) (hnb : nb ≤ 8) (hnb' : nb' ≤ 8) (hnt : nt ≤ 40) (hnt' : nt' ≤ 40) (k : Nat → Nat) (hK : ∀ i, i < nt → K i = nI (k i) ∧ k i < 2 ^ 30) (hs1 : ∀ i j, i < j → j < nt' → K' i < K' j) (hLa : ∀ i, i < nt → La i = nI (lb (k i)) - 1) : ∀ (n b T : Nat) (I : Nat → Int32) (g : Nat → Nat) (t1 t2 t3 t4 t5 t6 : Nat), b + n = 8 → T < 256 → (∀ j, j < 8 → I j = nI (g j) ∧ g j ≤ 8) → msk T b g → Con mX4_completes (d + 3 + n) 0 0 (xD I La K R nb nt hs ro cv t1 t2 t3 K' R' nb' nt' hs' ro' cv' t4 t5 t6) [.ref 100, .ref 103, .ref 107, .int (nI b), .int (nI T)] (fun w' v => ∃ (I2 : Nat → Int32) (h : Nat → Nat), w' = (xD I2 La K R nb nt hs ro cv t1 t2 t3 K' R' nb' nt' hs' ro' cv' t4 t5 t6) ∧ (∀ j, j < 8 → I2 j = nI (h j) ∧ h j ≤ 8) ∧ (∀ c, c < b → h c = g c) ∧ ((Ext k nt nb R K' R' nt' nb' g b h ∧ (∀ h2, Ext k nt nb R K' R' nt' nb' g b h2 → LexLe b nb h h2) ∧ v = some (.int 1)) ∨ ((¬ ∃ h2, Ext k nt nb R K' R' nt' nb' g b h2) ∧ v = some (.int 0)))) := by
  intro n
  induction n with
  | zero =>
    intro b T I g t1 t2 t3 t4 t5 t6 hbn hT hI hmk
    refine Con.of (ab_okc rfl (by decide)) (Nat.le_of_ble_eq_true rfl) ?_
    show G ab_x0 mX4_completes (d + 3 + 0) 0 0 _ 0 [some (.ref 100), some (.ref 103), some (.ref 107), some (.int (nI b)), some (.int (nI T)), none] [] _
    refine G_iload_n dX4_completes_0 rfl ?_
    refine G_aload_n dX4_completes_1 rfl ?_
    refine G_get (f := 1) kc1 dX4_completes_2 fX4_30 (by decide) rfl rfl ?_
    refine G_icmp_geN (tgt := 14) b nb dX4_completes_5 (by decide) rfl rfl (by omega) (by omega) (fun h => ?_) (fun h => by omega)
    refine G_iconst (v := 1) dX4_completes_14 (by decide) ?_
    exact G_ret (v := some (.int _)) ⟨dX4_completes_15, _, rfl, rfl⟩ ⟨I, g, rfl, hI, fun _ _ => rfl, Or.inl ⟨⟨fun _ _ => rfl, fun c h1 h2 => by omega⟩, fun h2 _ => Or.inl (fun c h1 h3 => by omega), rfl⟩⟩
  | succ n ihn =>
    intro b T I g t1 t2 t3 t4 t5 t6 hbn hT hI hmk
    refine Con.of (ab_okc rfl (by decide)) (Nat.le_of_ble_eq_true rfl) ?_
    show G ab_x0 mX4_completes (d + 3 + (n + 1)) 0 0 _ 0 [some (.ref 100), some (.ref 103), some (.ref 107), some (.int (nI b)), some (.int (nI T)), none] [] _
    refine G_iload_n dX4_completes_0 rfl ?_
    refine G_aload_n dX4_completes_1 rfl ?_
    refine G_get (f := 1) kc1 dX4_completes_2 fX4_30 (by decide) rfl rfl ?_
    refine G_icmp_geN (tgt := 14) b nb dX4_completes_5 (by decide) rfl rfl (by omega) (by omega) (fun h => ?_) (fun hbb => ?_)
    · refine G_iconst (v := 1) dX4_completes_14 (by decide) ?_
      exact G_ret (v := some (.int _)) ⟨dX4_completes_15, _, rfl, rfl⟩ ⟨I, g, rfl, hI, fun _ _ => rfl, Or.inl ⟨⟨fun _ _ => rfl, fun c h1 h2 => by omega⟩, fun h2 _ => Or.inl (fun c h1 h3 => by omega), rfl⟩⟩
    refine G_iload_n dX4_completes_8 rfl ?_
    refine G_bipush (v := 8) dX4_completes_9 (by decide) ?_
    refine G_icmp_ltN (tgt := 16) b 8 dX4_completes_11 (by decide) rfl rfl (by omega) (by omega) (fun _ => ?_) (fun h => by omega)
    refine G_iconst (v := 0) dX4_completes_16 (by decide) ?_
    refine G_istore (L' := [_, _, _, _, _, _]) dX4_completes_17 (Nat.le_of_ble_eq_true rfl) rfl ?_
    have loop : ∀ (im : Nat) (I1 : Nat → Int32) (h0 : Nat → Nat), im ≤ nb' → (∀ j, j < 8 → I1 j = nI (h0 j) ∧ h0 j ≤ 8) → (∀ c, c < b → h0 c = g c) → (∀ h2, Ext k nt nb R K' R' nt' nb' g b h2 → im < h2 b) → G ab_x0 mX4_completes (d + 3 + (n + 1)) 0 0 (fun w' v => ∃ (I2 : Nat → Int32) (h : Nat → Nat), w' = (xD I2 La K R nb nt hs ro cv t1 t2 t3 K' R' nb' nt' hs' ro' cv' t4 t5 t6) ∧ (∀ j, j < 8 → I2 j = nI (h j) ∧ h j ≤ 8) ∧ (∀ c, c < b → h c = g c) ∧ ((Ext k nt nb R K' R' nt' nb' g b h ∧ (∀ h2, Ext k nt nb R K' R' nt' nb' g b h2 → LexLe b nb h h2) ∧ v = some (.int 1)) ∨ ((¬ ∃ h2, Ext k nt nb R K' R' nt' nb' g b h2) ∧ v = some (.int 0)))) 19 [some (.ref 100), some (.ref 103), some (.ref 107), some (.int (nI b)), some (.int (nI T)), some (.int (nI im))] [] (xD I1 La K R nb nt hs ro cv t1 t2 t3 K' R' nb' nt' hs' ro' cv' t4 t5 t6) := by
      intro im
      induction hm : nb' - im using Nat.strongRecOn generalizing im with
      | ind m ih =>
        subst hm
        intro I1 h0 him hI1 hg hno
        refine G_iload dX4_completes_19 rfl ?_
        refine G_aload_n dX4_completes_21 rfl ?_
        refine G_get (f := 1) kc1 dX4_completes_22 fX4_30 (by decide) rfl rfl ?_
        refine G_icmp_geN (tgt := 77) im nb' dX4_completes_25 (by decide) rfl rfl (by omega) (by omega) (fun hge => ?_) (fun hlt => ?_)
        · refine G_iconst (v := 0) dX4_completes_77 (by decide) ?_
          refine G_ret (v := some (.int _)) ⟨dX4_completes_78, _, rfl, rfl⟩ ⟨I1, h0, rfl, hI1, hg, Or.inr ⟨?_, rfl⟩⟩
          rintro ⟨h2, hx⟩
          have a := hno h2 hx
          have c := (hx.2 b (Nat.le_refl _) hbb).1.2.1
          omega
        have nxt : ∀ (I2 : Nat → Int32) (h1 : Nat → Nat), (∀ j, j < 8 → I2 j = nI (h1 j) ∧ h1 j ≤ 8) → (∀ c, c < b → h1 c = g c) → (∀ h2, Ext k nt nb R K' R' nt' nb' g b h2 → h2 b ≠ im + 1) → G ab_x0 mX4_completes (d + 3 + (n + 1)) 0 0 (fun w' v => ∃ (I2 : Nat → Int32) (h : Nat → Nat), w' = (xD I2 La K R nb nt hs ro cv t1 t2 t3 K' R' nb' nt' hs' ro' cv' t4 t5 t6) ∧ (∀ j, j < 8 → I2 j = nI (h j) ∧ h j ≤ 8) ∧ (∀ c, c < b → h c = g c) ∧ ((Ext k nt nb R K' R' nt' nb' g b h ∧ (∀ h2, Ext k nt nb R K' R' nt' nb' g b h2 → LexLe b nb h h2) ∧ v = some (.int 1)) ∨ ((¬ ∃ h2, Ext k nt nb R K' R' nt' nb' g b h2) ∧ v = some (.int 0)))) 71 [some (.ref 100), some (.ref 103), some (.ref 107), some (.int (nI b)), some (.int (nI T)), some (.int (nI im))] [] (xD I2 La K R nb nt hs ro cv t1 t2 t3 K' R' nb' nt' hs' ro' cv' t4 t5 t6) := by
          intro I2 h1 a1 a2 a3
          refine G_iinc (L' := [_, _, _, _, _, _]) (v := nI (im + 1)) dX4_completes_71 rfl (nI_succ im).symm rfl ?_
          refine G_goto (tgt := 19) dX4_completes_74 (by decide) ?_
          refine ih (nb' - (im + 1)) (by omega) (im + 1) rfl I2 h1 (by omega) a1 a2 (fun h2 hx => ?_)
          have := hno h2 hx
          have := a3 h2 hx
          omega
        refine G_iload dX4_completes_28 rfl ?_
        refine G_iload dX4_completes_30 rfl ?_
        refine G_ishr dX4_completes_32 ?_
        refine G_iconst (v := 1) dX4_completes_33 (by decide) ?_
        refine G_iand dX4_completes_34 ?_
        have hbit := tk_bit T hT im (by omega)
        refine G_if_ne (tgt := 71) dX4_completes_35 (by decide) (fun h => ?_) (fun h => ?_)
        · refine nxt I1 h0 hI1 hg (fun h2 hx e => ?_)
          have ht : T.testBit im = true := by
            cases q : T.testBit im
            · exact absurd (hbit.mpr q) h
            · rfl
          obtain ⟨c, hc, q⟩ := (hmk im (by omega)).mp ht
          have := (hx.2 b (Nat.le_refl _) hbb).2 c hc
          rw [hx.1 c hc, q, e] at this
          exact this rfl
        have hfree := hbit.mp h
        have hft := con_fits_D (d + 1 + n) b im (by omega) (by omega) I1 La K R nb nt hs ro cv 4 5 6 K' R' nb' nt' hs' ro' cv' 7 8 9 hnt hnt' k h0 hK hs1 hI1 hLa
        rw [show d + 1 + n + 2 = d + 3 + n by omega] at hft
        refine G_aload_n dX4_completes_38 rfl ?_
        refine G_aload_n dX4_completes_39 rfl ?_
        refine G_aload_n dX4_completes_40 rfl ?_
        refine G_iload_n dX4_completes_41 rfl ?_
        refine G_iload dX4_completes_42 rfl ?_
        refine G_V (is := [0, 1, 2, 3, 4, 5, 6, 7, 8, 9, 10]) (fo := [t1, t2, t3, t4, t5, t6]) (as := [.ref 100, .ref 103, .ref 107, .int (nI b), .int (nI im)]) (as' := [.ref 103, .ref 107, .int (nI b), .int (nI im)]) (st := []) (k := 0) (n := 0) cX4_completes_44 hft ab_pfx rfl (by decide) rfl rfl rfl rfl rfl rfl (Nat.le_of_ble_eq_true rfl) dX4_completes_44 (fun w' v h => by rcases h with ⟨_, _, h⟩ | ⟨_, h, _⟩ <;> rw [h] <;> exact (rfl : (11 : Nat) = 11)) (fun w2 v2 hq => ?_)
        rcases hq with ⟨hr, rfl, rfl⟩ | ⟨hr, rfl, hq⟩
        · refine G_w (st' := [.int 0]) (w' := (xD I1 La K R nb nt hs ro cv t1 t2 t3 K' R' nb' nt' hs' ro' cv' t4 t5 t6)) rfl rfl ?_
          refine G_if_eq (tgt := 71) dX4_completes_47 (by decide) (fun _ => ?_) (fun h => absurd rfl h)
          refine nxt I1 h0 hI1 hg (fun h2 hx e => ?_)
          have := (hx.2 b (Nat.le_refl _) hbb).1.2.2.1
          rw [e] at this
          exact hr this
        have hI2 : ∀ j, j < 8 → upd I1 b (nI (im + 1)) j = nI (updN h0 b (im + 1) j) ∧ updN h0 b (im + 1) j ≤ 8 := fun j hj => by
          by_cases e : j = b
          · rw [e, pk_us, updN_s]; exact ⟨rfl, by omega⟩
          · rw [pk_un e, updN_n e]; exact hI1 j hj
        have hg2 : ∀ c, c < b → updN h0 b (im + 1) c = g c := fun c hc => by rw [updN_n (by omega)]; exact hg c hc
        have same2 : ∀ h2, Ext k nt nb R K' R' nt' nb' g b h2 → h2 b = im + 1 → ∀ c, c < b + 1 → h2 c = updN h0 b (im + 1) c := fun h2 hx e c hc => by
          by_cases ec : c = b
          · rw [ec, e, updN_s]
          · rw [hx.1 c (by omega), hg2 c (by omega)]
        rcases hq with ⟨hkt, rfl⟩ | ⟨hkt, rfl⟩
        · refine G_w (st' := [.int 1]) (w' := (xD (upd I1 b (nI (im + 1))) La K R nb nt hs ro cv t1 t2 t3 K' R' nb' nt' hs' ro' cv' t4 t5 t6)) rfl rfl ?_
          refine G_if_eq (tgt := 71) dX4_completes_47 (by decide) (fun h => absurd h (by decide)) (fun _ => ?_)
          refine G_aload_n dX4_completes_50 rfl ?_
          refine G_aload_n dX4_completes_51 rfl ?_
          refine G_aload_n dX4_completes_52 rfl ?_
          refine G_iload_n dX4_completes_53 rfl ?_
          refine G_iconst (v := 1) dX4_completes_54 (by decide) ?_
          refine G_iadd dX4_completes_55 ?_
          refine G_topi (nI_1 b) ?_
          refine G_iload dX4_completes_56 rfl ?_
          refine G_iconst (v := 1) dX4_completes_58 (by decide) ?_
          refine G_iload dX4_completes_59 rfl ?_
          refine G_ishl dX4_completes_61 ?_
          refine G_ior dX4_completes_62 ?_
          obtain ⟨ho1, ho2⟩ := tk_or T hT im (by omega)
          refine G_topi ho1 ?_
          have hmk2 : msk (T ||| 2 ^ im) (b + 1) (updN h0 b (im + 1)) := msk_up hmk (by omega) hg2 updN_s
          refine G_V (is := [0, 1, 2, 3, 4, 5, 6, 7, 8, 9, 10]) (fo := [t1, t2, t3, t4, t5, t6]) (as := [.ref 100, .ref 103, .ref 107, .int (nI (b + 1)), .int (nI (T ||| 2 ^ im))]) (as' := [.ref 103, .ref 107, .int (nI (b + 1)), .int (nI (T ||| 2 ^ im))]) (st := []) (k := 0) (n := 0) cX4_completes_63 (ihn (b + 1) (T ||| 2 ^ im) (upd I1 b (nI (im + 1))) (updN h0 b (im + 1)) 4 5 6 7 8 9 (by omega) ho2 hI2 hmk2) ab_pfx rfl (by decide) rfl rfl rfl rfl rfl rfl (Nat.le_of_ble_eq_true rfl) dX4_completes_63 (fun w' v h => by obtain ⟨_, _, h, _⟩ := h; rw [h]; exact (rfl : (11 : Nat) = 11)) (fun w2 v2 hq => ?_)
          obtain ⟨I3, h3, rfl, hI3, hg3, hq⟩ := hq
          have hg3' : ∀ c, c < b → h3 c = g c := fun c hc => by rw [hg3 c (by omega), hg2 c hc]
          have hb3 : h3 b = im + 1 := by rw [hg3 b (by omega), updN_s]
          rcases hq with ⟨hx3, hlex, rfl⟩ | ⟨hnone, rfl⟩
          · refine G_w (st' := [.int 1]) (w' := (xD I3 La K R nb nt hs ro cv t1 t2 t3 K' R' nb' nt' hs' ro' cv' t4 t5 t6)) rfl rfl ?_
            refine G_if_eq (tgt := 71) dX4_completes_66 (by decide) (fun h => absurd h (by decide)) (fun _ => ?_)
            refine G_iconst (v := 1) dX4_completes_69 (by decide) ?_
            refine G_ret (v := some (.int _)) ⟨dX4_completes_70, _, rfl, rfl⟩ ⟨I3, h3, rfl, hI3, hg3', Or.inl ⟨⟨hg3', fun c hc1 hc2 => ?_⟩, fun h2 hx => ?_, rfl⟩⟩
            · by_cases ec : c = b
              · subst ec
                refine ⟨⟨by omega, by omega, by rw [hb3]; exact hr, kT_congr (fun q hq => (hg3 q hq).symm) hkt⟩, fun c' hc' e => ?_⟩
                have ht : T.testBit im = true := (hmk im (by omega)).mpr ⟨c', hc', by rw [← hg3' c' hc', e, hb3]⟩
                rw [hfree] at ht
                cases ht
              · exact hx3.2 c (by omega) hc2
            · have a := hno h2 hx
              by_cases e : h2 b = im + 1
              · have hx2 : Ext k nt nb R K' R' nt' nb' (updN h0 b (im + 1)) (b + 1) h2 := ⟨fun c hc => same2 h2 hx e c hc, fun c hc1 hc2 => hx.2 c (by omega) hc2⟩
                rcases hlex h2 hx2 with q | ⟨c, q1, q2, q3, q4⟩
                · refine Or.inl (fun c hc1 hc2 => ?_)
                  by_cases ec : c = b
                  · rw [ec, hb3, e]
                  · exact q c (by omega) hc2
                · refine Or.inr ⟨c, by omega, q2, q3, fun c' hc1 hc2 => ?_⟩
                  by_cases ec : c' = b
                  · rw [ec, hb3, e]
                  · exact q4 c' (by omega) hc2
              · exact Or.inr ⟨b, Nat.le_refl _, hbb, by omega, fun c' h1 h2 => by omega⟩
          · refine G_w (st' := [.int 0]) (w' := (xD I3 La K R nb nt hs ro cv t1 t2 t3 K' R' nb' nt' hs' ro' cv' t4 t5 t6)) rfl rfl ?_
            refine G_if_eq (tgt := 71) dX4_completes_66 (by decide) (fun _ => ?_) (fun h => absurd rfl h)
            refine nxt I3 h3 hI3 hg3' (fun h2 hx e => ?_)
            exact hnone ⟨h2, fun c hc => same2 h2 hx e c hc, fun c hc1 hc2 => hx.2 c (by omega) hc2⟩
        · refine G_w (st' := [.int 0]) (w' := (xD (upd I1 b (nI (im + 1))) La K R nb nt hs ro cv t1 t2 t3 K' R' nb' nt' hs' ro' cv' t4 t5 t6)) rfl rfl ?_
          refine G_if_eq (tgt := 71) dX4_completes_47 (by decide) (fun _ => ?_) (fun h => absurd rfl h)
          refine nxt _ (updN h0 b (im + 1)) hI2 hg2 (fun h2 hx e => ?_)
          exact hkt (kT_congr (same2 h2 hx e) (hx.2 b (Nat.le_refl _) hbb).1.2.2.2)
    exact loop 0 I g (by omega) hI (fun _ _ => rfl) (fun h2 hx => (hx.2 b (Nat.le_refl _) hbb).1.1)
set_option maxRecDepth 20000 in
set_option maxHeartbeats 4000000 in
theorem con_completes_S (d : Nat) (La K R : Nat → Int32) (nb nt : Nat) (hs ro cv : Int32) (hnb : nb ≤ 8) (hnb' : nb ≤ 8) (hnt : nt ≤ 40) (hnt' : nt ≤ 40) (k : Nat → Nat) (hK : ∀ i, i < nt → K i = nI (k i) ∧ k i < 2 ^ 30) (hs1 : ∀ i j, i < j → j < nt → K i < K j) (hLa : ∀ i, i < nt → La i = nI (lb (k i)) - 1) : ∀ (n b T : Nat) (I : Nat → Int32) (g : Nat → Nat) (t1 t2 t3 : Nat), b + n = 8 → T < 256 → (∀ j, j < 8 → I j = nI (g j) ∧ g j ≤ 8) → msk T b g → Con mX4_completes (d + 3 + n) 0 0 (xS I La K R nb nt hs ro cv t1 t2 t3) [.ref 100, .ref 103, .ref 103, .int (nI b), .int (nI T)] (fun w' v => ∃ (I2 : Nat → Int32) (h : Nat → Nat), w' = (xS I2 La K R nb nt hs ro cv t1 t2 t3) ∧ (∀ j, j < 8 → I2 j = nI (h j) ∧ h j ≤ 8) ∧ (∀ c, c < b → h c = g c) ∧ ((Ext k nt nb R K R nt nb g b h ∧ (∀ h2, Ext k nt nb R K R nt nb g b h2 → LexLe b nb h h2) ∧ v = some (.int 1)) ∨ ((¬ ∃ h2, Ext k nt nb R K R nt nb g b h2) ∧ v = some (.int 0)))) := by
  intro n
  induction n with
  | zero =>
    intro b T I g t1 t2 t3 hbn hT hI hmk
    refine Con.of (ab_okc rfl (by decide)) (Nat.le_of_ble_eq_true rfl) ?_
    show G ab_x0 mX4_completes (d + 3 + 0) 0 0 _ 0 [some (.ref 100), some (.ref 103), some (.ref 103), some (.int (nI b)), some (.int (nI T)), none] [] _
    refine G_iload_n dX4_completes_0 rfl ?_
    refine G_aload_n dX4_completes_1 rfl ?_
    refine G_get (f := 1) kc1 dX4_completes_2 fX4_30 (by decide) rfl rfl ?_
    refine G_icmp_geN (tgt := 14) b nb dX4_completes_5 (by decide) rfl rfl (by omega) (by omega) (fun h => ?_) (fun h => by omega)
    refine G_iconst (v := 1) dX4_completes_14 (by decide) ?_
    exact G_ret (v := some (.int _)) ⟨dX4_completes_15, _, rfl, rfl⟩ ⟨I, g, rfl, hI, fun _ _ => rfl, Or.inl ⟨⟨fun _ _ => rfl, fun c h1 h2 => by omega⟩, fun h2 _ => Or.inl (fun c h1 h3 => by omega), rfl⟩⟩
  | succ n ihn =>
    intro b T I g t1 t2 t3 hbn hT hI hmk
    refine Con.of (ab_okc rfl (by decide)) (Nat.le_of_ble_eq_true rfl) ?_
    show G ab_x0 mX4_completes (d + 3 + (n + 1)) 0 0 _ 0 [some (.ref 100), some (.ref 103), some (.ref 103), some (.int (nI b)), some (.int (nI T)), none] [] _
    refine G_iload_n dX4_completes_0 rfl ?_
    refine G_aload_n dX4_completes_1 rfl ?_
    refine G_get (f := 1) kc1 dX4_completes_2 fX4_30 (by decide) rfl rfl ?_
    refine G_icmp_geN (tgt := 14) b nb dX4_completes_5 (by decide) rfl rfl (by omega) (by omega) (fun h => ?_) (fun hbb => ?_)
    · refine G_iconst (v := 1) dX4_completes_14 (by decide) ?_
      exact G_ret (v := some (.int _)) ⟨dX4_completes_15, _, rfl, rfl⟩ ⟨I, g, rfl, hI, fun _ _ => rfl, Or.inl ⟨⟨fun _ _ => rfl, fun c h1 h2 => by omega⟩, fun h2 _ => Or.inl (fun c h1 h3 => by omega), rfl⟩⟩
    refine G_iload_n dX4_completes_8 rfl ?_
    refine G_bipush (v := 8) dX4_completes_9 (by decide) ?_
    refine G_icmp_ltN (tgt := 16) b 8 dX4_completes_11 (by decide) rfl rfl (by omega) (by omega) (fun _ => ?_) (fun h => by omega)
    refine G_iconst (v := 0) dX4_completes_16 (by decide) ?_
    refine G_istore (L' := [_, _, _, _, _, _]) dX4_completes_17 (Nat.le_of_ble_eq_true rfl) rfl ?_
    have loop : ∀ (im : Nat) (I1 : Nat → Int32) (h0 : Nat → Nat), im ≤ nb → (∀ j, j < 8 → I1 j = nI (h0 j) ∧ h0 j ≤ 8) → (∀ c, c < b → h0 c = g c) → (∀ h2, Ext k nt nb R K R nt nb g b h2 → im < h2 b) → G ab_x0 mX4_completes (d + 3 + (n + 1)) 0 0 (fun w' v => ∃ (I2 : Nat → Int32) (h : Nat → Nat), w' = (xS I2 La K R nb nt hs ro cv t1 t2 t3) ∧ (∀ j, j < 8 → I2 j = nI (h j) ∧ h j ≤ 8) ∧ (∀ c, c < b → h c = g c) ∧ ((Ext k nt nb R K R nt nb g b h ∧ (∀ h2, Ext k nt nb R K R nt nb g b h2 → LexLe b nb h h2) ∧ v = some (.int 1)) ∨ ((¬ ∃ h2, Ext k nt nb R K R nt nb g b h2) ∧ v = some (.int 0)))) 19 [some (.ref 100), some (.ref 103), some (.ref 103), some (.int (nI b)), some (.int (nI T)), some (.int (nI im))] [] (xS I1 La K R nb nt hs ro cv t1 t2 t3) := by
      intro im
      induction hm : nb - im using Nat.strongRecOn generalizing im with
      | ind m ih =>
        subst hm
        intro I1 h0 him hI1 hg hno
        refine G_iload dX4_completes_19 rfl ?_
        refine G_aload_n dX4_completes_21 rfl ?_
        refine G_get (f := 1) kc1 dX4_completes_22 fX4_30 (by decide) rfl rfl ?_
        refine G_icmp_geN (tgt := 77) im nb dX4_completes_25 (by decide) rfl rfl (by omega) (by omega) (fun hge => ?_) (fun hlt => ?_)
        · refine G_iconst (v := 0) dX4_completes_77 (by decide) ?_
          refine G_ret (v := some (.int _)) ⟨dX4_completes_78, _, rfl, rfl⟩ ⟨I1, h0, rfl, hI1, hg, Or.inr ⟨?_, rfl⟩⟩
          rintro ⟨h2, hx⟩
          have a := hno h2 hx
          have c := (hx.2 b (Nat.le_refl _) hbb).1.2.1
          omega
        have nxt : ∀ (I2 : Nat → Int32) (h1 : Nat → Nat), (∀ j, j < 8 → I2 j = nI (h1 j) ∧ h1 j ≤ 8) → (∀ c, c < b → h1 c = g c) → (∀ h2, Ext k nt nb R K R nt nb g b h2 → h2 b ≠ im + 1) → G ab_x0 mX4_completes (d + 3 + (n + 1)) 0 0 (fun w' v => ∃ (I2 : Nat → Int32) (h : Nat → Nat), w' = (xS I2 La K R nb nt hs ro cv t1 t2 t3) ∧ (∀ j, j < 8 → I2 j = nI (h j) ∧ h j ≤ 8) ∧ (∀ c, c < b → h c = g c) ∧ ((Ext k nt nb R K R nt nb g b h ∧ (∀ h2, Ext k nt nb R K R nt nb g b h2 → LexLe b nb h h2) ∧ v = some (.int 1)) ∨ ((¬ ∃ h2, Ext k nt nb R K R nt nb g b h2) ∧ v = some (.int 0)))) 71 [some (.ref 100), some (.ref 103), some (.ref 103), some (.int (nI b)), some (.int (nI T)), some (.int (nI im))] [] (xS I2 La K R nb nt hs ro cv t1 t2 t3) := by
          intro I2 h1 a1 a2 a3
          refine G_iinc (L' := [_, _, _, _, _, _]) (v := nI (im + 1)) dX4_completes_71 rfl (nI_succ im).symm rfl ?_
          refine G_goto (tgt := 19) dX4_completes_74 (by decide) ?_
          refine ih (nb - (im + 1)) (by omega) (im + 1) rfl I2 h1 (by omega) a1 a2 (fun h2 hx => ?_)
          have := hno h2 hx
          have := a3 h2 hx
          omega
        refine G_iload dX4_completes_28 rfl ?_
        refine G_iload dX4_completes_30 rfl ?_
        refine G_ishr dX4_completes_32 ?_
        refine G_iconst (v := 1) dX4_completes_33 (by decide) ?_
        refine G_iand dX4_completes_34 ?_
        have hbit := tk_bit T hT im (by omega)
        refine G_if_ne (tgt := 71) dX4_completes_35 (by decide) (fun h => ?_) (fun h => ?_)
        · refine nxt I1 h0 hI1 hg (fun h2 hx e => ?_)
          have ht : T.testBit im = true := by
            cases q : T.testBit im
            · exact absurd (hbit.mpr q) h
            · rfl
          obtain ⟨c, hc, q⟩ := (hmk im (by omega)).mp ht
          have := (hx.2 b (Nat.le_refl _) hbb).2 c hc
          rw [hx.1 c hc, q, e] at this
          exact this rfl
        have hfree := hbit.mp h
        have hft := con_fits_S (d + 1 + n) b im (by omega) (by omega) I1 La K R nb nt hs ro cv 4 5 6 hnt hnt' k h0 hK hs1 hI1 hLa
        rw [show d + 1 + n + 2 = d + 3 + n by omega] at hft
        refine G_aload_n dX4_completes_38 rfl ?_
        refine G_aload_n dX4_completes_39 rfl ?_
        refine G_aload_n dX4_completes_40 rfl ?_
        refine G_iload_n dX4_completes_41 rfl ?_
        refine G_iload dX4_completes_42 rfl ?_
        refine G_V (is := [0, 1, 2, 3, 4, 5, 6]) (fo := [t1, t2, t3]) (as := [.ref 100, .ref 103, .ref 103, .int (nI b), .int (nI im)]) (as' := [.ref 103, .ref 103, .int (nI b), .int (nI im)]) (st := []) (k := 0) (n := 0) cX4_completes_44 hft ab_pfx rfl (by decide) rfl rfl rfl rfl rfl rfl (Nat.le_of_ble_eq_true rfl) dX4_completes_44 (fun w' v h => by rcases h with ⟨_, _, h⟩ | ⟨_, h, _⟩ <;> rw [h] <;> exact (rfl : (7 : Nat) = 7)) (fun w2 v2 hq => ?_)
        rcases hq with ⟨hr, rfl, rfl⟩ | ⟨hr, rfl, hq⟩
        · refine G_w (st' := [.int 0]) (w' := (xS I1 La K R nb nt hs ro cv t1 t2 t3)) rfl rfl ?_
          refine G_if_eq (tgt := 71) dX4_completes_47 (by decide) (fun _ => ?_) (fun h => absurd rfl h)
          refine nxt I1 h0 hI1 hg (fun h2 hx e => ?_)
          have := (hx.2 b (Nat.le_refl _) hbb).1.2.2.1
          rw [e] at this
          exact hr this
        have hI2 : ∀ j, j < 8 → upd I1 b (nI (im + 1)) j = nI (updN h0 b (im + 1) j) ∧ updN h0 b (im + 1) j ≤ 8 := fun j hj => by
          by_cases e : j = b
          · rw [e, pk_us, updN_s]; exact ⟨rfl, by omega⟩
          · rw [pk_un e, updN_n e]; exact hI1 j hj
        have hg2 : ∀ c, c < b → updN h0 b (im + 1) c = g c := fun c hc => by rw [updN_n (by omega)]; exact hg c hc
        have same2 : ∀ h2, Ext k nt nb R K R nt nb g b h2 → h2 b = im + 1 → ∀ c, c < b + 1 → h2 c = updN h0 b (im + 1) c := fun h2 hx e c hc => by
          by_cases ec : c = b
          · rw [ec, e, updN_s]
          · rw [hx.1 c (by omega), hg2 c (by omega)]
        rcases hq with ⟨hkt, rfl⟩ | ⟨hkt, rfl⟩
        · refine G_w (st' := [.int 1]) (w' := (xS (upd I1 b (nI (im + 1))) La K R nb nt hs ro cv t1 t2 t3)) rfl rfl ?_
          refine G_if_eq (tgt := 71) dX4_completes_47 (by decide) (fun h => absurd h (by decide)) (fun _ => ?_)
          refine G_aload_n dX4_completes_50 rfl ?_
          refine G_aload_n dX4_completes_51 rfl ?_
          refine G_aload_n dX4_completes_52 rfl ?_
          refine G_iload_n dX4_completes_53 rfl ?_
          refine G_iconst (v := 1) dX4_completes_54 (by decide) ?_
          refine G_iadd dX4_completes_55 ?_
          refine G_topi (nI_1 b) ?_
          refine G_iload dX4_completes_56 rfl ?_
          refine G_iconst (v := 1) dX4_completes_58 (by decide) ?_
          refine G_iload dX4_completes_59 rfl ?_
          refine G_ishl dX4_completes_61 ?_
          refine G_ior dX4_completes_62 ?_
          obtain ⟨ho1, ho2⟩ := tk_or T hT im (by omega)
          refine G_topi ho1 ?_
          have hmk2 : msk (T ||| 2 ^ im) (b + 1) (updN h0 b (im + 1)) := msk_up hmk (by omega) hg2 updN_s
          refine G_V (is := [0, 1, 2, 3, 4, 5, 6]) (fo := [t1, t2, t3]) (as := [.ref 100, .ref 103, .ref 103, .int (nI (b + 1)), .int (nI (T ||| 2 ^ im))]) (as' := [.ref 103, .ref 103, .int (nI (b + 1)), .int (nI (T ||| 2 ^ im))]) (st := []) (k := 0) (n := 0) cX4_completes_63 (ihn (b + 1) (T ||| 2 ^ im) (upd I1 b (nI (im + 1))) (updN h0 b (im + 1)) 4 5 6 (by omega) ho2 hI2 hmk2) ab_pfx rfl (by decide) rfl rfl rfl rfl rfl rfl (Nat.le_of_ble_eq_true rfl) dX4_completes_63 (fun w' v h => by obtain ⟨_, _, h, _⟩ := h; rw [h]; exact (rfl : (7 : Nat) = 7)) (fun w2 v2 hq => ?_)
          obtain ⟨I3, h3, rfl, hI3, hg3, hq⟩ := hq
          have hg3' : ∀ c, c < b → h3 c = g c := fun c hc => by rw [hg3 c (by omega), hg2 c hc]
          have hb3 : h3 b = im + 1 := by rw [hg3 b (by omega), updN_s]
          rcases hq with ⟨hx3, hlex, rfl⟩ | ⟨hnone, rfl⟩
          · refine G_w (st' := [.int 1]) (w' := (xS I3 La K R nb nt hs ro cv t1 t2 t3)) rfl rfl ?_
            refine G_if_eq (tgt := 71) dX4_completes_66 (by decide) (fun h => absurd h (by decide)) (fun _ => ?_)
            refine G_iconst (v := 1) dX4_completes_69 (by decide) ?_
            refine G_ret (v := some (.int _)) ⟨dX4_completes_70, _, rfl, rfl⟩ ⟨I3, h3, rfl, hI3, hg3', Or.inl ⟨⟨hg3', fun c hc1 hc2 => ?_⟩, fun h2 hx => ?_, rfl⟩⟩
            · by_cases ec : c = b
              · subst ec
                refine ⟨⟨by omega, by omega, by rw [hb3]; exact hr, kT_congr (fun q hq => (hg3 q hq).symm) hkt⟩, fun c' hc' e => ?_⟩
                have ht : T.testBit im = true := (hmk im (by omega)).mpr ⟨c', hc', by rw [← hg3' c' hc', e, hb3]⟩
                rw [hfree] at ht
                cases ht
              · exact hx3.2 c (by omega) hc2
            · have a := hno h2 hx
              by_cases e : h2 b = im + 1
              · have hx2 : Ext k nt nb R K R nt nb (updN h0 b (im + 1)) (b + 1) h2 := ⟨fun c hc => same2 h2 hx e c hc, fun c hc1 hc2 => hx.2 c (by omega) hc2⟩
                rcases hlex h2 hx2 with q | ⟨c, q1, q2, q3, q4⟩
                · refine Or.inl (fun c hc1 hc2 => ?_)
                  by_cases ec : c = b
                  · rw [ec, hb3, e]
                  · exact q c (by omega) hc2
                · refine Or.inr ⟨c, by omega, q2, q3, fun c' hc1 hc2 => ?_⟩
                  by_cases ec : c' = b
                  · rw [ec, hb3, e]
                  · exact q4 c' (by omega) hc2
              · exact Or.inr ⟨b, Nat.le_refl _, hbb, by omega, fun c' h1 h2 => by omega⟩
          · refine G_w (st' := [.int 0]) (w' := (xS I3 La K R nb nt hs ro cv t1 t2 t3)) rfl rfl ?_
            refine G_if_eq (tgt := 71) dX4_completes_66 (by decide) (fun _ => ?_) (fun h => absurd rfl h)
            refine nxt I3 h3 hI3 hg3' (fun h2 hx e => ?_)
            exact hnone ⟨h2, fun c hc => same2 h2 hx e c hc, fun c hc1 hc2 => hx.2 c (by omega) hc2⟩
        · refine G_w (st' := [.int 0]) (w' := (xS (upd I1 b (nI (im + 1))) La K R nb nt hs ro cv t1 t2 t3)) rfl rfl ?_
          refine G_if_eq (tgt := 71) dX4_completes_47 (by decide) (fun _ => ?_) (fun h => absurd rfl h)
          refine nxt _ (updN h0 b (im + 1)) hI2 hg2 (fun h2 hx e => ?_)
          exact hkt (kT_congr (same2 h2 hx e) (hx.2 b (Nat.le_refl _) hbb).1.2.2.2)
    exact loop 0 I g (by omega) hI (fun _ _ => rfl) (fun h2 hx => (hx.2 b (Nat.le_refl _) hbb).1.1)
