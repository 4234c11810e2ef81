/-! Orders composed; in how many ways a graph becomes another, and itself. -/
def cmp_ (w h : Nat → Nat) (c : Nat) : Nat := w (h c - 1)
theorem cmp_perm {n : Nat} {w h : Nat → Nat} (hw : PermH n w) (hh : PermH n h) : PermH n (cmp_ w h) := by
  refine ⟨fun c hc => ?_, fun i j hij hj e => ?_⟩
  · have := hh.1 c hc
    exact hw.1 _ (by omega)
  · have a := hh.1 i (by omega)
    have b := hh.1 j hj
    have := perm_inj hw (i := h i - 1) (j := h j - 1) (by omega) (by omega) e
    exact hh.2 i j hij hj (by omega)
theorem rn_cmp {n : Nat} (hn : n ≤ 8) {w h : Nat → Nat} (hh : PermH n h) {P : Nat} (hP : P < 8 → 7 - P < n) : rn w (rn h P) = rn (cmp_ w h) P := by
  by_cases a : P < 8
  · obtain ⟨a1, a2, a3⟩ := rn_lo hn hh a (hP a)
    show (if rn h P < 8 then 8 - w (7 - rn h P) else rn h P) = if P < 8 then 8 - cmp_ w h (7 - P) else P
    rw [if_pos a2, if_pos a, a3]
    rfl
  · rw [rn_hi (h := h) (by omega), rn_hi (h := w) (by omega), rn_hi (h := cmp_ w h) (by omega)]
theorem rnK_cmp {n : Nat} (hn : n ≤ 8) {w h : Nat → Nat} (hh : PermH n h) {K : Nat} (hK : keyK K n) : rnK w (rnK h K) = rnK (cmp_ w h) K := by
  refine kp_ext (rnK_lt _ _) (rnK_lt _ _) (fun p hp3 => ?_)
  rw [kp_rnK w _ p hp3, kp_rnK h K p hp3, kp_rnK _ K p hp3]
  exact rn_cmp hn hh (hK.2 p hp3).2
theorem Bc_cmp {nb nt nt' nt'' : Nat} (hnb : nb ≤ 8) {k k' k'' w h : Nat → Nat} (hk : keyN_ k nt nb) (hh : PermH nb h) (h1 : Bc k nt k' nt' h) (h2 : Bc k' nt' k'' nt'' w) : Bc k nt k'' nt'' (cmp_ w h) := fun i hi => by
  obtain ⟨j, hj, e⟩ := h1 i hi
  obtain ⟨l, hl, e2⟩ := h2 j hj
  exact ⟨l, hl, by rw [e2, e, rnK_cmp hnb hh (hk i hi)]⟩
theorem inv_ex {n : Nat} {w : Nat → Nat} (hw : PermH n w) : ∃ v : Nat → Nat, PermH n v ∧ (∀ c, c < n → cmp_ v w c = c + 1) ∧ ∀ c, c < n → cmp_ w v c = c + 1 := by
  have hc : ∃ v : Nat → Nat, ∀ c, c < n → 1 ≤ v c ∧ v c ≤ n ∧ w (v c - 1) = c + 1 := by
    refine ⟨fun c => if hc : c < n then Classical.choose (perm_sur hw (v := c + 1) (by omega) (by omega)) + 1 else 0, fun c hc => ?_⟩
    have := Classical.choose_spec (perm_sur hw (v := c + 1) (by omega) (show c + 1 ≤ n by omega))
    simp only [hc, dite_true]
    exact ⟨by omega, this.1, by rw [Nat.add_sub_cancel]; exact this.2⟩
  obtain ⟨v, hv⟩ := hc
  have hp : PermH n v := ⟨fun c hc => ⟨(hv c hc).1, (hv c hc).2.1⟩, fun i j hij hj e => by
    have a := (hv i (by omega)).2.2
    have b := (hv j hj).2.2
    rw [e, b] at a
    omega⟩
  refine ⟨v, hp, fun c hc => ?_, fun c hc => (hv c hc).2.2⟩
  show v (w c - 1) = c + 1
  have hwc := hw.1 c hc
  have h1 := hv (w c - 1) (by omega)
  have := perm_inj hw (i := v (w c - 1) - 1) (j := c) (by omega) hc (by rw [h1.2.2]; omega)
  omega
theorem cmp_loc {n : Nat} {w h h' : Nat → Nat} (e : ∀ c, c < n → h c = h' c) : ∀ c, c < n → cmp_ w h c = cmp_ w h' c := fun c hc => by unfold cmp_; rw [e c hc]
theorem rnK_inv {n : Nat} (hn : n ≤ 8) {v w : Nat → Nat} (hw : PermH n w) (e : ∀ c, c < n → cmp_ v w c = c + 1) {K : Nat} (hK : keyK K n) : rnK v (rnK w K) = K := by
  rw [rnK_cmp hn hw hK, rnK_loc (s := fun c => c + 1) e (fun p hp => (hK.2 p hp).2), rnK_id hK]
theorem Bc_inv {nb nt : Nat} (hnb : nb ≤ 8) {k k' v w : Nat → Nat} (hk : Vk k nt nb) (hw : PermH nb w) (e : ∀ c, c < nb → cmp_ v w c = c + 1) (h : Bc k nt k' nt w) : Bc k' nt k nt v := fun j hj => by
  have hm := (Bc_perm hnb hk hw h).subset (List.mem_map.mpr ⟨j, List.mem_range.mpr hj, rfl⟩)
  obtain ⟨i, hi, ei⟩ := List.mem_map.mp hm
  exact ⟨i, List.mem_range.mp hi, by rw [← ei, rnK_inv hnb hw e (hk.1 i (List.mem_range.mp hi))]⟩
theorem nP_inj {n : Nat} (hn : n ≤ 8) {P Q : (Nat → Nat) → Prop} (hQ : Loc n Q) (f : (Nat → Nat) → Nat → Nat) (h1 : ∀ h, PermH n h → P h → PermH n (f h) ∧ Q (f h)) (h2 : ∀ h s, PermH n h → PermH n s → P h → P s → (∀ c, c < n → f h c = f s c) → ∀ c, c < n → h c = s c) : nP n P (9 ^ n) ≤ nP n Q (9 ^ n) := by
  refine cntP_inj (fun y => enc (f (dec n y)) n) (fun y hy hp => ?_) (fun x y hx hy px py e => ?_)
  · obtain ⟨a, b⟩ := h1 _ hp.1 hp.2
    have h8 := perm8 hn a
    exact ⟨enc_bd h8, PermH_congr (fun c hc => (dec_enc h8 c hc).symm) a, hQ _ _ (fun c hc => (dec_enc h8 c hc).symm) b⟩
  · have a := (h1 _ px.1 px.2).1
    have b := (h1 _ py.1 py.2).1
    have := h2 _ _ px.1 py.1 px.2 py.2 (enc_inj (perm8 hn a) (perm8 hn b) e)
    rw [← enc_dec n x hx, ← enc_dec n y hy, enc_eq this]
theorem cmp_can {n : Nat} {w h s : Nat → Nat} (hw : PermH n w) (hh : PermH n h) (hs : PermH n s) (e : ∀ c, c < n → cmp_ w h c = cmp_ w s c) : ∀ c, c < n → h c = s c := fun c hc => by
  have a := hh.1 c hc
  have b := hs.1 c hc
  have := perm_inj hw (i := h c - 1) (j := s c - 1) (by omega) (by omega) (e c hc)
  omega
/-- one way, behind each automorphism in turn, gives every way -/
theorem ways_aut {nb nt : Nat} (hnb : nb ≤ 8) {k k' w : Nat → Nat} (hk : Vk k nt nb) (hk' : Vk k' nt nb) (hw : PermH nb w) (hB : Bc k nt k' nt w) : nP nb (Bc k nt k' nt) (9 ^ nb) = nP nb (Bc k nt k nt) (9 ^ nb) := by
  obtain ⟨v, hv, e1, e2⟩ := inv_ex hw
  have a := nP_inj hnb (P := Bc k nt k nt) (Q := Bc k nt k' nt) (Bc_loc hk.1) (cmp_ w) (fun h hh hP => ⟨cmp_perm hw hh, Bc_cmp hnb hk.1 hh hP hB⟩) (fun h s hh hs _ _ e => cmp_can hw hh hs e)
  have b := nP_inj hnb (P := Bc k nt k' nt) (Q := Bc k nt k nt) (Bc_loc hk.1) (cmp_ v) (fun h hh hP => ⟨cmp_perm hv hh, Bc_cmp hnb hk.1 hh hP (Bc_inv hnb hk hw e1 hB)⟩) (fun h s hh hs _ _ e => cmp_can hv hh hs e)
  omega
theorem nP_pos {n : Nat} (hn : n ≤ 8) {P : (Nat → Nat) → Prop} (hl : Loc n P) : 0 < nP n P (9 ^ n) ↔ ∃ h, PermH n h ∧ P h := by
  constructor
  · intro h
    apply Classical.byContradiction
    intro hno
    have := cntP_gap (P := fun y => PermH n (dec n y) ∧ P (dec n y)) (a := 0) (b := 9 ^ n) (Nat.zero_le _) (fun y _ _ q => hno ⟨_, q⟩)
    unfold nP at h
    rw [this] at h
    exact absurd h (Nat.lt_irrefl 0)
  · rintro ⟨h, hp, hP⟩
    have h1 := nP_yes hn hl hp hP
    have h2 := cntP_up (P := fun y => PermH n (dec n y) ∧ P (dec n y)) (a := 0) (m := enc h n + 1) (n := 9 ^ n) (enc_bd (perm8 hn hp))
    unfold nP at h1 ⊢
    omega
/-- automorphisms that leave the first b blanks -/
def Fx (k : Nat → Nat) (nt b : Nat) (h : Nat → Nat) : Prop := Bc k nt k nt h ∧ ∀ c, c < b → h c = c + 1
theorem Fx_loc {k : Nat → Nat} {nt nb b : Nat} (hb : b ≤ nb) (hk : keyN_ k nt nb) : Loc nb (Fx k nt b) := fun h s e hF => ⟨Bc_loc hk h s e hF.1, fun c hc => by rw [← e c (by omega)]; exact hF.2 c hc⟩
theorem nP_split {n : Nat} {P Q R : (Nat → Nat) → Prop} {x : Nat} (h : ∀ s, PermH n s → (P s ↔ (Q s ∨ R s))) (hd : ∀ s, PermH n s → Q s → ¬ R s) : nP n P x = nP n Q x + nP n R x := by
  unfold nP
  induction x with
  | zero => rfl
  | succ x ih =>
    by_cases hp : PermH n (dec n x)
    · have := h _ hp
      by_cases hq : Q (dec n x)
      · rw [cntP_yes ⟨by omega, hp, this.mpr (Or.inl hq)⟩, cntP_yes ⟨by omega, hp, hq⟩, cntP_no (fun z => hd _ hp hq z.2.2), ih]; omega
      · by_cases hr : R (dec n x)
        · rw [cntP_yes ⟨by omega, hp, this.mpr (Or.inr hr)⟩, cntP_no (fun z => hq z.2.2), cntP_yes ⟨by omega, hp, hr⟩, ih]; omega
        · rw [cntP_no (fun z => by rcases this.mp z.2.2 with a | a; exact hq a; exact hr a), cntP_no (fun z => hq z.2.2), cntP_no (fun z => hr z.2.2), ih]
    · rw [cntP_no (fun z => hp z.2.1), cntP_no (fun z => hp z.2.1), cntP_no (fun z => hp z.2.1), ih]
theorem nP_none {n : Nat} {P : (Nat → Nat) → Prop} {x : Nat} (h : ∀ s, PermH n s → ¬ P s) : nP n P x = 0 := cntP_gap (P := fun y => PermH n (dec n y) ∧ P (dec n y)) (a := 0) (b := x) (Nat.zero_le _) (fun y _ _ q => h _ q.1 q.2)
/-- to which blanks b can go while those before it stay -/
def OrB (k : Nat → Nat) (nt nb b im : Nat) : Prop := ∃ h, PermH nb h ∧ Fx k nt b h ∧ h b = im + 1
theorem orb_count {k : Nat → Nat} {nt nb b : Nat} (hnb : nb ≤ 8) (hk : Vk k nt nb) (hb : b < nb) : nP nb (Fx k nt b) (9 ^ nb) = cntP (OrB k nt nb b) b nb * nP nb (Fx k nt (b + 1)) (9 ^ nb) := by
  have step : ∀ m, m ≤ nb → nP nb (fun h => Fx k nt b h ∧ h b ≤ m) (9 ^ nb) = cntP (OrB k nt nb b) b m * nP nb (Fx k nt (b + 1)) (9 ^ nb) := by
    intro m
    induction m with
    | zero => intro _; rw [nP_none (fun s sp q => by have := sp.1 b hb; omega)]; exact (Nat.zero_mul _).symm
    | succ m ih =>
      intro hm
      rw [nP_split (Q := fun h => Fx k nt b h ∧ h b ≤ m) (R := fun h => Fx k nt b h ∧ h b = m + 1) (fun s _ => ⟨fun q => by rcases Nat.lt_or_ge m (s b) with z | z; exact Or.inr ⟨q.1, by have := q.2; omega⟩; exact Or.inl ⟨q.1, z⟩, fun q => by rcases q with q | q; exact ⟨q.1, by have := q.2; omega⟩; exact ⟨q.1, by have := q.2; omega⟩⟩) (fun s _ q z => by have := q.2; have := z.2; omega), ih (by omega)]
      by_cases ho : b ≤ m ∧ OrB k nt nb b m
      · rw [cntP_yes ho, Nat.add_mul, Nat.one_mul]
        congr 1
        obtain ⟨w, hw, hF, hwb⟩ := ho.2
        obtain ⟨v, hv, e1, e2⟩ := inv_ex hw
        have vfix : ∀ c, c < b → v c = c + 1 := fun c hc => by
          have := e1 c (by omega)
          unfold cmp_ at this
          rw [hF.2 c hc] at this
          exact this
        have vm : v m = b + 1 := by
          have := e1 b hb
          unfold cmp_ at this
          rw [hwb] at this
          exact this
        have lQ : Loc nb (fun h => Fx k nt b h ∧ h b = m + 1) := fun h s e q => ⟨Fx_loc (by omega) hk.1 h s e q.1, by rw [← e b hb]; exact q.2⟩
        have x1 := nP_inj hnb (P := Fx k nt (b + 1)) (Q := fun h => Fx k nt b h ∧ h b = m + 1) lQ (cmp_ w) (fun h hh hP => ⟨cmp_perm hw hh, ⟨Bc_cmp hnb hk.1 hh hP.1 hF.1, fun c hc => by
            unfold cmp_
            rw [hP.2 c (by omega)]
            exact hF.2 c hc⟩, by
            unfold cmp_
            rw [hP.2 b (by omega)]
            exact hwb⟩) (fun h s hh hs _ _ e => cmp_can hw hh hs e)
        have x2 := nP_inj hnb (P := fun h => Fx k nt b h ∧ h b = m + 1) (Q := Fx k nt (b + 1)) (Fx_loc (by omega) hk.1) (cmp_ v) (fun h hh hP => ⟨cmp_perm hv hh, Bc_cmp hnb hk.1 hh hP.1.1 (Bc_inv hnb hk hw e1 hF.1), fun c hc => by
            unfold cmp_
            by_cases ec : c = b
            · rw [ec, hP.2]; exact vm
            · rw [hP.1.2 c (by omega)]; exact vfix c (by omega)⟩) (fun h s hh hs _ _ e => cmp_can hv hh hs e)
        omega
      · rw [cntP_no ho, nP_none (P := fun h => Fx k nt b h ∧ h b = m + 1) (fun s sp q => ?_), Nat.add_zero]
        apply ho
        refine ⟨?_, s, sp, q.1, q.2⟩
        rcases Nat.lt_or_ge m b with z | z
        · have h1 := q.1.2 m z
          exact absurd (h1.trans q.2.symm) (sp.2 m b z hb)
        · exact z
  have := step nb (Nat.le_refl _)
  rw [← this]
  have e : nP nb (Fx k nt b) (9 ^ nb) = nP nb (fun h => Fx k nt b h ∧ h b ≤ nb) (9 ^ nb) := by
    have := nP_split (n := nb) (P := Fx k nt b) (Q := fun h => Fx k nt b h ∧ h b ≤ nb) (R := fun _ => False) (x := 9 ^ nb) (fun s sp => ⟨fun q => Or.inl ⟨q, (sp.1 b hb).2⟩, fun q => by rcases q with q | q; exact q.1; exact absurd q id⟩) (fun _ _ _ z => z)
    rw [this, nP_none (P := fun _ => False) (fun _ _ z => z), Nat.add_zero]
  exact e
theorem fix_all {k : Nat → Nat} {nt nb : Nat} (hnb : nb ≤ 8) (hk : Vk k nt nb) : nP nb (Fx k nt nb) (9 ^ nb) = 1 := by
  have hid : Fx k nt nb (fun c => c + 1) := ⟨fun i hi => ⟨i, hi, (rnK_id (hk.1 i hi)).symm⟩, fun c _ => rfl⟩
  have h1 := nP_inj hnb (P := Fx k nt nb) (Q := fun h => ∀ c, c < nb → h c = c + 1) (fun h s e q c hc => by rw [← e c hc]; exact q c hc) id (fun h hh hP => ⟨hh, hP.2⟩) (fun h s _ _ _ _ e => e)
  have hpos := (nP_pos hnb (Fx_loc (Nat.le_refl _) hk.1)).mpr ⟨_, id_perm nb, hid⟩
  have h2 : nP nb (Fx k nt nb) (9 ^ nb) ≤ 1 := by
    have := cntP_inj (P := fun y => PermH nb (dec nb y) ∧ Fx k nt nb (dec nb y)) (Q := fun y => y < 1) (n := 9 ^ nb) (m := 1) (fun _ => 0) (fun _ _ _ => ⟨by omega, by omega⟩) (fun x y hx hy px py _ => by
      rw [← enc_dec nb x hx, ← enc_dec nb y hy, enc_eq (s := dec nb y) (fun c hc => by rw [px.2.2 c hc, py.2.2 c hc])])
    rw [cntP_lt 1 (Nat.le_refl _)] at this
    exact this
  omega
