/-! The search, by induction. -/
section LS2
variable {k : Nat → Nat} {nt nb : Nat} {H o rk st : Nat → Nat} {cn : Nat}
theorem full {T : Nat} {p : Nat → Nat} (hC : Cx nb o rk 0 T p) : ∀ b, b < nb → T.testBit b = true := by
  have hc : ∃ f : Nat → Nat, ∀ v, v < nb → f v < nb ∧ T.testBit (f v) = true ∧ p (f v) = v + 1 := by
    refine ⟨fun v => if hv : v < nb then Classical.choose (hC.2.2 (v + 1) (by omega) (by omega)) else 0, fun v hv => ?_⟩
    have := Classical.choose_spec (hC.2.2 (v + 1) (by omega) (show v + 1 ≤ nb by omega))
    simp only [hv, dite_true]
    exact this
  obtain ⟨f, hf⟩ := hc
  intro b hb
  obtain ⟨v, hv, e⟩ := sur_of_inj nb f (fun v hv => (hf v hv).1) (fun i j hij hj e => by
    have a := (hf i (by omega)).2.2
    have b := (hf j hj).2.2
    rw [e, b] at a
    omega) b hb
  rw [← e]
  exact (hf v hv).2.1
theorem Nam_congr {s s' : Nat → Nat} (e : ∀ c, c < nb → s c = s' c) (h : Nam nb o rk s) : Nam nb o rk s' := ⟨PermH_congr e h.1, NMg_loc s s' e h.2⟩
theorem Cov_same {x : SX} {s s' : Nat → Nat} (e : sameR (rowF k nt s) (rowF k nt s') nt) (h : Cov k nt x s) : Cov k nt x s' := ⟨h.1, fun z => h.2 (LtR_l e z)⟩
theorem leaf_jump (hnb : nb ≤ 8) (hk : Vk k nt nb) (hG : GP H nb o rk st cn) (hrank : ∀ h, PermH nb h → Bc k nt k nt h → ∀ c, c < nb → rk c = rk (h c - 1)) {T : Nat} {x : SX} {p L B : Nat → Nat} (hC : Cx nb o rk 0 T p) (hL : ∀ b, b < nb → L b = p b) (hLN : Nam nb o rk L) (hBN : Nam nb o rk B) (hrow : sameR (rowF k nt L) (rowF k nt B) nt) (hDE : DE nb o 0 T p B) (hSeen : ∀ s, Nam nb o rk s → DE nb o 0 T p s → Cov k nt x s) {s : Nat → Nat} (hs : Nam nb o rk s) (hsT : ∀ b, b < nb → T.testBit b = true → gdf L B nb ≤ p b → s b = p b) : Cov k nt x s := by
  have hT := full hC
  obtain ⟨v, hv, e1, e2⟩ := inv_ex hBN.1
  have hA : PermH nb (cmp_ v L) := cmp_perm hv hLN.1
  have hBc : Bc k nt k nt (cmp_ v L) := fun i hi => by
    have := (row_iff.mp hrow).subset (List.mem_map.mpr ⟨i, List.mem_range.mpr hi, rfl⟩)
    obtain ⟨j, hj, e⟩ := List.mem_map.mp this
    exact ⟨j, List.mem_range.mp hj, by rw [← rnK_cmp hnb hLN.1 (hk.1 i hi), ← e, rnK_inv hnb hBN.1 e1 (hk.1 j (List.mem_range.mp hj))]⟩
  obtain ⟨a, ha, a1, a2⟩ := inv_ex hA
  have haB : Bc k nt k nt a := Bc_inv hnb hk hA a1 hBc
  -- the other naming
  have hs' : Nam nb o rk (cmp_ s a) := ⟨cmp_perm hs.1 ha, fun c hc => by
    have := ha.1 c hc
    unfold cmp_
    rw [hs.2 (a c - 1) (by omega)]
    exact (hrank a ha haB c hc).symm⟩
  have hsame : sameR (rowF k nt (cmp_ s a)) (rowF k nt s) nt := by
    rw [row_iff]
    have h2 := ((Bc_perm hnb hk ha haB).map (rnK s)).symm
    rw [List.map_map, List.map_map] at h2
    refine (List.Perm.of_eq ?_).trans h2
    exact List.map_congr_left (fun i hi => (rnK_cmp hnb ha (hk.1 i (List.mem_range.mp hi))).symm)
  refine Cov_same hsame (hSeen _ hs' ?_)
  obtain ⟨g1, g2⟩ := gdf_spec (p := L) (q := B) nb
  obtain ⟨w, i, j, w1, w2, w3, w4, w5, w6, w7, w8⟩ := hDE
  have hoj := hG.1 j w5
  have hoi := hG.1 i (by omega)
  have hne : L (o j) ≠ B (o j) := fun e => by
    rw [hL _ hoj, w7, ← w8] at e
    have h1 := perm_inj hBN.1 hoi hoj e
    have := gp_inj hG i j (by omega) w5 h1
    omega
  have hwr : w = gdf L B nb := by
    have h1 := g1 (o j) hoj hne
    rw [hL _ hoj, w7] at h1
    rcases g2 with z | ⟨b, hb, z1, z2⟩
    · omega
    · rcases Nat.lt_or_ge w (gdf L B nb) with y | y
      · exact absurd (by rw [hL b hb]; exact (w3 b hb (hT b hb) (by rw [← hL b hb]; omega)).symm) z1
      · omega
  have afix : ∀ b, b < nb → L b = B b → a b = b + 1 := fun b hb e => by
    have h1 := a1 b hb
    unfold cmp_ at h1
    have h2 : v (L b - 1) = b + 1 := by rw [e]; exact e1 b hb
    rw [h2] at h1
    exact h1
  have aoi : a (o i) = o j + 1 := by
    have h1 := a1 (o j) hoj
    unfold cmp_ at h1
    have h2 : v (L (o j) - 1) = o i + 1 := by
      rw [hL _ hoj, w7, ← w8]
      exact e1 (o i) hoi
    rw [h2] at h1
    exact h1
  refine ⟨w, i, j, w1, w2, fun b hb _ hlt => ?_, w4, w5, w6, w7, ?_⟩
  · have hLB : L b = B b := Classical.byContradiction (fun hne => by
      have := g1 b hb hne
      rw [hL b hb] at this
      omega)
    unfold cmp_
    rw [afix b hb hLB]
    exact hsT b hb (hT b hb) (by omega)
  · unfold cmp_
    rw [aoi]
    show s (o j) = w
    rw [hsT (o j) hoj w6 (by omega), w7]
theorem srch0 (hnb : nb ≤ 8) (hk : Vk k nt nb) (hG : GP H nb o rk st cn) (hrank : ∀ h, PermH nb h → Bc k nt k nt h → ∀ c, c < nb → rk c = rk (h c - 1)) (T : Nat) (x : SX) (hC : Cx nb o rk 0 T x.1) (hSt : St_ k nt nb o rk x) (hE : x.2.1 = true → DE nb o 0 T x.1 x.2.2.1) (hSeen : ∀ s, Nam nb o rk s → DE nb o 0 T x.1 s → Cov k nt x s) : Ans k nt nb o rk 0 T x.1 x (srch k nt nb o rk st 0 T x) := by
  have hT := full hC
  obtain ⟨p, fd, B, row⟩ := x
  have hC : Cx nb o rk 0 T p := hC
  obtain ⟨L, hLd⟩ : ∃ L, L = lyP p 0 T nb rk st := ⟨_, rfl⟩
  have hL : ∀ b, b < nb → L b = p b := fun b hb => by
    rw [hLd]
    unfold lyP
    rw [if_neg (fun z => by rw [hT b hb] at z; exact absurd z.2 (by decide))]
  have hLN : Nam nb o rk L := by
    refine Nam_congr (fun c hc => (hL c hc).symm) ⟨⟨fun c hc => ?_, fun i j hij hj e => ?_⟩, fun c hc => (hC.1 c hc (hT c hc)).2.2⟩
    · have := hC.1 c hc (hT c hc); exact ⟨by have := this.1; omega, this.2.1⟩
    · have := hC.2.1 i j (by omega) hj (hT i (by omega)) (hT j hj) e; omega
  have htr : ∀ j, j < nt → trl k nt L j = rowF k nt L j := pshF_self (rowF_strict hnb hk hLN.1)
  have hon : ∀ s, On nb T p s → sameR (rowF k nt L) (rowF k nt s) nt := fun s hs => by
    rw [rowF_loc hk.1 (fun c hc => (hL c hc).trans (hs c hc (hT c hc)).symm)]
    exact fun _ _ => rfl
  have hns : Nam nb o rk (setN L B nb) := Nam_congr (fun c hc => by unfold setN; rw [if_pos hc]) hLN
  have hrs : ∀ j, j < nt → setN (trl k nt L) row nt j = rowF k nt (setN L B nb) j := fun j hj => by
    rw [rowF_loc hk.1 (h := setN L B nb) (s := L) (fun c hc => by unfold setN; rw [if_pos hc])]
    unfold setN
    rw [if_pos hj]
    exact htr j hj
  have hrL : sameR (rowF k nt L) (setN (trl k nt L) row nt) nt := fun j hj => by
    unfold setN
    rw [if_pos hj]
    exact (htr j hj).symm
  -- the new best
  have new : (fd = true → LtR (trl k nt L) row nt) → Ans k nt nb o rk 0 T p (p, fd, B, row) ((L, true, setN L B nb, setN (trl k nt L) row nt), 0) := fun hlt => by
    refine ⟨fun _ => ⟨hns, hrs⟩, fun b hb _ => hL b hb, fun hf => ⟨rfl, fun z => ?_⟩, Or.inr (fun b hb _ => ?_), fun _ s hs hsT => ⟨rfl, fun z => ?_⟩, fun z => by have z : 0 < 0 := z; omega⟩
    · have h1 := hlt hf
      have h2 : LtR row (trl k nt L) nt := LtR_r z (fun j hj => by show setN (trl k nt L) row nt j = trl k nt L j; unfold setN; rw [if_pos hj])
      exact LtR_as h1 h2
    · show setN L B nb b = p b
      unfold setN
      rw [if_pos hb]
      exact hL b hb
    · have z2 : LtR (rowF k nt s) (rowF k nt L) nt := LtR_r z (fun j hj => (hrL j hj).symm)
      exact LtR_irr z2 (fun j hj => (hon s hsT j hj).symm)
  show Ans k nt nb o rk 0 T p (p, fd, B, row) (if ordX k nt (lyP p 0 T nb rk st) (p, fd, B, row) < 0 then _ else _)
  rw [← hLd]
  cases fd with
  | false =>
    have ho : ordX k nt L (p, false, B, row) = -1 := rfl
    rw [ho, if_pos (by decide)]
    exact new (fun h => absurd h (by decide))
  | true =>
    have ho : ordX k nt L (p, true, B, row) = cmpR (trl k nt L) row nt := rfl
    rw [ho]
    obtain ⟨hBN, hBr⟩ := hSt rfl
    have hBr : ∀ j, j < nt → row j = rowF k nt B j := hBr
    rcases cmpR_spec (trl k nt L) row nt with ⟨z, e⟩ | ⟨z, e⟩ | ⟨⟨i, i1, i2, i3⟩, e⟩
    · rw [e, if_neg (by decide), if_pos rfl]
      have hsm : sameR (rowF k nt L) row nt := fun j hj => by rw [← htr j hj]; exact z j hj
      refine ⟨hSt, fun b hb _ => hL b hb, Lb_refl nt _, Or.inl rfl, fun _ s hs hsT => ⟨rfl, fun y => ?_⟩, fun hr => ⟨?_, fun s hs hsT => ?_⟩⟩
      · exact LtR_irr y (fun j hj => ((hon s hsT j hj).symm).trans (hsm j hj))
      · exact gdf_le (fun b hb => (hLN.1.1 b hb).2)
      · exact leaf_jump hnb hk hG hrank (x := (p, true, B, row)) hC hL hLN hBN (fun j hj => (hsm j hj).trans (hBr j hj)) (hE rfl) hSeen hs hsT
    · rw [e, if_pos (by decide)]
      exact new (fun _ => z)
    · rw [e, if_neg (by decide), if_neg (by decide)]
      refine ⟨hSt, fun b hb _ => hL b hb, Lb_refl nt _, Or.inl rfl, fun _ s hs hsT => ⟨rfl, fun y => ?_⟩, fun hr => by have hr : 0 < 0 := hr; omega⟩
      have h1 : LtR row (rowF k nt s) nt := LtR_r ⟨i, i1, fun j hj => (i2 j hj).symm, i3⟩ (fun j hj => (htr j hj).trans (hon s hsT j hj))
      exact LtR_as h1 y
theorem srchS (hnb : nb ≤ 8) (hk : Vk k nt nb) (hG : GP H nb o rk st cn) (num : Nat) (hnum : num + 1 ≤ nb) (ih : ∀ (T : Nat) (x : SX), Cx nb o rk num T x.1 → St_ k nt nb o rk x → (x.2.1 = true → DE nb o num T x.1 x.2.2.1) → (∀ s, Nam nb o rk s → DE nb o num T x.1 s → Cov k nt x s) → Ans k nt nb o rk num T x.1 x (srch k nt nb o rk st num T x)) (T : Nat) (x : SX) (hC : Cx nb o rk (num + 1) T x.1) (hSt : St_ k nt nb o rk x) (hE : x.2.1 = true → DE nb o (num + 1) T x.1 x.2.2.1) (hSeen : ∀ s, Nam nb o rk s → DE nb o (num + 1) T x.1 s → Cov k nt x s) : Ans k nt nb o rk (num + 1) T x.1 x (srch k nt nb o rk st (num + 1) T x) := by
  obtain ⟨p, x2⟩ := x
  have hC : Cx nb o rk (num + 1) T p := hC
  obtain ⟨L, hLd⟩ : ∃ L, L = lyP p (num + 1) T nb rk st := ⟨_, rfl⟩
  have hL : On nb T p L := fun b hb hT => by
    rw [hLd]
    unfold lyP
    rw [if_neg (fun z => by rw [hT] at z; exact absurd z.2 (by decide))]
  show Ans k nt nb o rk (num + 1) T p (p, x2) (if 0 < ordX k nt (lyP p (num + 1) T nb rk st) (p, x2) then ((lyP p (num + 1) T nb rk st, x2), 0) else srchL (srch k nt nb o rk st num) (num + 1) T (cands o rk st (num + 1)) (lyP p (num + 1) T nb rk st, x2))
  rw [← hLd]
  by_cases hord : 0 < ordX k nt L (p, x2)
  · rw [if_pos hord]
    have hf : x2.1 = true := by
      rcases h : x2.1 with _ | _
      · exfalso
        have : ordX k nt L (p, x2) = -1 := by unfold ordX; rw [show (p, x2).2.1 = false from h]; rfl
        rw [this] at hord
        exact absurd hord (by decide)
      · rfl
    have hlt : LtR x2.2.2 (trl k nt L) nt := by
      have e : ordX k nt L (p, x2) = cmpR (trl k nt L) x2.2.2 nt := by unfold ordX; rw [show (p, x2).2.1 = true from hf]; rfl
      rw [e] at hord
      rcases cmpR_spec (trl k nt L) x2.2.2 nt with ⟨_, z⟩ | ⟨_, z⟩ | ⟨⟨i, i1, i2, i3⟩, _⟩
      · rw [z] at hord; exact absurd hord (by decide)
      · rw [z] at hord; exact absurd hord (by decide)
      · exact ⟨i, i1, fun j hj => (i2 j hj).symm, i3⟩
    refine ⟨hSt, hL, Lb_refl nt _, Or.inl rfl, fun _ s hs hsT => ⟨hf, fun z => ?_⟩, fun z => by have z : num + 1 < 0 := z; omega⟩
    have h1 : LtR x2.2.2 (rowF k nt s) nt := lex_dom (by rw [hLd]; exact bound_row hnb hk hG hC hs hsT) hlt
    exact LtR_as h1 z
  rw [if_neg hord]
  have hgn := hG.2.2.2.1 _ (hG.1 num (by omega))
  obtain ⟨g, hg⟩ : ∃ g, g = rk (o num) := ⟨_, rfl⟩
  rw [← hg] at hgn
  have hs5 := hG.2.2.2.2.1 num (by omega)
  rw [← hg] at hs5
  have hse := gp_le hG (g := g + 1) (by omega)
  have hgrp : ∀ s, Nam nb o rk s → ∀ i, i < nb → s (o i) = num + 1 → st g ≤ i ∧ i < st (g + 1) := fun s hs i hi e => by
    have h1 := hs.2 (o i) (hG.1 i hi)
    rw [e, Nat.add_sub_cancel, ← hg] at h1
    have h2 := hG.2.2.2.2.1 i hi
    rw [← h1] at h2
    exact h2
  have hcd : cands o rk st (num + 1) = (List.range' (st g) (st (g + 1) - st g)).map o := by
    unfold cands
    rw [Nat.add_sub_cancel, ← hg, List.range'_eq_map_range, List.map_map]
    rfl
  rw [hcd]
  have loop : ∀ (m e : Nat) (z : SX), st (g + 1) - e = m → st g ≤ e → e ≤ st (g + 1) → On nb T p z.1 → St_ k nt nb o rk z → Lb nt (p, x2) z → (z.2 = x2 ∨ On nb T p z.2.2.1) → (z.2.1 = true → DI nb o (num + 1) T e p z.2.2.1) → (∀ s, Nam nb o rk s → DI nb o (num + 1) T e p s → Cov k nt z s) → Ans k nt nb o rk (num + 1) T p (p, x2) (srchL (srch k nt nb o rk st num) (num + 1) T ((List.range' e m).map o) z) := by
    intro m
    induction m with
    | zero =>
      intro e z hm he1 he2 hOn hStz hLb h4 hDI hCov
      refine ⟨hStz, hOn, hLb, h4, fun _ s hs hsT => hCov s hs (Or.inr ⟨hsT, ?_⟩), fun y => by have y : num + 1 < 0 := y; omega⟩
      obtain ⟨c, hc, ec⟩ := perm_sur hs.1 (v := num + 1) (by omega) hnum
      obtain ⟨i, hi, rfl⟩ := gp_sur hG hc
      have := hgrp s hs i hi ec
      exact ⟨i, by omega, hi, ec⟩
    | succ m ihm =>
      intro e z hm he1 he2 hOn hStz hLb h4 hDI hCov
      have hen : e < nb := by omega
      have hoe := hG.1 e hen
      have hoe8 : o e < 8 := by omega
      rw [List.range'_succ, List.map_cons]
      show Ans k nt nb o rk (num + 1) T p (p, x2) (if T.testBit (o e) = true then _ else _)
      by_cases hTe : T.testBit (o e) = true
      · rw [if_pos hTe]
        have hsub : ∀ s, DI nb o (num + 1) T (e + 1) p s → DI nb o (num + 1) T e p s := fun s hs => by
          rcases hs with h | ⟨h1, i, h2, h3, h4'⟩
          · exact Or.inl h
          · by_cases ei : i = e
            · exfalso
              rw [ei] at h4'
              have h5 := h1 (o e) hoe hTe
              have h6 := (hC.1 (o e) hoe hTe).1
              omega
            · exact Or.inr ⟨h1, i, by omega, h3, h4'⟩
        refine ihm (e + 1) z (by omega) (by omega) (by omega) hOn hStz hLb h4 (fun hf => ?_) (fun s hs hd => hCov s hs (hsub s hd))
        rcases hDI hf with h | ⟨h1, i, h2, h3⟩
        · exact Or.inl h
        · exact Or.inr ⟨h1, i, by omega, h3⟩
      · rw [if_neg hTe]
        have bit : ∀ c, (T ||| 2 ^ (o e)).testBit c = true ↔ (T.testBit c = true ∨ c = o e) := fun c => by
          rw [Nat.testBit_or, Nat.testBit_two_pow, Bool.or_eq_true, decide_eq_true_eq]
          exact ⟨fun q => by rcases q with q | q; exact Or.inl q; exact Or.inr q.symm, fun q => by rcases q with q | q; exact Or.inl q; exact Or.inr q.symm⟩
        obtain ⟨p', hp'⟩ : ∃ p', p' = updN z.1 (o e) (num + 1) := ⟨_, rfl⟩
        have pe : p' (o e) = num + 1 := by rw [hp']; exact updN_s
        have pT : ∀ c, c < nb → T.testBit c = true → p' c = p c := fun c hc hTc => by
          rw [hp', updN_n (fun q => hTe (by rw [← q]; exact hTc))]
          exact hOn c hc hTc
        have hC' : Cx nb o rk num (T ||| 2 ^ (o e)) p' := by
          refine ⟨fun c hc hb => ?_, fun c c' hc hc' hb hb' ee => ?_, fun v hv1 hv2 => ?_⟩
          · rcases (bit c).mp hb with q | q
            · rw [pT c hc q]
              have := hC.1 c hc q
              exact ⟨by omega, this.2⟩
            · rw [q, pe]
              refine ⟨by omega, hnum, ?_⟩
              rw [Nat.add_sub_cancel, ← hg]
              have j1 := gp_jlt hG hen (g := g + 1) (by omega)
              have j2 := gp_jlt hG hen (g := g) (by omega)
              omega
          · rcases (bit c).mp hb with q | q <;> rcases (bit c').mp hb' with q' | q'
            · rw [pT c hc q, pT c' hc' q'] at ee
              exact hC.2.1 c c' hc hc' q q' ee
            · rw [pT c hc q, q', pe] at ee
              have := (hC.1 c hc q).1
              omega
            · rw [pT c' hc' q', q, pe] at ee
              have := (hC.1 c' hc' q').1
              omega
            · rw [q, q']
          · by_cases ev : v = num + 1
            · exact ⟨o e, hoe, (bit _).mpr (Or.inr rfl), by rw [pe, ev]⟩
            · obtain ⟨c, hc, hTc, ec⟩ := hC.2.2 v (by omega) hv2
              exact ⟨c, hc, (bit _).mpr (Or.inl hTc), by rw [pT c hc hTc, ec]⟩
        have d1 : ∀ s, DE nb o num (T ||| 2 ^ (o e)) p' s → DI nb o (num + 1) T e p s := fun s hs => by
          obtain ⟨v, i, j, v1, v2, v3, v4, v5, v6, v7, v8⟩ := hs
          by_cases ev : v = num + 1
          · have hj : o j = o e := by
              rcases (bit _).mp v6 with q | q
              · rw [pT _ (hG.1 j v5) q] at v7
                have := (hC.1 _ (hG.1 j v5) q).1
                omega
              · exact q
            have hje := gp_inj hG j e v5 hen hj
            refine Or.inr ⟨fun c hc hTc => ?_, i, by omega, by omega, by rw [v8, ev]⟩
            rw [← pT c hc hTc]
            refine v3 c hc ((bit _).mpr (Or.inl hTc)) ?_
            rw [pT c hc hTc]
            have := (hC.1 c hc hTc).1
            omega
          · have hTj : T.testBit (o j) = true := by
              rcases (bit _).mp v6 with q | q
              · exact q
              · rw [q, pe] at v7; omega
            refine Or.inl ⟨v, i, j, by omega, v2, fun c hc hTc hlt => ?_, v4, v5, hTj, by rw [← pT _ (hG.1 j v5) hTj]; exact v7, v8⟩
            rw [← pT c hc hTc]
            exact v3 c hc ((bit _).mpr (Or.inl hTc)) (by rw [pT c hc hTc]; exact hlt)
        have d2 : ∀ s, DI nb o (num + 1) T e p s → DE nb o num (T ||| 2 ^ (o e)) p' s := fun s hs => by
          rcases hs with ⟨v, i, j, v1, v2, v3, v4, v5, v6, v7, v8⟩ | ⟨h1, i, h2, h3, h4'⟩
          · refine ⟨v, i, j, by omega, v2, fun c hc hb hlt => ?_, v4, v5, (bit _).mpr (Or.inl v6), by rw [pT _ (hG.1 j v5) v6]; exact v7, v8⟩
            rcases (bit c).mp hb with q | q
            · rw [pT c hc q] at hlt ⊢
              exact v3 c hc q hlt
            · rw [q, pe] at hlt; omega
          · refine ⟨num + 1, i, e, by omega, hnum, fun c hc hb hlt => ?_, h2, hen, (bit _).mpr (Or.inr rfl), pe, h4'⟩
            rcases (bit c).mp hb with q | q
            · rw [pT c hc q]; exact h1 c hc q
            · rw [q, pe] at hlt; omega
        have key := ih (T ||| 2 ^ (o e)) (p', z.2) hC' hStz (fun hf => d2 _ (hDI hf)) (fun s hs hd => hCov s hs (d1 s hd))
        rw [← hp']
        obtain ⟨y, hy⟩ : ∃ y, y = srch k nt nb o rk st num (T ||| 2 ^ (o e)) (p', z.2) := ⟨_, rfl⟩
        rw [← hy] at key ⊢
        obtain ⟨k1, k2, k3, k4, k5, k6⟩ := key
        have k2' : On nb T p y.1.1 := fun c hc hTc => by rw [k2 c hc ((bit _).mpr (Or.inl hTc))]; exact pT c hc hTc
        have k3' : Lb nt (p, x2) y.1 := Lb_tr hLb k3
        have k4' : y.1.2 = x2 ∨ On nb T p y.1.2.2.1 := by
          rcases k4 with q | q
          · rcases h4 with q2 | q2
            · exact Or.inl (q.trans q2)
            · refine Or.inr ?_
              rw [q]; exact q2
          · exact Or.inr (fun c hc hTc => by rw [q c hc ((bit _).mpr (Or.inl hTc))]; exact pT c hc hTc)
        by_cases hr : num + 1 < y.2
        · rw [if_pos hr]
          refine ⟨k1, k2', k3', k4', fun q => by omega, fun _ => ?_⟩
          obtain ⟨q1, q2⟩ := k6 (by omega)
          refine ⟨q1, fun s hs hsT => q2 s hs (fun c hc hb hle => ?_)⟩
          rcases (bit c).mp hb with q | q
          · rw [show (p', z.2).1 c = p c from pT c hc q] at hle ⊢
            exact hsT c hc q hle
          · rw [q] at hle
            have hle : y.2 ≤ p' (o e) := hle
            rw [pe] at hle
            omega
        · rw [if_neg hr]
          have cov : ∀ s, Nam nb o rk s → On nb T p s → s (o e) = num + 1 → Cov k nt y.1 s := fun s hs hsT hse2 => by
            have hsO : On nb (T ||| 2 ^ (o e)) p' s := fun c hc hb => by
              rcases (bit c).mp hb with q | q
              · rw [pT c hc q]; exact hsT c hc q
              · rw [q, pe]; exact hse2
            by_cases hr2 : y.2 ≤ num
            · exact k5 hr2 s hs hsO
            · exact (k6 (by omega)).2 s hs (fun c hc hb _ => hsO c hc hb)
          refine ihm (e + 1) y.1 (by omega) (by omega) (by omega) k2' k1 k3' k4' (fun hf => ?_) (fun s hs hd => ?_)
          · rcases k4 with q | q
            · have q : y.1.2 = z.2 := q
              rw [q] at hf ⊢
              rcases hDI hf with h | ⟨h1, i, h2, h3⟩
              · exact Or.inl h
              · exact Or.inr ⟨h1, i, by omega, h3⟩
            · refine Or.inr ⟨fun c hc hTc => by rw [q c hc ((bit _).mpr (Or.inl hTc))]; exact pT c hc hTc, e, by omega, hen, ?_⟩
              rw [q (o e) hoe ((bit _).mpr (Or.inr rfl))]
              exact pe
          · rcases hd with h | ⟨h1, i, h2, h3, h4'⟩
            · exact Cov_up k3 (hCov s hs (Or.inl h))
            · by_cases ei : i = e
              · rw [ei] at h4'; exact cov s hs h1 h4'
              · exact Cov_up k3 (hCov s hs (Or.inr ⟨h1, i, by omega, h3, h4'⟩))
  refine loop _ (st g) (L, x2) rfl (Nat.le_refl _) (by omega) hL hSt (Lb_refl nt _) (Or.inl rfl) (fun hf => Or.inl (hE hf)) (fun s hs hd => ?_)
  rcases hd with h | ⟨_, i, h2, h3, h4'⟩
  · exact hSeen s hs h
  · have := hgrp s hs i h3 h4'; omega
theorem srch_ok (hnb : nb ≤ 8) (hk : Vk k nt nb) (hG : GP H nb o rk st cn) (hrank : ∀ h, PermH nb h → Bc k nt k nt h → ∀ c, c < nb → rk c = rk (h c - 1)) : ∀ (num : Nat), num ≤ nb → ∀ (T : Nat) (x : SX), Cx nb o rk num T x.1 → St_ k nt nb o rk x → (x.2.1 = true → DE nb o num T x.1 x.2.2.1) → (∀ s, Nam nb o rk s → DE nb o num T x.1 s → Cov k nt x s) → Ans k nt nb o rk num T x.1 x (srch k nt nb o rk st num T x)
  | 0, _, T, x, hC, hSt, hE, hS => srch0 hnb hk hG hrank T x hC hSt hE hS
  | num + 1, hn, T, x, hC, hSt, hE, hS => srchS hnb hk hG num hn (srch_ok hnb hk hG hrank num (by omega)) T x hC hSt hE hS
theorem nam_ex (hG : GP H nb o rk st cn) : ∃ s, Nam nb o rk s := by
  have hc : ∃ f : Nat → Nat, ∀ b, b < nb → f b < nb ∧ o (f b) = b := by
    refine ⟨fun b => if hb : b < nb then Classical.choose (gp_sur hG hb) else 0, fun b hb => ?_⟩
    have := Classical.choose_spec (gp_sur hG hb)
    simp only [hb, dite_true]
    exact this
  obtain ⟨f, hf⟩ := hc
  refine ⟨fun b => f b + 1, ⟨fun c hc => ⟨by show 1 ≤ f c + 1; omega, (hf c hc).1⟩, fun i j hij hj e => ?_⟩, fun c hc => ?_⟩
  · have e : f i + 1 = f j + 1 := e
    have a := (hf i (by omega)).2
    have b := (hf j hj).2
    rw [show f i = f j by omega, b] at a
    omega
  · show rk (o (f c + 1 - 1)) = rk c
    rw [Nat.add_sub_cancel, (hf c hc).2]
/-- THE SEARCH: its row is that of a naming, and no naming's row is before it -/
theorem srch_least (hnb : nb ≤ 8) (hk : Vk k nt nb) (hG : GP H nb o rk st cn) (hrank : ∀ h, PermH nb h → Bc k nt k nt h → ∀ c, c < nb → rk c = rk (h c - 1)) (p q r : Nat → Nat) : ∃ y : SX, (srch k nt nb o rk st nb 0 ((p, false, q, r) : SX)).1 = y ∧ y.2.1 = true ∧ Nam nb o rk y.2.2.1 ∧ (∀ j, j < nt → y.2.2.2 j = rowF k nt y.2.2.1 j) ∧ ∀ s, Nam nb o rk s → ¬ LtR (rowF k nt s) y.2.2.2 nt := by
  have hA := srch_ok hnb hk hG hrank nb (Nat.le_refl _) 0 ((p, false, q, r) : SX) ⟨fun b _ h => by simp at h, fun b c _ _ h => by simp at h, fun v h1 h2 => by omega⟩ (fun h => absurd (show false = true from h) (by decide)) (fun h => absurd (show false = true from h) (by decide)) (fun s _ hd => by obtain ⟨v, i, j, h1, h2, _⟩ := hd; omega)
  obtain ⟨y, hy⟩ : ∃ y, y = srch k nt nb o rk st nb 0 ((p, false, q, r) : SX) := ⟨_, rfl⟩
  rw [← hy] at hA ⊢
  obtain ⟨a1, a2, a3, a4, a5, a6⟩ := hA
  have cov : ∀ s, Nam nb o rk s → Cov k nt y.1 s := fun s hs => by
    by_cases h : y.2 ≤ nb
    · exact a5 h s hs (fun b _ h => by simp at h)
    · have := (a6 (by omega)).1; omega
  obtain ⟨s0, hs0⟩ := nam_ex hG
  have hf := (cov s0 hs0).1
  exact ⟨y.1, rfl, hf, (a1 hf).1, (a1 hf).2, fun s hs => (cov s hs).2⟩
end LS2
