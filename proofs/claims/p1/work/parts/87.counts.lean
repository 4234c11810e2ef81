/-! What the class's search for ways finds, and what it counts. -/
theorem lb_nb {K nb : Nat} (hK : keyK K nb) : lb K ≤ nb := by
  have h1 : ∀ p, p < 3 → lb1 (kp K p) ≤ nb := fun p hp => by
    unfold lb1
    split
    · rename_i q; have := (hK.2 p hp).2 q; omega
    · omega
  have a := h1 0 (by omega)
  have b := h1 1 (by omega)
  have c := h1 2 (by omega)
  unfold lb
  omega
theorem nI_inj30 {a b : Nat} (ha : a < 2 ^ 30) (hb : b < 2 ^ 30) (e : nI a = nI b) : a = b := (nI_eq (by omega) (by omega)).mp e
theorem way_iff {k k' rk rk' h : Nat → Nat} {nt nt' nb : Nat} {f2 g2 K' : Nat → Int32} (hk : keyN_ k nt nb) (hK' : ∀ j, j < nt' → K' j = nI (k' j) ∧ k' j < 2 ^ 30) (hf : ∀ c, c < nb → f2 c = nI (rk c) ∧ rk c < 8) (hg : ∀ c, c < nb → g2 c = nI (rk' c) ∧ rk' c < 8) : Way k nt nb f2 K' g2 nt' nb h ↔ PermH nb h ∧ (∀ c, c < nb → rk c = rk' (h c - 1)) ∧ Bc k nt k' nt' h := by
  constructor
  · rintro ⟨h0, h1⟩
    refine ⟨⟨fun c hc => ⟨(h1 c hc).1.1, (h1 c hc).1.2.1⟩, fun i j hij hj => (h1 j hj).2 i hij⟩, fun c hc => ?_, fun i hi => ?_⟩
    · obtain ⟨a1, a2, a3, a4⟩ := (h1 c hc).1
      rw [(hf c hc).1, (hg (h c - 1) (by omega)).1] at a3
      exact nI_inj30 (by have := (hf c hc).2; omega) (by have := (hg (h c - 1) (by omega)).2; omega) a3
    · have hl := lb_nb (hk i hi)
      have : ∃ j, j < nt' ∧ K' j = nI (rnK h (k i)) := by
        rcases Nat.eq_zero_or_pos (lb (k i)) with z | z
        · exact h0 i hi z
        · exact (h1 (lb (k i) - 1) (by omega)).1.2.2.2 i hi (by omega)
      obtain ⟨j, hj, e⟩ := this
      rw [(hK' j hj).1] at e
      exact ⟨j, hj, nI_inj30 (hK' j hj).2 (rnK_lt _ _) e⟩
  · rintro ⟨hp, hr, hB⟩
    have hkT : ∀ l, kT k nt K' nt' h l := fun l i hi _ => by
      obtain ⟨j, hj, e⟩ := hB i hi
      exact ⟨j, hj, by rw [(hK' j hj).1, e]⟩
    refine ⟨hkT 0, fun c hc => ⟨⟨(hp.1 c hc).1, (hp.1 c hc).2, ?_, hkT _⟩, fun c' hc' => hp.2 c' c hc' hc⟩⟩
    have := hp.1 c hc
    rw [(hf c hc).1, (hg (h c - 1) (by omega)).1, hr c hc]
theorem ext_iff {k rk h : Nat → Nat} {nt nb b : Nat} {R K : Nat → Int32} (hb : b ≤ nb) (hk : keyN_ k nt nb) (hK : ∀ j, j < nt → K j = nI (k j) ∧ k j < 2 ^ 30) (hf : ∀ c, c < nb → R c = nI (rk c) ∧ rk c < 8) : Ext k nt nb R K R nt nb (fun c => c + 1) b h ↔ PermH nb h ∧ (∀ c, c < nb → rk c = rk (h c - 1)) ∧ Fx k nt b h := by
  constructor
  · rintro ⟨h0, h1⟩
    have h0 : ∀ c, c < b → h c = c + 1 := h0
    refine ⟨⟨fun c hc => ?_, fun i j hij hj => ?_⟩, fun c hc => ?_, fun i hi => ?_, h0⟩
    · by_cases q : c < b
      · rw [h0 c q]; omega
      · exact ⟨(h1 c (by omega) hc).1.1, (h1 c (by omega) hc).1.2.1⟩
    · by_cases q : j < b
      · rw [h0 i (by omega), h0 j q]; omega
      · exact (h1 j (by omega) hj).2 i hij
    · by_cases q : c < b
      · rw [h0 c q]; rfl
      · obtain ⟨a1, a2, a3, a4⟩ := (h1 c (by omega) hc).1
        rw [(hf c hc).1, (hf (h c - 1) (by omega)).1] at a3
        exact nI_inj30 (by have := (hf c hc).2; omega) (by have := (hf (h c - 1) (by omega)).2; omega) a3
    · have hl := lb_nb (hk i hi)
      by_cases q : lb (k i) ≤ b
      · refine ⟨i, hi, ?_⟩
        rw [rnK_congr q (h := fun c => c + 1) h0, rnK_id (hk i hi)]
      · obtain ⟨j, hj, e⟩ := (h1 (lb (k i) - 1) (by omega) (by omega)).1.2.2.2 i hi (by omega)
        rw [(hK j hj).1] at e
        exact ⟨j, hj, nI_inj30 (hK j hj).2 (rnK_lt _ _) e⟩
  · rintro ⟨hp, hr, hB, hfx⟩
    refine ⟨hfx, fun c hbc hc => ⟨⟨(hp.1 c hc).1, (hp.1 c hc).2, ?_, fun i hi _ => ?_⟩, fun c' hc' => hp.2 c' c hc' hc⟩⟩
    · have := hp.1 c hc
      rw [(hf c hc).1, (hf (h c - 1) (by omega)).1, hr c hc]
    · obtain ⟨j, hj, e⟩ := hB i hi
      exact ⟨j, hj, by rw [(hK j hj).1, e]⟩
theorem aut_eq {k rk : Nat → Nat} {nt nb : Nat} {R K : Nat → Int32} (hnb : nb ≤ 8) (hk : Vk k nt nb) (hK : ∀ j, j < nt → K j = nI (k j) ∧ k j < 2 ^ 30) (hf : ∀ c, c < nb → R c = nI (rk c) ∧ rk c < 8) (hrank : ∀ h, PermH nb h → Bc k nt k nt h → ∀ c, c < nb → rk c = rk (h c - 1)) : aut k nt nb R K nb = nP nb (Bc k nt k nt) (9 ^ nb) := by
  have ho : ∀ b im, b ≤ nb → (Orb k nt nb R K b im ↔ OrB k nt nb b im) := fun b im hb => by
    unfold Orb OrB
    constructor
    · rintro ⟨h, h1, h2⟩
      obtain ⟨a1, a2, a3⟩ := (ext_iff hb hk.1 hK hf).mp h1
      exact ⟨h, a1, a3, h2⟩
    · rintro ⟨h, h1, h2, h3⟩
      exact ⟨h, (ext_iff hb hk.1 hK hf).mpr ⟨h1, hrank h h1 h2.1, h2⟩, h3⟩
  have step : ∀ b, b ≤ nb → aut k nt nb R K b * nP nb (Fx k nt b) (9 ^ nb) = nP nb (Fx k nt 0) (9 ^ nb) := by
    intro b
    induction b with
    | zero => intro _; rw [aut, Nat.one_mul]
    | succ b ih =>
      intro hb
      rw [← ih (by omega), orb_count hnb hk (show b < nb by omega), aut, cntP_congr (fun im _ _ => ho b im (by omega)), Nat.mul_assoc]
  have := step nb (Nat.le_refl _)
  rw [fix_all hnb hk, Nat.mul_one] at this
  rw [this]
  have h1 := nP_inj hnb (P := Fx k nt 0) (Q := Bc k nt k nt) (Bc_loc hk.1) id (fun h hh hP => ⟨hh, hP.1⟩) (fun h s _ _ _ _ e => e)
  have h2 := nP_inj hnb (P := Bc k nt k nt) (Q := Fx k nt 0) (Fx_loc (Nat.zero_le _) hk.1) id (fun h hh hP => ⟨hh, hP, fun c hc => by omega⟩) (fun h s _ _ _ _ e => e)
  omega
theorem auto_rank {k h : Nat → Nat} {nt nb R cn : Nat} {F : Nat → Int32} {o rk st : Nat → Nat} (hnb : nb ≤ 8) (hk : Vk k nt nb) (hH : Hsh nb nt k F R) (hG : GP (hv F) nb o rk st cn) (hp : PermH nb h) (hB : Bc k nt k nt h) : ∀ c, c < nb → rk c = rk (h c - 1) := fun c hc => ((HR_rk hp (Hsh_tr hnb hk hp hB hH hH).1 hG hG).1 c hc).symm
/-- Bc hangs on the sets of keys alone -/
theorem Bc_KQ {k q k' q' h : Nat → Nat} {nt nt' : Nat} (h1 : KQ k q nt) (h2 : KQ k' q' nt') : Bc k nt k' nt' h ↔ Bc q nt q' nt' h := by
  constructor
  · intro hB i hi
    obtain ⟨i', hi', e⟩ := KQ_mem (h1.symm : KQ q k nt) hi
    obtain ⟨j, hj, e2⟩ := hB i' hi'
    obtain ⟨j', hj', e3⟩ := KQ_mem h2 hj
    exact ⟨j', hj', by rw [e3, e2, e]⟩
  · intro hB i hi
    obtain ⟨i', hi', e⟩ := KQ_mem h1 hi
    obtain ⟨j, hj, e2⟩ := hB i' hi'
    obtain ⟨j', hj', e3⟩ := KQ_mem (h2.symm : KQ q' k' nt') hj
    exact ⟨j', hj', by rw [e3, e2, e]⟩
theorem nP_congr {n : Nat} {P Q : (Nat → Nat) → Prop} (h : ∀ s, P s ↔ Q s) (x : Nat) : nP n P x = nP n Q x := cntP_congr (fun y _ _ => by rw [h])
theorem Vk_KQ {k q : Nat → Nat} {nt nb : Nat} (h : KQ k q nt) (hk : Vk k nt nb) : Vk q nt nb := by
  refine ⟨fun i hi => ?_, fun i j hij hj e => ?_⟩
  · obtain ⟨j, hj, e⟩ := KQ_mem (h.symm : KQ q k nt) hi
    rw [← e]; exact hk.1 j hj
  · have hn : ((List.range nt).map k).Nodup := by
      rw [List.nodup_iff_pairwise_ne, List.pairwise_map]
      refine List.Pairwise.imp_of_mem ?_ (List.nodup_iff_pairwise_ne.mp (List.nodup_range (n := nt)))
      intro a b ha hb hne e
      exact hne (Vk_inj hk (List.mem_range.mp ha) (List.mem_range.mp hb) e)
    have hn2 := h.nodup_iff.mp hn
    rw [List.nodup_iff_pairwise_ne, List.pairwise_map] at hn2
    have := List.pairwise_iff_getElem.mp hn2 i j (by simp; omega) (by simp; exact hj) hij
    simp at this
    exact this e
/-- rows are the same when their keys are -/
theorem row_iff {q h s : Nat → Nat} {nt : Nat} : sameR (rowF q nt h) (rowF q nt s) nt ↔ ((List.range nt).map (fun i => rnK h (q i))).Perm ((List.range nt).map (fun i => rnK s (q i))) := by
  constructor
  · intro e
    have el : rowL q nt h = rowL q nt s := by
      apply List.ext_getElem?
      intro j
      by_cases hj : j < nt
      · have := e j hj
        unfold rowF at this
        rw [List.getD_eq_getElem?_getD, List.getD_eq_getElem?_getD, List.getElem?_eq_getElem (by rw [rowL_len]; exact hj), List.getElem?_eq_getElem (by rw [rowL_len]; exact hj)] at this
        rw [List.getElem?_eq_getElem (by rw [rowL_len]; exact hj), List.getElem?_eq_getElem (by rw [rowL_len]; exact hj)]
        exact congrArg some this
      · rw [List.getElem?_eq_none (by rw [rowL_len]; omega), List.getElem?_eq_none (by rw [rowL_len]; omega)]
    unfold rowL at el
    exact (srtN_perm _).symm.trans ((List.Perm.of_eq el).trans (srtN_perm _))
  · intro hp j hj
    have el : rowL q nt h = rowL q nt s := perm_sorted_eq _ _ ((srtN_perm _).trans (hp.trans (srtN_perm _).symm)) (srtN_sorted _) (srtN_sorted _)
    unfold rowF
    rw [el]
theorem rowF_KQ {k q h : Nat → Nat} {nt : Nat} (hkq : KQ k q nt) : rowF k nt h = rowF q nt h := by
  have el : rowL k nt h = rowL q nt h := by
    refine perm_sorted_eq _ _ ((srtN_perm _).trans (List.Perm.trans ?_ (srtN_perm _).symm)) (srtN_sorted _) (srtN_sorted _)
    have := List.Perm.map (rnK h) hkq
    rw [List.map_map, List.map_map] at this
    exact this
  unfold rowF
  rw [el]
/-- a graph becomes the row of B by h just where the rows are the same -/
theorem row_Bc {nb nt : Nat} (hnb : nb ≤ 8) {q B h : Nat → Nat} (hq : Vk q nt nb) (hh : PermH nb h) : Bc q nt (rowF q nt B) nt h ↔ sameR (rowF q nt h) (rowF q nt B) nt := by
  have hmem : ∀ x, (∃ j, j < nt ∧ rowF q nt B j = x) ↔ ∃ i, i < nt ∧ rnK B (q i) = x := fun x => by
    have h1 := (srtN_perm ((List.range nt).map (fun i => rnK B (q i))))
    constructor
    · rintro ⟨j, hj, e⟩
      have hm : x ∈ rowL q nt B := by
        rw [← e]
        unfold rowF
        rw [List.getD_eq_getElem?_getD, List.getElem?_eq_getElem (by rw [rowL_len]; exact hj)]
        exact List.getElem_mem _
      obtain ⟨i, hi, e2⟩ := List.mem_map.mp (h1.subset hm)
      exact ⟨i, List.mem_range.mp hi, e2⟩
    · rintro ⟨i, hi, e⟩
      have hm : x ∈ rowL q nt B := h1.symm.subset (List.mem_map.mpr ⟨i, List.mem_range.mpr hi, e⟩)
      obtain ⟨j, hj, e2⟩ := List.mem_iff_getElem.mp hm
      rw [rowL_len] at hj
      refine ⟨j, hj, ?_⟩
      unfold rowF
      rw [List.getD_eq_getElem?_getD, List.getElem?_eq_getElem (by rw [rowL_len]; exact hj)]
      exact e2
  rw [row_iff]
  constructor
  · intro hB
    have h2 := Bc_perm hnb hq hh (k' := fun i => rnK B (q i)) (fun i hi => by
      obtain ⟨j, hj, e⟩ := hB i hi
      obtain ⟨i', hi', e2⟩ := (hmem _).mp ⟨j, hj, e⟩
      exact ⟨i', hi', e2⟩)
    exact h2.symm
  · intro hp i hi
    have := hp.subset (List.mem_map.mpr ⟨i, List.mem_range.mpr hi, rfl⟩)
    obtain ⟨i', hi', e⟩ := List.mem_map.mp this
    obtain ⟨j, hj, e2⟩ := (hmem _).mpr ⟨i', List.mem_range.mp hi', e⟩
    exact ⟨j, hj, e2⟩
/-- how many namings have the row of B -/
theorem name_count {nb nt R cn : Nat} (hnb : nb ≤ 8) {q B : Nat → Nat} {F : Nat → Int32} {o rk st : Nat → Nat} (hq : Vk q nt nb) (hH : Hsh nb nt q F R) (hG : GP (hv F) nb o rk st cn) (hB : PermH nb B) (hN : NMg nb o rk B) : nP nb (fun s => NMg nb o rk s ∧ sameR (rowF q nt s) (rowF q nt B) nt) (9 ^ nb) = nP nb (Bc q nt q nt) (9 ^ nb) := by
  obtain ⟨v, hv, e1, e2⟩ := inv_ex hB
  have a := nP_inj hnb (P := Bc q nt q nt) (Q := fun s => NMg nb o rk s ∧ sameR (rowF q nt s) (rowF q nt B) nt) (bp_loc hq.1) (cmp_ B) (fun h hh hP => ⟨cmp_perm hB hh, fun c hc => by
      have hc1 := hh.1 c hc
      unfold cmp_
      rw [hN (h c - 1) (by omega)]
      exact (auto_rank hnb hq hH hG hh hP c hc).symm, by
      rw [row_iff]
      have h1 := Bc_perm hnb hq hh hP
      have h2 := (h1.map (rnK B)).symm
      rw [List.map_map, List.map_map] at h2
      refine (List.Perm.of_eq ?_).trans h2
      apply List.map_congr_left
      intro i hi
      exact (rnK_cmp hnb hh (hq.1 i (List.mem_range.mp hi))).symm⟩) (fun h s hh hs _ _ e => cmp_can hB hh hs e)
  have b := nP_inj hnb (P := fun s => NMg nb o rk s ∧ sameR (rowF q nt s) (rowF q nt B) nt) (Q := Bc q nt q nt) (Bc_loc hq.1) (cmp_ v) (fun h hh hP => ⟨cmp_perm hv hh, fun i hi => by
      have := (row_iff.mp hP.2).subset (List.mem_map.mpr ⟨i, List.mem_range.mpr hi, rfl⟩)
      obtain ⟨j, hj, e⟩ := List.mem_map.mp this
      exact ⟨j, List.mem_range.mp hj, by rw [← rnK_cmp hnb hh (hq.1 i hi), ← e, rnK_inv hnb hB e1 (hq.1 j (List.mem_range.mp hj))]⟩⟩) (fun h s hh hs _ _ e => cmp_can hv hh hs e)
  omega
