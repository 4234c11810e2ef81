/-! Class and reference answer alike: what they have found, compared. -/
theorem gp_congr {H H' o rk st : Nat → Nat} {n cn : Nat} (e : ∀ b, b < n → H b = H' b) (h : GP H n o rk st cn) : GP H' n o rk st cn := by
  obtain ⟨h1, h2, h3, h4, h5, h6, h7, h8, h9⟩ := h
  refine ⟨h1, fun i j hij hj => ?_, fun b c hb hc => by rw [← e b hb, ← e c hc]; exact h3 b c hb hc, h4, h5, h6, h7, h8, h9⟩
  have := h2 i j hij hj
  unfold LX at *
  rw [← e _ (h1 i (by omega)), ← e _ (h1 j hj)]
  exact this
theorem gp_same {H H' o rk st o' rk' st' : Nat → Nat} {n cn cn' : Nat} (e : ∀ b, b < n → H b = H' b) (h : GP H n o rk st cn) (h' : GP H' n o' rk' st' cn') : cn = cn' ∧ (∀ j, j < n → o j = o' j) ∧ (∀ b, b < n → rk b = rk' b) ∧ ∀ g, g ≤ cn → st g = st' g := by
  have hc := gp_congr e h
  have e1 : cn = cn' := by rw [gp_cn hc, gp_cn h']
  have e2 : ∀ b, b < n → rk b = rk' b := fun b hb => by rw [gp_rk hc hb, gp_rk h' hb]
  refine ⟨e1, fun j hj => gp_o hc h' hj, e2, fun g hg => ?_⟩
  rw [gp_st hc hg, gp_st h' (by omega)]
  exact cntP_congr (fun b _ hb => by rw [e2 b hb])
theorem hv_same {F F' : Nat → Int32} {nb : Nat} (e : ∀ b j, b < nb → j < 8 → F (b * 8 + j) = F' (b * 8 + j)) : ∀ b, b < nb → hv F b = hv F' b := fun b hb => hvx_eq.mpr (fun j hj => e b j hb hj)
theorem nmg_congr {st st' : Nat → Nat} : ∀ {cn : Nat}, (∀ g, g ≤ cn → st g = st' g) → nmg st cn = nmg st' cn
  | 0, _ => rfl
  | cn + 1, h => by rw [nmg, nmg, nmg_congr (cn := cn) (fun g hg => h g (by omega)), h (cn + 1) (Nat.le_refl _), h cn (by omega)]
theorem fct_le : ∀ n, n ≤ 8 → fct n ≤ 40320 := by decide
theorem fct_mul' : ∀ a, a ≤ 8 → ∀ b, b ≤ 8 → a + b ≤ 8 → fct a * fct b ≤ fct (a + b) := by decide
theorem fct_mul (a : Nat) (ha : a ≤ 8) (b : Nat) (hb : a + b ≤ 8) : fct a * fct b ≤ fct (a + b) := fct_mul' a ha b (by omega) hb
theorem nmg_le {H o rk st : Nat → Nat} {n cn : Nat} (hn : n ≤ 8) (h : GP H n o rk st cn) : ∀ g, g ≤ cn → nmg st g ≤ fct (st g)
  | 0, _ => by rw [h.2.2.2.2.2.2.2.2]; exact Nat.le_refl _
  | g + 1, hg => by
    have ih := nmg_le hn h g (by omega)
    have h1 := gp_mono h (g := g) (g' := g + 1) (by omega) hg
    have h2 := gp_le h hg
    rw [nmg]
    have := fct_mul (st g) (by omega) (st (g + 1) - st g) (by omega)
    rw [show st g + (st (g + 1) - st g) = st (g + 1) by omega] at this
    exact Nat.le_trans (Nat.mul_le_mul_right _ ih) this
theorem nmg_lt {H o rk st : Nat → Nat} {n cn : Nat} (hn : n ≤ 8) (h : GP H n o rk st cn) : nmg st cn < 2 ^ 31 := by
  have a := nmg_le hn h cn (Nat.le_refl _)
  have b := fct_le (st cn) (Nat.le_trans (gp_le h (Nat.le_refl _)) hn)
  omega
theorem step_iff {x : Nat} (hx : x < 2 ^ 31) (y : Int64) : lg_cmp (nI x).toInt64 y ≤ 0 ↔ lN x ≤ y := by rw [lg_cmp_le, nI_l hx]
theorem NMg_congr {n : Nat} {o rk o' rk' : Nat → Nat} (ho : ∀ j, j < n → o j = o' j) (hr : ∀ b, b < n → rk b = rk' b) (hon : ∀ j, j < n → o j < n) {s : Nat → Nat} (hs : PermH n s) : NMg n o rk s ↔ NMg n o' rk' s := by
  constructor
  · intro h c hc
    have h1 := hs.1 c hc
    rw [← ho _ (by omega), ← hr _ (hon _ (by omega)), ← hr c hc]
    exact h c hc
  · intro h c hc
    have h1 := hs.1 c hc
    rw [ho _ (by omega), hr _ (by rw [← ho _ (by omega)]; exact hon _ (by omega)), hr c hc]
    exact h c hc
theorem Bc_tgt {k a b h : Nat → Nat} {nt nt' : Nat} (e : ∀ j, j < nt' → a j = b j) : Bc k nt a nt' h ↔ Bc k nt b nt' h :=
  ⟨fun z i hi => by obtain ⟨j, hj, q⟩ := z i hi; exact ⟨j, hj, by rw [← e j hj]; exact q⟩, fun z i hi => by obtain ⟨j, hj, q⟩ := z i hi; exact ⟨j, hj, by rw [e j hj]; exact q⟩⟩
/-- THE NAME: the row, the numbers and how many namings there are -/
theorem name_same {nb nt R m cn : Nat} (hnb : nb ≤ 8) {k q B : Nat → Nat} {F : Nat → Int32} {o rk st : Nat → Nat} (hk : Vk k nt nb) (hkq : KQ k q nt) (hH : Hsh nb nt q F R) (hG : GP (hv F) nb o rk st cn) {y : SX} (hy1 : Nam nb o rk y.2.2.1) (hy2 : ∀ j, j < nt → y.2.2.2 j = rowF k nt y.2.2.1 j) (hy3 : ∀ s, Nam nb o rk s → ¬ LtR (rowF k nt s) y.2.2.2 nt) (hB : Best nb nt q o rk (9 ^ nb) m B) : 0 < m ∧ (∀ j, j < nt → y.2.2.2 j = rowF q nt B j) ∧ m = nP nb (Bc k nt k nt) (9 ^ nb) ∧ ∀ h, PermH nb h → NMg nb o rk h → Bc k nt y.2.2.2 nt h → (∀ h2, PermH nb h2 → NMg nb o rk h2 → Bc k nt y.2.2.2 nt h2 → LexLe 0 nb h h2) → ∀ c, c < nb → h c = B c := by
  have hq : Vk q nt nb := Vk_KQ hkq hk
  obtain ⟨s0, hs0⟩ := nam_ex hG
  rcases hB with ⟨_, h2⟩ | ⟨h1, hBp, hBn, h4, h5, h6⟩
  · have := h2 s0 hs0.1 hs0.2
    have := enc_bd (perm8 hnb hs0.1)
    omega
  have hsame : sameR y.2.2.2 (rowF q nt B) nt := by
    have a := (h5 y.2.2.1 hy1.1 hy1.2 (enc_bd (perm8 hnb hy1.1))).1
    have b := hy3 B ⟨hBp, hBn⟩
    rw [rowF_KQ hkq] at b
    rw [← rowF_KQ hkq (h := y.2.2.1)] at a
    rcases rows_tot y.2.2.2 (rowF q nt B) nt with z | z | z
    · exact z
    · exact absurd (LtR_l (fun j hj => (hy2 j hj).symm) z) a
    · exact absurd z b
  refine ⟨h1, hsame, ?_, fun h hh hN hBc hlex c hc => ?_⟩
  · rw [h6, name_count hnb hq hH hG hBp hBn]
    exact nP_congr (fun s => (Bc_KQ hkq hkq).symm) _
  · have rowiff : ∀ s, PermH nb s → (Bc k nt y.2.2.2 nt s ↔ sameR (rowF q nt s) (rowF q nt B) nt) := fun s hs => by
      rw [Bc_KQ hkq (List.Perm.refl _ : KQ y.2.2.2 y.2.2.2 nt), Bc_tgt hsame]
      exact row_Bc hnb hq hs
    have hBB : Bc k nt y.2.2.2 nt B := (rowiff B hBp).mpr (fun _ _ => rfl)
    have hle := (h5 h hh hN (enc_bd (perm8 hnb hh))).2 ((rowiff h hh).mp hBc)
    rcases hlex B hBp hBn hBB with z | ⟨d, d1, d2, d3, d4⟩
    · exact z c (by omega) hc
    · have := enc_lt d2 (fun c' hc' => d4 c' (by omega) hc') d3 (perm8 hnb hh)
      omega
theorem ocB_obv (x : Int32) {i : Nat} (hi : i < 32) : vp_nar .byte (us x (nI (24 - 8 * (i % 4)))).toInt8.toInt32 = obv x i := by
  rw [pk_vb]
  unfold obv us
  have e : nI (24 - 8 * (i % 4)) = 24 - 8 * (nI i &&& 3) := by
    rw [pk_andN (n := i) (by omega) (m := 3) 2 rfl]
    show _ = nI 24 - nI 8 * nI (i % 2 ^ 2)
    rw [pk_mul, pk_sub (by omega)]
  rw [e]
