/-! Class and model at the same call: what needs no mathematics, and the graph's own. -/
theorem upd_at {f : Nat → Int32} {k : Nat} {x : Int32} : upd f k x k = x := by simp [upd]
theorem upd_ot {f : Nat → Int32} {k j : Nat} {x : Int32} (h : j ≠ k) : upd f k x j = f j := by simp [upd, h]
section ST
variable {w : List ab_C}
theorem st_triples (d : Nat) (hJ : Jn w) : Stq mX7_triples mX8_triples (d + 14) w [] := by
  obtain ⟨kc, gp, bp, bn, nbs, nts, ks, n, m, N, K, r, qs, hI, hM, hR, hG, hH, hL⟩ := hJ
  obtain ⟨gb, gc, gp8, gq⟩ := Gr8_cur hG
  refine Cal.mono (cal_triples (d + 14) hI) (fun w1 v h => ?_)
  obtain ⟨hP, rfl⟩ := h
  refine ⟨_, rfl, Cal8.mono (cal8 (con8_triples (d + 14) r) (M8_post hP hM) (fun _ => rfl) (fun r' v h => ⟨_, h.2⟩)) (fun w2 v2 h => ?_)⟩
  obtain ⟨r', hM2, e, el, rfl, rfl⟩ := h
  exact ⟨by rw [gc], join hR hP hM2 e el (th0_Gr ⟨rfl, rfl, rfl, rfl, rfl, rfl, rfl, rfl, rfl⟩ hG) (ha0_HS ⟨rfl, rfl, rfl, rfl, rfl, rfl⟩ hH) (th0_LT ⟨rfl, rfl, rfl, rfl, rfl, rfl, rfl, rfl, rfl⟩ hL)⟩
theorem st_blanks (d : Nat) (hJ : Jn w) : Stq mX7_blanks mX8_blanks (d + 14) w [] := by
  obtain ⟨kc, gp, bp, bn, nbs, nts, ks, n, m, N, K, r, qs, hI, hM, hR, hG, hH, hL⟩ := hJ
  obtain ⟨gb, gc, gp8, gq⟩ := Gr8_cur hG
  refine Cal.mono (cal_blanks (d + 14) hI) (fun w1 v h => ?_)
  obtain ⟨hP, rfl⟩ := h
  refine ⟨_, rfl, Cal8.mono (cal8 (con8_blanks (d + 14) r) (M8_post hP hM) (fun _ => rfl) (fun r' v h => ⟨_, h.2⟩)) (fun w2 v2 h => ?_)⟩
  obtain ⟨r', hM2, e, el, rfl, rfl⟩ := h
  exact ⟨by rw [gb], join hR hP hM2 e el (th0_Gr ⟨rfl, rfl, rfl, rfl, rfl, rfl, rfl, rfl, rfl⟩ hG) (ha0_HS ⟨rfl, rfl, rfl, rfl, rfl, rfl⟩ hH) (th0_LT ⟨rfl, rfl, rfl, rfl, rfl, rfl, rfl, rfl, rfl⟩ hL)⟩
theorem st_named (d : Nat) (b : Int32) (hJ : Jn w) : Stq mX7_named mX8_named (d + 14) w [.int b] := by
  obtain ⟨kc, gp, bp, bn, nbs, nts, ks, n, m, N, K, r, qs, hI, hM, hR, hG, hH, hL⟩ := hJ
  refine Cal.mono (cal_named (d + 14) b hI) (fun w1 v h => ?_)
  obtain ⟨hP, rfl⟩ := h
  refine ⟨_, rfl, Cal8.mono (cal8 (con8_named (d + 14) n r hL.1 hL.2.1 b) (M8_post hP hM) (fun _ => rfl) (fun r' v h => by rcases h.2 with ⟨_, h⟩ | ⟨_, h⟩ <;> exact ⟨_, h⟩)) (fun w2 v2 h => ?_)⟩
  obtain ⟨r', hM2, e, el, rfl, h⟩ := h
  refine ⟨?_, join hR hP hM2 e el (th0_Gr ⟨rfl, rfl, rfl, rfl, rfl, rfl, rfl, rfl, rfl⟩ hG) (ha0_HS ⟨rfl, rfl, rfl, rfl, rfl, rfl⟩ hH) (th0_LT ⟨rfl, rfl, rfl, rfl, rfl, rfl, rfl, rfl, rfl⟩ hL)⟩
  rcases h with ⟨h, rfl⟩ | ⟨h, rfl⟩
  · rw [if_pos h, ← hL.2.2.2.2.1 (b.toInt.toNat - 1) (by omega), show b.toInt.toNat - 1 + 1 = b.toInt.toNat by omega]
  · rw [if_neg h]
theorem st_form (d : Nat) (i q : Int32) (hJ : Jn w) : Stq mX7_form mX8_form (d + 14) w [.int i, .int q] := by
  obtain ⟨kc, gp, bp, bn, nbs, nts, ks, n, m, N, K, r, qs, hI, hM, hR, hG, hH, hL⟩ := hJ
  refine Cal.mono (cal_form (d + 12) i q hI) (fun w1 v h => ?_)
  obtain ⟨hP, rfl⟩ := h
  refine ⟨_, rfl, Cal8.mono (cal8 (con8_form (d + 14) m r hL.2.2.1 hL.2.2.2.1 i q) (M8_post hP hM) (fun _ => rfl) (fun r' v h => by rcases h.2 with ⟨_, h⟩ | ⟨_, h⟩ <;> exact ⟨_, h⟩)) (fun w2 v2 h => ?_)⟩
  obtain ⟨r', hM2, e, el, rfl, h⟩ := h
  refine ⟨?_, join hR hP hM2 e el (th0_Gr ⟨rfl, rfl, rfl, rfl, rfl, rfl, rfl, rfl, rfl⟩ hG) (ha0_HS ⟨rfl, rfl, rfl, rfl, rfl, rfl⟩ hH) (th0_LT ⟨rfl, rfl, rfl, rfl, rfl, rfl, rfl, rfl, rfl⟩ hL)⟩
  rcases h with ⟨h, rfl⟩ | ⟨h, rfl⟩
  · rw [if_pos (by omega), (hL.2.2.2.2.2.1 i.toInt.toNat (by omega)).2 q.toInt.toNat (by omega)]
  · rw [if_neg (by omega)]
theorem mi_lt {kc a : Nat} (hk : kc ≤ 8) (ha : a ≤ kc) (h : a ≠ kc) : mi kc a = a ∧ a < 8 := ⟨if_neg h, by omega⟩
theorem pts_up {f : Nat → Int32} {b : Nat} {q : Nat → Nat} {nt nb : Nat} (h : pts f b q nt nb) : pts f b q nt (nb + 1) := fun i hi => ⟨(h i hi).1, fun p hp => ⟨((h i hi).2 p hp).1, ((h i hi).2 p hp).2.1, ((h i hi).2 p hp).2.2.1, fun z => by have := ((h i hi).2 p hp).2.2.2 z; omega⟩⟩
theorem st_blank (d : Nat) (hJ : Jn w) : Stq mX7_blank mX8_blank (d + 14) w [] := by
  obtain ⟨kc, gp, bp, bn, nbs, nts, ks, n, m, N, K, r, qs, hI, hM, hR, hG, hH, hL⟩ := hJ
  obtain ⟨gb, gc, gp8, gq⟩ := Gr8_cur hG
  obtain ⟨c8_, c40, cV⟩ := CInv_cur hI (Nat.le_refl _)
  refine Cal.mono (cal_blank (d + 14) hI) (fun w1 v h => ?_)
  rcases h with ⟨h8, hP, rfl⟩ | ⟨h8, hP, rfl⟩
  · refine ⟨_, rfl, Cal8.mono (cal8 (con8_blank (d + 14) (nbs kc) r gb c8_) (M8_post hP hM) (fun _ => rfl) (fun r' v h => by rcases h with ⟨_, _, h⟩ | ⟨_, _, h⟩ <;> exact ⟨_, h⟩)) (fun w2 v2 h => ?_)⟩
    obtain ⟨r', hM2, e, el, h⟩ := h
    rcases h with ⟨_, rfl, rfl⟩ | ⟨h, _⟩
    · exact ⟨rfl, join hR hP hM2 e el (th0_Gr ⟨rfl, rfl, rfl, rfl, rfl, rfl, rfl, rfl, rfl⟩ hG) (ha0_HS ⟨rfl, rfl, rfl, rfl, rfl, rfl⟩ hH) (th0_LT ⟨rfl, rfl, rfl, rfl, rfl, rfl, rfl, rfl, rfl⟩ hL)⟩
    · omega
  · refine ⟨_, rfl, Cal8.mono (cal8 (con8_blank (d + 14) (nbs kc) r gb c8_) (M8_post hP hM) (fun _ => rfl) (fun r' v h => by rcases h with ⟨_, _, h⟩ | ⟨_, _, h⟩ <;> exact ⟨_, h⟩)) (fun w2 v2 h => ?_)⟩
    obtain ⟨r', hM2, e, el, h⟩ := h
    rcases h with ⟨h, _⟩ | ⟨_, rfl, rfl⟩
    · omega
    · refine ⟨rfl, join (qs := qs) hR hP hM2 e el ⟨hG.1, fun a ha => ?_⟩ (Or.inl rfl) (th0_LT ⟨rfl, rfl, rfl, rfl, rfl, rfl, rfl, rfl, rfl⟩ hL)⟩
      by_cases ea : a = kc
      · rw [ea, show mi kc kc = 8 from if_pos rfl, updN_s]
        exact ⟨show upd r.bl 8 (nI (nbs kc + 1)) 8 = nI (nbs kc + 1) from upd_at, gc, pts_up gp8, gq⟩
      · obtain ⟨m1, m2⟩ := mi_lt hI.1 ha ea
        have := hG.2 a ha
        rw [m1] at this ⊢
        rw [updN_n ea]
        exact ⟨(show upd r.bl 8 (nI (nbs kc + 1)) a = r.bl a from upd_ot (by omega)).trans this.1, this.2⟩
theorem pt_pq {nb : Nat} {x : Int32} (hnb : nb ≤ 8) (hx : isPt nb x) : x = nI (pq x) - 8 := by
  unfold isPt at hx
  have : (nI (pq x) - 8 : Int32).toInt = x.toInt := by
    have h1 : (nI (pq x)).toInt = pq x := nI_toInt (by unfold pq; split at hx <;> omega)
    rw [Int32.toInt_sub, h1]
    have h2 : ((pq x : Nat) : Int) = x.toInt + 8 := by unfold pq; split at hx <;> omega
    rw [h2, show (8 : Int32).toInt = 8 from rfl]
    rw [show x.toInt + 8 - 8 = x.toInt by omega]
    exact Int32.toInt_bmod x
  exact (Int32.toInt_inj.mp this).symm
theorem pq8 {nb : Nat} {x : Int32} (h : isPt nb x) : pq x ≠ 8 := by
  unfold isPt at h
  unfold pq
  split at h <;> omega
/-- a triple of the model and its key -/
theorem tri_keyN {f : Nat → Int32} {b nt nb : Nat} {q : Nat → Nat} (hnb : nb ≤ 8) (hp : pts f b q nt nb) {s p o : Int32} (h : isPt nb s ∧ isPt nb p ∧ isPt nb o) {j : Nat} (hj : j < nt) : tri f (b + 3 * j) s p o ↔ q j = keyN s p o := by
  obtain ⟨kK, k0, k1, k2⟩ := pq_kp hnb (ptB_isPt.mpr h.1) (ptB_isPt.mpr h.2.1) (ptB_isPt.mpr h.2.2)
  obtain ⟨h30, hf⟩ := hp j hj
  have e0 := (hf 0 (by omega)).1
  have e1 := (hf 1 (by omega)).1
  have e2 := (hf 2 (by omega)).1
  have pv : ∀ x, isPt nb x → x = nI (pq x) - 8 := fun x hx => pt_pq hnb hx
  constructor
  · rintro ⟨t0, t1, t2⟩
    refine kp_ext h30 kK.1 (fun pl hpl => ?_)
    have inj : ∀ {a : Nat} {x : Int32}, a < 1024 → isPt nb x → nI a - 8 = x → a = pq x := fun {a x} ha hx e => by
      rw [pv x hx] at e
      have e2 : nI a = nI (pq x) := by
        have := congrArg (· + 8) e
        simpa using this
      have hb : pq x < 2 ^ 30 := by unfold isPt at hx; unfold pq; split at hx <;> omega
      exact nI_inj30 (by omega) hb e2
    have kb : ∀ p, kp (q j) p < 1024 := fun p => Nat.mod_lt _ (by decide)
    match pl, hpl with
    | 0, _ => rw [k0]; exact inj (kb 0) h.1 (e0.symm.trans (by rw [Nat.add_zero]; exact t0))
    | 1, _ => rw [k1]; exact inj (kb 1) h.2.1 (e1.symm.trans t1)
    | 2, _ => rw [k2]; exact inj (kb 2) h.2.2 (e2.symm.trans t2)
  · intro e
    rw [e] at e0 e1 e2
    unfold pt at e0 e1 e2
    rw [k0, ← pv s h.1] at e0
    rw [k1, ← pv p h.2.1] at e1
    rw [k2, ← pv o h.2.2] at e2
    exact ⟨e0, e1, e2⟩
theorem KQ_ex {k q : Nat → Nat} {nt x : Nat} (h : KQ k q nt) : (∃ i, i < nt ∧ k i = x) ↔ ∃ i, i < nt ∧ q i = x := by
  have := h.mem_iff (a := x)
  simp only [List.mem_map, List.mem_range] at this
  exact this
theorem KQ_of {k q : Nat → Nat} {nt : Nat} (h : ∀ x, (∃ i, i < nt ∧ k i = x) ↔ ∃ i, i < nt ∧ q i = x) (h1 : ∀ i j, i < j → j < nt → k i ≠ k j) (h2 : ∀ i j, i < j → j < nt → q i ≠ q j) : KQ k q nt := by
  have nd : ∀ {f : Nat → Nat}, (∀ i j, i < j → j < nt → f i ≠ f j) → ((List.range nt).map f).Nodup := fun {f} hf => by
    unfold List.Nodup
    rw [List.pairwise_map]
    exact List.Pairwise.imp_of_mem (R := fun a b => a < b) (fun {a b} ha hb hab => hf a b hab (List.mem_range.mp hb)) List.pairwise_lt_range
  refine (List.perm_ext_iff_of_nodup (nd h1) (nd h2)).mpr (fun x => ?_)
  simp only [List.mem_map, List.mem_range]
  exact h x
theorem pts_same {f g : Nat → Int32} {b : Nat} {q : Nat → Nat} {nt nb : Nat} (hnt : nt ≤ 40) (e : ∀ i, b ≤ i → i < b + 120 → g i = f i) (h : pts f b q nt nb) : pts g b q nt nb := fun i hi => ⟨(h i hi).1, fun p hp => ⟨(e _ (by omega) (by omega)).trans ((h i hi).2 p hp).1, ((h i hi).2 p hp).2⟩⟩
end ST
