/-! The model in the law's world, and the joint invariant. -/
abbrev IS19 : List Nat := [36, 37, 38, 39, 40, 41, 42, 43, 44, 45, 46, 47, 48, 49, 50, 51, 52, 53, 54]
def c8 (r : R8) : List ab_C :=
  [.inr (9, [.ref 137, .ref 138, .ref 139, .ref 140, .int r.ke, .ref 141, .ref 142, .int r.ro, .int r.hs, .ref 143, .ref 144, .int r.gc, .ref 145, .ref 146, .ref 147, .int r.nb, .ref 148, .int r.fc, .ref 149, .ref 150, .int r.de, .ref 151, .int r.si, .ref 152, .ref 153, .int r.th, .ref 154]),
   cL 64 kC, cI 9 r.bl, cI 9 r.co, cI 1080 r.po, cL 72 r.ha, cL 72 r.nw, cI 9 r.gr, cI 9 r.go, cI 10 r.tr, cI 120 r.rw, cI 9 r.nm, cI 120 r.fm, cB 32 r.oc, cI 5120 r.ds, cB 4400 r.ms, cL 8 r.wd, cL 64 r.sc, cZ 40 r.sd]
theorem c8_len (r : R8) : (c8 r).length = 19 := rfl
theorem c8_rc (r : R8) (n : Nat) : (w8 r).map (ab_rc (ab_rho IS19 [] n)) = c8 r := rfl
def M8 (w : List ab_C) (r : R8) : Prop := ∀ j, j < 19 → w[36 + j]? = (c8 r)[j]?
theorem M8_len {w : List ab_C} {r : R8} (h : M8 w r) : 55 ≤ w.length := by
  have := h 18 (by omega)
  have := at_lt (this.trans (rfl : (c8 r)[18]? = some (cZ 40 r.sd)))
  omega
theorem M8_out {w w1 : List ab_C} {r : R8} (h : M8 w r) (e : ∀ i, 36 ≤ i → i < 55 → w1[i]? = w[i]?) : M8 w1 r := fun j hj => (e _ (by omega) (by omega)).trans (h j hj)
theorem nd19 : IS19.Nodup := by decide
theorem is19 {j : Nat} (hj : j < 19) : IS19[j]? = some (36 + j) := by
  have e : IS19 = List.range' 36 19 := rfl
  rw [e, List.getElem?_range' hj, Nat.one_mul]
theorem mem19 {i : Nat} (h : i ∈ IS19) : 36 ≤ i ∧ i < 55 := by
  have e : IS19 = List.range' 36 19 := rfl
  rw [e, List.mem_range'_1] at h
  exact h
theorem fits8 {w : List ab_C} {r : R8} (h : M8 w r) : ab_fits IS19 [] (w8 r) w := by
  unfold ab_fits
  apply List.ext_getElem?
  intro j
  rw [c8_rc, List.getElem?_map, List.getElem?_map]
  by_cases hj : j < 19
  · rw [is19 hj]
    show ((c8 r)[j]?).map some = some (w[36 + j]?)
    rw [h j hj, List.getElem?_eq_getElem (by rw [c8_len]; exact hj)]
    rfl
  · rw [List.getElem?_eq_none (by rw [c8_len]; omega), List.getElem?_eq_none (by show 19 ≤ j; omega)]
    rfl
/-- a call of the model, its receiver seen -/
def Cal8 (N : ab_M) (d : Nat) (w : List ab_C) (as : List Value) (P : List ab_C → Option Value → Prop) : Prop := (∃ fs : List Value, w[36]? = some (.inr (9, fs))) ∧ Cal N d w (.ref 136 :: as) P
theorem Cal8.mono {N : ab_M} {d : Nat} {w : List ab_C} {as' : List Value} {P P' : List ab_C → Option Value → Prop} (h : Cal8 N d w as' P) (hp : ∀ w1 v, P w1 v → P' w1 v) : Cal8 N d w as' P' := ⟨h.1, Cal.mono h.2 hp⟩
theorem cal8 {N : ab_M} {d : Nat} {w : List ab_C} {r : R8} {as : List Value} {Qc : R8 → Option Value → Prop} (hC : Con N d 0 0 (w8 r) (.ref 100 :: as) (fun w' v => ∃ r', w' = w8 r' ∧ Qc r' v)) (hM : M8 w r) (has : ∀ n, as.map (ab_v (ab_rho IS19 [] n)) = as) (hv : ∀ r' v, Qc r' v → ∃ x, v = some (.int x)) : Cal8 N d w as (fun w1 v => ∃ r', M8 w1 r' ∧ (∀ i, i < 36 ∨ 55 ≤ i → w1[i]? = w[i]?) ∧ w1.length = w.length ∧ Qc r' v) := by
  refine ⟨⟨_, hM 0 (by omega)⟩, IS19, [], w8 r, .ref 100 :: as, _, hC, fits8 hM, rfl, ?_, fun w' v h => ?_, fun w' v h => ?_⟩
  · show ab_v (ab_rho IS19 [] w.length) (.ref 100) :: as.map (ab_v (ab_rho IS19 [] w.length)) = _
    rw [has]
    rfl
  · obtain ⟨r', rfl, _⟩ := h
    exact (rfl : (19 : Nat) = 19)
  · obtain ⟨r', rfl, hq⟩ := h
    obtain ⟨x, rfl⟩ := hv r' v hq
    refine ⟨r', fun j hj => ?_, fun i hi => put_out (fun h => by have := mem19 h; omega), ab_put_len _ _ _, hq⟩
    rw [c8_rc]
    have hc : (c8 r')[j]? = some ((c8 r')[j]'(by rw [c8_len]; exact hj)) := List.getElem?_eq_getElem (by rw [c8_len]; exact hj)
    rw [hc]
    exact put_in nd19 (is19 hj) (by have := M8_len hM; omega) hc
def mi (kc a : Nat) : Nat := if a = kc then 8 else a
/-- what the model's graphs are -/
def Gr8 (r : R8) (kc : Nat) (nbs nts : Nat → Nat) (ks qs : Nat → Nat → Nat) : Prop := r.ke = nI kc ∧ ∀ a, a ≤ kc → r.bl (mi kc a) = nI (nbs a) ∧ r.co (mi kc a) = nI (nts a) ∧ pts r.po (120 * mi kc a) (qs a) (nts a) (nbs a) ∧ KQ (ks a) (qs a) (nts a)
/-- the cells that nobody touches -/
def Rest (w : List ab_C) (kc : Nat) : Prop := (∃ f, w[22]? = some (cI 64 f)) ∧ (∃ f, w[23]? = some (cI 8 f)) ∧ (∃ f, w[25]? = some (cI 9 f)) ∧ (∃ f, w[55]? = some (cL 1 f)) ∧ w.length = 56 + 7 * kc
def J (w : List ab_C) (kc : Nat) (gp bp : Nat → Nat) (bn : Nat) (nbs nts : Nat → Nat) (ks : Nat → Nat → Nat) (n m : Nat) (N K : Nat → Nat) (r : R8) (qs : Nat → Nat → Nat) : Prop := CInv w kc gp bp bn nbs nts ks n m N K ∧ M8 w r ∧ Rest w kc ∧ Gr8 r kc nbs nts ks qs ∧ HS8 r (qs kc) (nbs kc) (nts kc) ∧ LT8 r n m N K
def Jn (w : List ab_C) : Prop := ∃ kc gp bp bn nbs nts ks n m N K r qs, J w kc gp bp bn nbs nts ks n m N K r qs
/-- class and model at the same call: the same answer -/
def Stq (A B : ab_M) (d : Nat) (w : List ab_C) (as : List Value) : Prop := Cal A d w (.ref 100 :: as) (fun w1 v => ∃ x, v = some (.int x) ∧ Cal8 B d w1 as (fun w2 v2 => v2 = some (.int x) ∧ Jn w2))
theorem Rest_out {w w1 : List ab_C} {kc : Nat} (h : Rest w kc) (e : ∀ i, (i = 22 ∨ i = 23 ∨ i = 25 ∨ i = 55) → w1[i]? = w[i]?) (el : w1.length = w.length) : Rest w1 kc := by
  obtain ⟨⟨a, h1⟩, ⟨b, h2⟩, ⟨c, h3⟩, ⟨f, h4⟩, h5⟩ := h
  exact ⟨⟨a, at_congr (e _ (by omega)) h1⟩, ⟨b, at_congr (e _ (by omega)) h2⟩, ⟨c, at_congr (e _ (by omega)) h3⟩, ⟨f, at_congr (e _ (by omega)) h4⟩, by rw [el]; exact h5⟩
theorem CInv_lo {w w1 : List ab_C} {kc : Nat} {gp bp : Nat → Nat} {bn : Nat} {nbs nts : Nat → Nat} {ks : Nat → Nat → Nat} {n m : Nat} {N K : Nat → Nat} (h : CInv w kc gp bp bn nbs nts ks n m N K) (e : ∀ i, i < 36 ∨ 55 ≤ i → w1[i]? = w[i]?) : CInv w1 kc gp bp bn nbs nts ks n m N K := by
  refine CInv_out (fun i hi => e i ?_) h
  obtain ⟨_, _, _, _, _, _, _, z1, z2, z3, _⟩ := h
  rcases hi with hi | hi | ⟨a, ha, hi⟩ | hi
  · omega
  · omega
  · have := z1 a ha
    have := z2 a ha
    omega
  · omega
/-- the model goes on alone: the class's side behind it -/
theorem join {w0 w1 w2 : List ab_C} {kc : Nat} {gp : Nat → Nat} {nbs nts : Nat → Nat} {ks : Nat → Nat → Nat} {n m : Nat} {N K : Nat → Nat} {r' : R8} {qs : Nat → Nat → Nat} (hR : Rest w0 kc) (hP : CPost w0 kc gp nbs nts ks n m N K w1) (hM : M8 w2 r') (e : ∀ i, i < 36 ∨ 55 ≤ i → w2[i]? = w1[i]?) (el : w2.length = w1.length) (hG : Gr8 r' kc nbs nts ks qs) (hH : HS8 r' (qs kc) (nbs kc) (nts kc)) (hL : LT8 r' n m N K) : Jn w2 := by
  obtain ⟨⟨bp, bn, hI⟩, e1, el1⟩ := hP
  exact ⟨kc, gp, bp, bn, nbs, nts, ks, n, m, N, K, r', qs, CInv_lo hI e, hM, Rest_out (Rest_out hR (fun i hi => e1 i (by omega)) el1) (fun i hi => e i (by omega)) el, hG, hH, hL⟩
theorem M8_post {w w1 : List ab_C} {kc : Nat} {gp : Nat → Nat} {nbs nts : Nat → Nat} {ks : Nat → Nat → Nat} {n m : Nat} {N K : Nat → Nat} {r : R8} (hP : CPost w kc gp nbs nts ks n m N K w1) (h : M8 w r) : M8 w1 r := M8_out h (fun i h1 h2 => hP.2.1 i (by omega))
/-- the model's record with thrown put back: nothing else -/
def th0 (r r' : R8) : Prop := r'.bl = r.bl ∧ r'.co = r.co ∧ r'.po = r.po ∧ r'.ke = r.ke ∧ r'.nm = r.nm ∧ r'.fm = r.fm ∧ r'.oc = r.oc ∧ r'.nb = r.nb ∧ r'.fc = r.fc
theorem th0_Gr {r r' : R8} {kc : Nat} {nbs nts : Nat → Nat} {ks qs : Nat → Nat → Nat} (h : th0 r r') (hG : Gr8 r kc nbs nts ks qs) : Gr8 r' kc nbs nts ks qs := by
  obtain ⟨h1, h2, h3, h4, _⟩ := h
  unfold Gr8
  rw [h1, h2, h3, h4]
  exact hG
theorem th0_LT {r r' : R8} {n m : Nat} {N K : Nat → Nat} (h : th0 r r') (hL : LT8 r n m N K) : LT8 r' n m N K := by
  obtain ⟨_, _, _, _, h5, h6, h7, h8, h9⟩ := h
  unfold LT8
  rw [h5, h6, h7, h8, h9]
  exact hL
/-- the hashes' row stays -/
def ha0 (r r' : R8) : Prop := r'.hs = r.hs ∧ r'.ha = r.ha ∧ r'.ro = r.ro ∧ r'.gc = r.gc ∧ r'.gr = r.gr ∧ r'.go = r.go
theorem ha0_HS {r r' : R8} {q : Nat → Nat} {nb nt : Nat} (h : ha0 r r') (hH : HS8 r q nb nt) : HS8 r' q nb nt := by
  obtain ⟨h1, h2, h3, h4, h5, h6⟩ := h
  unfold HS8 Hd
  rw [h1, h2, h3, h4, h5, h6]
  exact hH
theorem Gr8_cur {r : R8} {kc : Nat} {nbs nts : Nat → Nat} {ks qs : Nat → Nat → Nat} (h : Gr8 r kc nbs nts ks qs) : r.bl 8 = nI (nbs kc) ∧ r.co 8 = nI (nts kc) ∧ pts r.po 960 (qs kc) (nts kc) (nbs kc) ∧ KQ (ks kc) (qs kc) (nts kc) := by
  have := h.2 kc (Nat.le_refl _)
  rw [show mi kc kc = 8 from if_pos rfl] at this
  exact this
theorem CInv_cur {w : List ab_C} {kc : Nat} {gp bp : Nat → Nat} {bn : Nat} {nbs nts : Nat → Nat} {ks : Nat → Nat → Nat} {n m : Nat} {N K : Nat → Nat} (h : CInv w kc gp bp bn nbs nts ks n m N K) {a : Nat} (ha : a ≤ kc) : nbs a ≤ 8 ∧ nts a ≤ 40 ∧ Vk (ks a) (nts a) (nbs a) := by
  obtain ⟨_, _, _, _, _, _, _, _, _, _, h8, h40, hk, hr, _⟩ := h.2.2.2.2.1 a ha
  exact ⟨h8, h40, keysOk_V hk hr⟩
