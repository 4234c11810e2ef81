/-! Calls by facts; the class's invariant. -/
/-- a call that makes nothing: what holds behind it -/
def Cal (N : ab_M) (d : Nat) (w : List ab_C) (as' : List Value) (P : List ab_C → Option Value → Prop) : Prop := ∃ (is fo : List Nat) (wc : List ab_C) (as : List Value) (Qc : List ab_C → Option Value → Prop), Con N d 0 0 wc as Qc ∧ ab_fits is fo wc w ∧ va_nd is = true ∧ as.map (ab_v (ab_rho is fo w.length)) = as' ∧ (∀ w' v, Qc w' v → w'.length = wc.length) ∧ ∀ w' v, Qc w' v → P (ab_put w is (w'.map (ab_rc (ab_rho is fo w.length)))) (v.map (ab_v (ab_rho is fo w.length)))
theorem Cal.mono {N : ab_M} {d : Nat} {w : List ab_C} {as' : List Value} {P P' : List ab_C → Option Value → Prop} (h : Cal N d w as' P) (hp : ∀ w1 v, P w1 v → P' w1 v) : Cal N d w as' P' := by
  obtain ⟨is, fo, wc, as, Qc, h1, h2, h3, h4, h5, h6⟩ := h
  exact ⟨is, fo, wc, as, Qc, h1, h2, h3, h4, h5, fun w' v q => hp _ _ (h6 w' v q)⟩
theorem G_Cal {xo : ab_XO} {M N : ab_M} {d k n : Nat} {Q : List ab_C → Option Value → Prop} {pc : Nat} {L : List (Option Value)} {stk st as' : List Value} {idx na j ci : Nat} {fs : List Value} {T : u_T} {nf : Nat} {w : List ab_C} {P : List ab_C → Option Value → Prop} (hl : ab_V M N idx na) (hC : Cal N d w (.ref (j + 100) :: as') P) (hx : ∀ (i : Nat) (q : Nat × (Nat → Int32)), ab_x0[i]? = some q → xo[i]? = some q) (hrc : w[j]? = some (.inr (ci, fs))) (hcl : vwCl[ci]? = some (N.2.1.cls, T, nf)) (hstk : as'.reverse ++ .ref (j + 100) :: st = stk) (hna : as'.length = na) (hLl : L.length = M.2.2.2.1) (hsum : (st.map fun v => v.category).sum ≤ 8) (hd : decode M.2.2.1 pc = .ok (.invokevirtual idx, 3)) (kk : ∀ w1 v, P w1 v → G xo M (d + 1) k n Q (pc + 3) L (v.toList ++ st) w1) : G xo M (d + 1) k n Q pc L stk w := by
  obtain ⟨is, fo, wc, as, Qc, h1, h2, h3, h4, h5, h6⟩ := hC
  have hlen : as.length = na + 1 := by
    have := congrArg List.length h4
    rw [List.length_map, List.length_cons] at this
    omega
  exact G_V (k := k) (n := n) hl h1 hx h2 h3 h4 hrc hcl hstk hlen hLl hsum hd h5 (fun w' v q => kk _ _ (h6 w' v q))
/-- the same outside of the class's cells -/
def GOk (w : List ab_C) (g b nb nt : Nat) (k : Nat → Nat) : Prop := ∃ (hs ro : Int32) (K : Nat → Int32) (cB : Int32) (FB b1 b2 b3 : Nat → Int32), GrA w g b nb nt hs ro K ∧ BlA w b cB FB b1 b2 b3 ∧ nb ≤ 8 ∧ nt ≤ 40 ∧ keysOk K k nt nb ∧ (∀ i j, i < j → j < nt → K i < K j) ∧ HS hs ro cB nb nt k FB b1 b2 b3
/-- the latest name, the matcher, the search's rows -/
def LatA (w : List ab_C) (n m : Nat) (N K : Nat → Nat) : Prop := ∃ (I La : Nat → Int32) (fd : Int32) (P Qb tr : Nat → Int32) (dg hs' ro' : Int32) (Kf : Nat → Int32) (cv' : Int32) (RF Nn Dg : Nat → Int32) (gI gP gQ : Nat → Nat),
  (w[11]? = some (.inr (5, [.ref 112, .ref 113])) ∧ w[12]? = some (cI 8 I) ∧ w[13]? = some (cI 40 La) ∧ w[14]? = some (.inr (4, [.ref 115, .ref 116, .ref 117, .int fd])) ∧ w[15]? = some (cI 8 P) ∧ w[16]? = some (cI 8 Qb) ∧ w[17]? = some (cI 40 tr)) ∧
  (w[18]? = some (.inr (6, [.ref 119, .ref 126, .ref 127, .int dg])) ∧ w[19]? = some (.inr (1, [.ref 120, .int (nI n), .int (nI m), .int hs', .int ro', .ref 121])) ∧ w[20]? = some (cI 40 Kf) ∧ w[21]? = some (.inr (2, [.ref 122, .ref 123, .ref 124, .ref 125, .int cv'])) ∧ w[24]? = some (cI 8 RF) ∧ w[26]? = some (cI 8 Nn) ∧ w[27]? = some (cI 8 Dg)) ∧
  (∀ j, j < 8 → I j = nI (gI j) ∧ gI j ≤ 8) ∧ (∀ j, j < 8 → P j = nI (gP j) ∧ gP j ≤ 8) ∧ (∀ j, j < 8 → Qb j = nI (gQ j) ∧ gQ j ≤ 8) ∧ n ≤ 8 ∧ m ≤ 40 ∧ (∀ i, i < m → Kf i = nI (K i) ∧ K i < 2 ^ 30) ∧ (∀ c, c < n → Nn c = nI (N c)) ∧ (dg = 0 ∨ (dg = 1 ∧ ∀ j, j < 8 → Dg j = dig (fmB K m) j))
/-- the graphs' and the Groups' places are apart -/
def Sep (kc : Nat) (gp bp : Nat → Nat) (bn : Nat) : Prop :=
  (∀ a, a ≤ kc → gp a = 29 ∨ 56 ≤ gp a) ∧ (∀ a, a ≤ kc → bp a = 6 ∨ bp a = 31 ∨ 56 ≤ bp a) ∧ (bn = 6 ∨ bn = 31 ∨ 56 ≤ bn) ∧
  (∀ a c, a ≤ kc → c ≤ kc → a ≠ c → gp a + 2 ≤ gp c ∨ gp c + 2 ≤ gp a) ∧ (∀ a c, a ≤ kc → c ≤ kc → a ≠ c → bp a + 5 ≤ bp c ∨ bp c + 5 ≤ bp a) ∧ (∀ a c, a ≤ kc → c ≤ kc → gp a + 2 ≤ bp c ∨ bp c + 5 ≤ gp a) ∧
  (∀ a, a ≤ kc → bn + 5 ≤ bp a ∨ bp a + 5 ≤ bn) ∧ (∀ a, a ≤ kc → gp a + 2 ≤ bn ∨ bn + 5 ≤ gp a)
def CInv (w : List ab_C) (kc : Nat) (gp bp : Nat → Nat) (bn : Nat) (nbs nts : Nat → Nat) (ks : Nat → Nat → Nat) (n m : Nat) (N K : Nat → Nat) : Prop :=
  kc ≤ 8 ∧ C7A w kc (gp kc) ∧ (∃ s len D, HaA w bn s len D) ∧ (∃ ce E e1 e2 e3, BlA w bn ce E e1 e2 e3) ∧ (∀ a, a ≤ kc → GOk w (gp a) (bp a) (nbs a) (nts a) (ks a)) ∧ LatA w n m N K ∧ w[28]? = some (.inl (4, 8, .inr (.inr (.inr (.inr (kf (fun j => gp j + 100) kc)))))) ∧ Sep kc gp bp bn
/-- places of the class -/
def ClP (kc : Nat) (gp bp : Nat → Nat) (bn i : Nat) : Prop := i < 6 ∨ (11 ≤ i ∧ i < 29) ∨ (∃ a, a ≤ kc ∧ ((gp a ≤ i ∧ i < gp a + 2) ∨ (bp a ≤ i ∧ i < bp a + 5))) ∨ (bn ≤ i ∧ i < bn + 5)
theorem at_lt {w : List ab_C} {i : Nat} {c : ab_C} (h : w[i]? = some c) : i < w.length := (List.getElem?_eq_some_iff.mp h).1
theorem at_congr {w w1 : List ab_C} {i : Nat} {c : ab_C} (e : w1[i]? = w[i]?) (h : w[i]? = some c) : w1[i]? = some c := e.trans h
theorem GOk_out {w w1 : List ab_C} {g b nb nt : Nat} {k : Nat → Nat} (e : ∀ i, (g ≤ i ∧ i < g + 2) ∨ (b ≤ i ∧ i < b + 5) → w1[i]? = w[i]?) (h : GOk w g b nb nt k) : GOk w1 g b nb nt k := by
  obtain ⟨hs, ro, K, cB, FB, b1, b2, b3, h1, h2, h3⟩ := h
  exact ⟨hs, ro, K, cB, FB, b1, b2, b3, ⟨at_congr (e _ (by omega)) h1.1, at_congr (e _ (by omega)) h1.2⟩, ⟨at_congr (e _ (by omega)) h2.1, at_congr (e _ (by omega)) h2.2.1, at_congr (e _ (by omega)) h2.2.2.1, at_congr (e _ (by omega)) h2.2.2.2.1, at_congr (e _ (by omega)) h2.2.2.2.2⟩, h3⟩
theorem LatA_out {w w1 : List ab_C} {n m : Nat} {N K : Nat → Nat} (e : ∀ i, 11 ≤ i ∧ i < 28 → w1[i]? = w[i]?) (h : LatA w n m N K) : LatA w1 n m N K := by
  obtain ⟨I, La, fd, P, Qb, tr, dg, hs', ro', Kf, cv', RF, Nn, Dg, gI, gP, gQ, ⟨a1, a2, a3, a4, a5, a6, a7⟩, ⟨b1, b2, b3, b4, b5, b6, b7⟩, h3⟩ := h
  exact ⟨I, La, fd, P, Qb, tr, dg, hs', ro', Kf, cv', RF, Nn, Dg, gI, gP, gQ, ⟨at_congr (e _ (by omega)) a1, at_congr (e _ (by omega)) a2, at_congr (e _ (by omega)) a3, at_congr (e _ (by omega)) a4, at_congr (e _ (by omega)) a5, at_congr (e _ (by omega)) a6, at_congr (e _ (by omega)) a7⟩, ⟨at_congr (e _ (by omega)) b1, at_congr (e _ (by omega)) b2, at_congr (e _ (by omega)) b3, at_congr (e _ (by omega)) b4, at_congr (e _ (by omega)) b5, at_congr (e _ (by omega)) b6, at_congr (e _ (by omega)) b7⟩, h3⟩
theorem CInv_out {w w1 : List ab_C} {kc : Nat} {gp bp : Nat → Nat} {bn : Nat} {nbs nts : Nat → Nat} {ks : Nat → Nat → Nat} {n m : Nat} {N K : Nat → Nat} (e : ∀ i, ClP kc gp bp bn i → w1[i]? = w[i]?) (h : CInv w kc gp bp bn nbs nts ks n m N K) : CInv w1 kc gp bp bn nbs nts ks n m N K := by
  obtain ⟨h1, h2, ⟨s, len, D, h3⟩, ⟨ce, E, e1, e2, e3, h4⟩, h5, h6, h7, h8⟩ := h
  have lo : ∀ i, i < 6 → w1[i]? = w[i]? := fun i hi => e i (Or.inl hi)
  have nx : ∀ i, bn ≤ i → i < bn + 5 → w1[i]? = w[i]? := fun i a b => e i (Or.inr (Or.inr (Or.inr ⟨a, b⟩)))
  refine ⟨h1, at_congr (lo 0 (by omega)) h2, ⟨s, len, D, at_congr (lo _ (by omega)) h3.1, at_congr (lo _ (by omega)) h3.2.1, at_congr (lo _ (by omega)) h3.2.2.1, at_congr (lo _ (by omega)) h3.2.2.2.1, at_congr (lo _ (by omega)) h3.2.2.2.2⟩, ⟨ce, E, e1, e2, e3, at_congr (nx _ (by omega) (by omega)) h4.1, at_congr (nx _ (by omega) (by omega)) h4.2.1, at_congr (nx _ (by omega) (by omega)) h4.2.2.1, at_congr (nx _ (by omega) (by omega)) h4.2.2.2.1, at_congr (nx _ (by omega) (by omega)) h4.2.2.2.2⟩, fun a ha => GOk_out (fun i hi => e i (Or.inr (Or.inr (Or.inl ⟨a, ha, hi⟩)))) (h5 a ha), LatA_out (fun i hi => e i (Or.inr (Or.inl (by omega)))) h6, at_congr (e 28 (Or.inr (Or.inl (by omega)))) h7, h8⟩
theorem nd_iv {s n : Nat} : (List.range' s n).Nodup := List.nodup_range'
set_option maxRecDepth 20000 in
theorem nd18 {x g b : Nat} (hx : x = 6 ∨ x = 31 ∨ 56 ≤ x) (hg : g = 29 ∨ 56 ≤ g) (hb : b = 6 ∨ b = 31 ∨ 56 ≤ b) (h1 : x + 5 ≤ b ∨ b + 5 ≤ x) (h2 : g + 2 ≤ x ∨ x + 5 ≤ g) (h3 : g + 2 ≤ b ∨ b + 5 ≤ g) : ([0, 1, 2, 3, 4, 5, x, x + 1, x + 2, x + 3, x + 4, g, g + 1, b, b + 1, b + 2, b + 3, b + 4] : List Nat).Nodup := by
  have e : ([0, 1, 2, 3, 4, 5, x, x + 1, x + 2, x + 3, x + 4, g, g + 1, b, b + 1, b + 2, b + 3, b + 4] : List Nat) = [0, 1, 2, 3, 4, 5] ++ (List.range' x 5 ++ (List.range' g 2 ++ List.range' b 5)) := rfl
  rw [e]
  have mr : ∀ {a s n : Nat}, a ∈ List.range' s n → s ≤ a ∧ a < s + n := fun h => by rw [List.mem_range'_1] at h; exact h
  refine List.nodup_append.mpr ⟨by decide, List.nodup_append.mpr ⟨nd_iv, List.nodup_append.mpr ⟨nd_iv, nd_iv, fun a ha c hc => ?_⟩, fun a ha c hc => ?_⟩, fun a ha c hc => ?_⟩
  · have := mr ha; have := mr hc; omega
  · have := mr ha
    rcases List.mem_append.mp hc with hc | hc <;> (have := mr hc; omega)
  · have ha : a < 6 := by simp at ha; omega
    rcases List.mem_append.mp hc with hc | hc
    · have := mr hc; omega
    · rcases List.mem_append.mp hc with hc | hc <;> (have := mr hc; omega)
