/-! keep of class and model; that every token of the world is a place of it. -/
section SC
variable {w : List ab_C} {kc : Nat} {gp bp : Nat → Nat} {bn : Nat}
def blk (kc : Nat) (bp : Nat → Nat) (bn c : Nat) : Nat := if c ≤ kc then bp c else bn
def plc (kc : Nat) (gp bp : Nat → Nat) (bn t : Nat) : Nat := if t < 2 * (kc + 1) then gp (t / 2) + t % 2 else blk kc bp bn ((t - 2 * (kc + 1)) / 5) + (t - 2 * (kc + 1)) % 5
def cod (p : Nat) : Nat := if p < 11 then p - 6 else if p < 36 then p - 29 + 5 else p - 56 + 12
def vpl (p : Nat) : Prop := (6 ≤ p ∧ p < 11) ∨ (29 ≤ p ∧ p < 36) ∨ 56 ≤ p
theorem cod_inj {p q : Nat} (hp : vpl p) (hq : vpl q) (e : cod p = cod q) : p = q := by
  unfold vpl at hp hq
  unfold cod at e
  split at e <;> split at e <;> (try split at e) <;> (try split at e) <;> omega
theorem Sep_blk (h : Sep kc gp bp bn) : (∀ c, c ≤ kc + 1 → blk kc bp bn c = 6 ∨ blk kc bp bn c = 31 ∨ 56 ≤ blk kc bp bn c) ∧ (∀ c c', c ≤ kc + 1 → c' ≤ kc + 1 → c ≠ c' → blk kc bp bn c + 5 ≤ blk kc bp bn c' ∨ blk kc bp bn c' + 5 ≤ blk kc bp bn c) ∧ ∀ a c, a ≤ kc → c ≤ kc + 1 → gp a + 2 ≤ blk kc bp bn c ∨ blk kc bp bn c + 5 ≤ gp a := by
  obtain ⟨z1, z2, z3, z4, z5, z6, z7, z8⟩ := h
  refine ⟨fun c hc => ?_, fun c c' hc hc' hne => ?_, fun a c ha hc => ?_⟩
  · unfold blk
    split
    · exact z2 c (by omega)
    · exact z3
  · unfold blk
    split
    · split
      · exact z5 c c' (by omega) (by omega) hne
      · have := z7 c (by omega); omega
    · split
      · exact z7 c' (by omega)
      · omega
  · unfold blk
    split
    · exact z6 a c ha (by omega)
    · exact z8 a ha
theorem plc_cover (h : Sep kc gp bp bn) (hend : (∀ a, a ≤ kc → gp a + 2 ≤ 56 + 7 * kc ∧ bp a + 5 ≤ 56 + 7 * kc) ∧ bn + 5 ≤ 56 + 7 * kc) {p : Nat} (hp : vpl p) (hpl : p < 56 + 7 * kc) : (∃ a, a ≤ kc ∧ gp a ≤ p ∧ p < gp a + 2) ∨ ∃ c, c ≤ kc + 1 ∧ blk kc bp bn c ≤ p ∧ p < blk kc bp bn c + 5 := by
  obtain ⟨b1, b2, b3⟩ := Sep_blk h
  obtain ⟨z1, z2, z3, z4, z5, z6, z7, z8⟩ := id h
  have bend : ∀ c, c ≤ kc + 1 → blk kc bp bn c + 5 ≤ 56 + 7 * kc := fun c hc => by
    unfold blk
    split
    · exact (hend.1 c (by omega)).2
    · exact hend.2
  have hlo : ∀ t, t < 2 * (kc + 1) → plc kc gp bp bn t = gp (t / 2) + t % 2 := fun t ht => if_pos ht
  have hhi : ∀ t, ¬ t < 2 * (kc + 1) → plc kc gp bp bn t = blk kc bp bn ((t - 2 * (kc + 1)) / 5) + (t - 2 * (kc + 1)) % 5 := fun t ht => if_neg ht
  have hv : ∀ t, t < 7 * kc + 12 → vpl (plc kc gp bp bn t) ∧ plc kc gp bp bn t < 56 + 7 * kc := fun t ht => by
    by_cases hc : t < 2 * (kc + 1)
    · rw [hlo t hc]
      have a1 := z1 (t / 2) (by omega)
      have a2 := (hend.1 (t / 2) (by omega)).1
      unfold vpl
      omega
    · rw [hhi t hc]
      have a1 := b1 ((t - 2 * (kc + 1)) / 5) (by omega)
      have a2 := bend ((t - 2 * (kc + 1)) / 5) (by omega)
      unfold vpl
      omega
  have hinj : ∀ i j, i < j → j < 7 * kc + 12 → plc kc gp bp bn i ≠ plc kc gp bp bn j := fun i j hij hj => by
    by_cases c1 : i < 2 * (kc + 1)
    · rw [hlo i c1]
      by_cases c2 : j < 2 * (kc + 1)
      · rw [hlo j c2]
        by_cases e : i / 2 = j / 2
        · rw [e]; omega
        · have := z4 (i / 2) (j / 2) (by omega) (by omega) e
          omega
      · rw [hhi j c2]
        have := b3 (i / 2) ((j - 2 * (kc + 1)) / 5) (by omega) (by omega)
        omega
    · rw [hhi i c1, hhi j (by omega)]
      by_cases e : (i - 2 * (kc + 1)) / 5 = (j - 2 * (kc + 1)) / 5
      · rw [e]; omega
      · have := b2 ((i - 2 * (kc + 1)) / 5) ((j - 2 * (kc + 1)) / 5) (by omega) (by omega) e
        omega
  have hcl : ∀ q, vpl q → q < 56 + 7 * kc → cod q < 7 * kc + 12 := fun q h1 h2 => by
    unfold vpl at h1
    unfold cod
    split
    · omega
    · split <;> omega
  obtain ⟨t, ht, et⟩ := sur_of_inj (7 * kc + 12) (fun t => cod (plc kc gp bp bn t)) (fun t ht => hcl _ (hv t ht).1 (hv t ht).2) (fun i j hij hj e => hinj i j hij hj (cod_inj (hv i (by omega)).1 (hv j hj).1 e)) (cod p) (hcl p hp hpl)
  have ep := cod_inj (hv t ht).1 hp et
  rw [← ep]
  by_cases hc : t < 2 * (kc + 1)
  · rw [hlo t hc]
    exact Or.inl ⟨t / 2, by omega, by omega, by omega⟩
  · rw [hhi t hc]
    exact Or.inr ⟨(t - 2 * (kc + 1)) / 5, by omega, by omega, by omega⟩
end SC
/-! the scope -/
section SC2
variable {w : List ab_C} {kc : Nat} {gp bp : Nat → Nat} {bn : Nat} {nbs nts : Nat → Nat} {ks : Nat → Nat → Nat} {n m : Nat} {N K : Nat → Nat} {r : R8} {qs : Nat → Nat → Nat}
theorem blk_sc {b : Nat} {c : Int32} {F f1 f2 f3 : Nat → Int32} (h : BlA w b c F f1 f2 f3) {i : Nat} {x : ab_C} (h1 : b ≤ i) (h2 : i < b + 5) (hx : w[i]? = some x) : ab_scC (w.length + 100) x := by
  have hl := at_lt h.2.2.2.2
  have e : i = b ∨ i = b + 1 ∨ i = b + 2 ∨ i = b + 3 ∨ i = b + 4 := by omega
  rcases e with rfl | rfl | rfl | rfl | rfl
  · rw [h.1] at hx
    have hx := Option.some.inj hx
    rw [← hx]
    intro v hv
    simp only [List.mem_cons, List.not_mem_nil, or_false] at hv
    rcases hv with rfl | rfl | rfl | rfl | rfl <;> first | exact True.intro | (show (_ : Nat) < _; omega)
  · rw [h.2.1] at hx
    rw [← Option.some.inj hx]
    exact True.intro
  · rw [h.2.2.1] at hx
    rw [← Option.some.inj hx]
    exact True.intro
  · rw [h.2.2.2.1] at hx
    rw [← Option.some.inj hx]
    exact True.intro
  · rw [h.2.2.2.2] at hx
    rw [← Option.some.inj hx]
    exact True.intro
set_option maxRecDepth 4000 in
theorem J_sc (hJ : J w kc gp bp bn nbs nts ks n m N K r qs) : ∀ c ∈ w, ab_scC (w.length + 100) c := by
  obtain ⟨hI, hM, ⟨⟨f22, h22⟩, ⟨f23, h23⟩, ⟨f25, h25⟩, ⟨f55, h55⟩, hlen⟩, hG, hH, hL⟩ := hJ
  have hend := CInv_end hI
  rw [hlen] at hend
  obtain ⟨i1, i2, ⟨s, len, D, hh⟩, ⟨cX, FX, X1, X2, X3, hX⟩, i5, ⟨I, La, fd, Pp, Qb, tr, dg, hs', ro', Kf, cv', RF, Nn, Dg, gI, gP, gQ, ⟨a1, a2, a3, a4, a5, a6, a7⟩, ⟨b1, b2, b3, b4, b5, b6, b7⟩, _⟩, i7, i8⟩ := hI
  have go : ∀ {i : Nat} {x y : ab_C}, w[i]? = some x → w[i]? = some y → ab_scC (w.length + 100) y → ab_scC (w.length + 100) x := fun {i x y} hx hy hs => by
    rw [hy] at hx
    rw [← Option.some.inj hx]
    exact hs
  intro x hx
  obtain ⟨i, hx⟩ := List.mem_iff_getElem?.mp hx
  have hil := at_lt hx
  have gk := hend.1 kc (Nat.le_refl _)
  have cov : (∃ a, a ≤ kc ∧ gp a ≤ i ∧ i < gp a + 2) ∨ (∃ c, c ≤ kc + 1 ∧ blk kc bp bn c ≤ i ∧ i < blk kc bp bn c + 5) → ab_scC (w.length + 100) x := by
    rintro (⟨a, ha, h1, h2⟩ | ⟨c, hc, h1, h2⟩)
    · obtain ⟨hs, ro, Kk, cY, FY, Y1, Y2, Y3, hg, hY, _⟩ := i5 a ha
      have ga := hend.1 a ha
      have e : i = gp a ∨ i = gp a + 1 := by omega
      rcases e with rfl | rfl
      · refine go hx hg.1 ?_
        intro v hv
        simp only [List.mem_cons, List.not_mem_nil, or_false] at hv
        rcases hv with rfl | rfl | rfl | rfl | rfl | rfl <;> first | exact True.intro | (show (_ : Nat) < _; omega)
      · exact go hx hg.2 True.intro
    · unfold blk at h1 h2
      split at h1
      · next hle =>
        rw [if_pos hle] at h2
        obtain ⟨hs, ro, Kk, cY, FY, Y1, Y2, Y3, hg, hY, _⟩ := i5 c hle
        exact blk_sc hY h1 h2 hx
      · next hle =>
        rw [if_neg hle] at h2
        exact blk_sc hX h1 h2 hx
  by_cases hv : vpl i
  · exact cov (plc_cover i8 hend hv (by omega))
  have hj : 36 ≤ i → i < 55 → ab_scC (w.length + 100) x := fun h1 h2 => by
    have hm := hM (i - 36) (by omega)
    rw [show 36 + (i - 36) = i by omega, hx] at hm
    have e : i - 36 = 0 ∨ 1 ≤ i - 36 := by omega
    rcases e with e | e
    · rw [e] at hm
      rw [Option.some.inj hm]
      show ab_scC (w.length + 100) (.inr (9, [.ref 137, .ref 138, .ref 139, .ref 140, .int r.ke, .ref 141, .ref 142, .int r.ro, .int r.hs, .ref 143, .ref 144, .int r.gc, .ref 145, .ref 146, .ref 147, .int r.nb, .ref 148, .int r.fc, .ref 149, .ref 150, .int r.de, .ref 151, .int r.si, .ref 152, .ref 153, .int r.th, .ref 154]))
      intro v hv
      simp only [List.mem_cons, List.not_mem_nil, or_false] at hv
      rcases hv with rfl | rfl | rfl | rfl | rfl | rfl | rfl | rfl | rfl | rfl | rfl | rfl | rfl | rfl | rfl | rfl | rfl | rfl | rfl | rfl | rfl | rfl | rfl | rfl | rfl | rfl | rfl <;> first | exact True.intro | (show (_ : Nat) < _; omega)
    · have q : ∀ j, 1 ≤ j → j < 19 → ∀ y, (c8 r)[j]? = some y → ab_scC (w.length + 100) y := fun j h1 h2 y hy => by
        have hmem : y ∈ (c8 r).tail := by
          rw [List.mem_iff_getElem?]
          exact ⟨j - 1, by rw [List.getElem?_tail, show j - 1 + 1 = j by omega]; exact hy⟩
        simp only [c8, List.tail_cons, List.mem_cons, List.not_mem_nil, or_false] at hmem
        rcases hmem with rfl | rfl | rfl | rfl | rfl | rfl | rfl | rfl | rfl | rfl | rfl | rfl | rfl | rfl | rfl | rfl | rfl | rfl <;> exact True.intro
      exact q (i - 36) e (by omega) x hm.symm
  have e : i < 6 ∨ (11 ≤ i ∧ i < 29) ∨ (36 ≤ i ∧ i < 55) ∨ i = 55 := by unfold vpl at hv; omega
  rcases e with e | e | e | rfl
  · have e : i = 0 ∨ i = 1 ∨ i = 2 ∨ i = 3 ∨ i = 4 ∨ i = 5 := by omega
    rcases e with rfl | rfl | rfl | rfl | rfl | rfl
    · refine go hx (show w[0]? = _ from i2) ?_
      intro v hv
      simp only [List.mem_cons, List.not_mem_nil, or_false] at hv
      rcases hv with rfl | rfl | rfl | rfl | rfl | rfl | rfl <;> first | exact True.intro | (show (_ : Nat) < _; omega)
    · refine go hx hh.1 ?_
      intro v hv
      simp only [List.mem_cons, List.not_mem_nil, or_false] at hv
      rcases hv with rfl | rfl | rfl <;> first | exact True.intro | (show (_ : Nat) < _; omega)
    · refine go hx hh.2.1 ?_
      intro v hv
      simp only [List.mem_cons, List.not_mem_nil, or_false] at hv
      rcases hv with rfl | rfl | rfl | rfl <;> first | exact True.intro | (show (_ : Nat) < _; omega)
    · exact go hx hh.2.2.1 True.intro
    · exact go hx hh.2.2.2.1 True.intro
    · exact go hx hh.2.2.2.2 True.intro
  · have e : i = 11 ∨ i = 12 ∨ i = 13 ∨ i = 14 ∨ i = 15 ∨ i = 16 ∨ i = 17 ∨ i = 18 ∨ i = 19 ∨ i = 20 ∨ i = 21 ∨ i = 22 ∨ i = 23 ∨ i = 24 ∨ i = 25 ∨ i = 26 ∨ i = 27 ∨ i = 28 := by omega
    rcases e with rfl | rfl | rfl | rfl | rfl | rfl | rfl | rfl | rfl | rfl | rfl | rfl | rfl | rfl | rfl | rfl | rfl | rfl
    · refine go hx a1 ?_
      intro v hv
      simp only [List.mem_cons, List.not_mem_nil, or_false] at hv
      rcases hv with rfl | rfl <;> first | exact True.intro | (show (_ : Nat) < _; omega)
    · exact go hx a2 True.intro
    · exact go hx a3 True.intro
    · refine go hx a4 ?_
      intro v hv
      simp only [List.mem_cons, List.not_mem_nil, or_false] at hv
      rcases hv with rfl | rfl | rfl | rfl <;> first | exact True.intro | (show (_ : Nat) < _; omega)
    · exact go hx a5 True.intro
    · exact go hx a6 True.intro
    · exact go hx a7 True.intro
    · refine go hx b1 ?_
      intro v hv
      simp only [List.mem_cons, List.not_mem_nil, or_false] at hv
      rcases hv with rfl | rfl | rfl | rfl <;> first | exact True.intro | (show (_ : Nat) < _; omega)
    · refine go hx b2 ?_
      intro v hv
      simp only [List.mem_cons, List.not_mem_nil, or_false] at hv
      rcases hv with rfl | rfl | rfl | rfl | rfl | rfl <;> first | exact True.intro | (show (_ : Nat) < _; omega)
    · exact go hx b3 True.intro
    · refine go hx b4 ?_
      intro v hv
      simp only [List.mem_cons, List.not_mem_nil, or_false] at hv
      rcases hv with rfl | rfl | rfl | rfl | rfl <;> first | exact True.intro | (show (_ : Nat) < _; omega)
    · exact go hx h22 True.intro
    · exact go hx h23 True.intro
    · exact go hx b5 True.intro
    · exact go hx h25 True.intro
    · exact go hx b6 True.intro
    · exact go hx b7 True.intro
    · refine go hx i7 ?_
      intro j t et
      have et : kf (fun j => gp j + 100) kc j = some t := et
      unfold kf at et
      split at et
      · have et := Option.some.inj et
        have := hend.1 j (by omega)
        have et : gp j + 100 = t := et
        omega
      · cases et
  · exact hj e.1 e.2
  · exact go hx h55 True.intro
theorem st_keep (d : Nat) (hJ : Jn w) : Stq mX7_keep mX8_keep (d + 14) w [] ∨ ((∀ c ∈ w, ab_scC (w.length + 100) c) ∧ CalA mX7_keep (d + 14) 7 140 w [.ref 100] (fun w1 v => ∃ x, v = some (.int x) ∧ Cal8 mX8_keep (d + 14) w1 [] (fun w2 v2 => v2 = some (.int x) ∧ Jn w2))) := by
  obtain ⟨kc, gp, bp, bn, nbs, nts, ks, n, m, N, K, r, qs, hJ⟩ := hJ
  obtain ⟨hI, hM, hR, hG, hH, hL⟩ := id hJ
  obtain ⟨gb, gc, gp8, gq⟩ := Gr8_cur hG
  obtain ⟨c8_, c40, cV⟩ := CInv_cur hI (Nat.le_refl _)
  have ref := fun (w1 : List ab_C) (hM1 : M8 w1 r) => cal8 (w := w1) (con8_keep (d + 14) kc r hG.1 hI.1) hM1 (fun _ => rfl) (fun r' v h => by rcases h with ⟨_, _, h⟩ | ⟨_, _, h⟩ <;> exact ⟨_, h⟩)
  by_cases h8 : kc = 8
  · refine Or.inl (Cal.mono (cal_keep8 (d + 14) hI h8) (fun w1 v h => ?_))
    obtain ⟨hP, rfl⟩ := h
    refine ⟨_, rfl, Cal8.mono (ref w1 (M8_post hP hM)) (fun w2 v2 h => ?_)⟩
    obtain ⟨r', hM2, e, el, h⟩ := h
    rcases h with ⟨_, rfl, rfl⟩ | ⟨h, _⟩
    · exact ⟨rfl, join hR hP hM2 e el (th0_Gr ⟨rfl, rfl, rfl, rfl, rfl, rfl, rfl, rfl, rfl⟩ hG) (ha0_HS ⟨rfl, rfl, rfl, rfl, rfl, rfl⟩ hH) (th0_LT ⟨rfl, rfl, rfl, rfl, rfl, rfl, rfl, rfl, rfl⟩ hL)⟩
    · omega
  · have hk8 : kc < 8 := by have := hI.1; omega
    obtain ⟨is, fo, wc, as, Qc, z1, z2, z3, z4, z5, z6, z7⟩ := cal_keep (d + 11) hI hk8 (by have := hR.2.2.2.2; omega)
    refine Or.inr ⟨J_sc hJ, is, fo, wc, as, Qc, z1, z2, z3, z4, z5, z6, fun w' v q => ?_⟩
    obtain ⟨⟨gp', bp', hI1⟩, e1, el1, ev⟩ := z7 w' v q
    generalize ab_put w is ((w'.take is.length).map (ab_rc (ab_rho is fo w.length))) ++ (w'.drop is.length).map (ab_rc (ab_rho is fo w.length)) = w1 at hI1 e1 el1
    refine ⟨_, ev, Cal8.mono (ref w1 (M8_out hM (fun i a b => e1 i (by omega)))) (fun w2 v2 h => ?_)⟩
    obtain ⟨r', hM2, e, el, h⟩ := h
    rcases h with ⟨h, _⟩ | ⟨_, rfl, rfl⟩
    · omega
    obtain ⟨⟨f22, h22⟩, ⟨f23, h23⟩, ⟨f25, h25⟩, ⟨f55, h55⟩, hlen⟩ := hR
    refine ⟨rfl, kc + 1, gp', bp', bn, _, _, ks, n, m, N, K, _, qs, CInv_lo hI1 e, hM2, ⟨⟨f22, at_congr ((e 22 (by omega)).trans (e1 22 (by omega))) h22⟩, ⟨f23, at_congr ((e 23 (by omega)).trans (e1 23 (by omega))) h23⟩, ⟨f25, at_congr ((e 25 (by omega)).trans (e1 25 (by omega))) h25⟩, ⟨f55, at_congr ((e 55 (by omega)).trans (e1 55 (by omega))) h55⟩, by rw [el, el1, hlen]; omega⟩, ⟨rfl, fun a ha => ?_⟩, Or.inl rfl, hL⟩
    have hb : ∀ (f : Nat → Int32) (i : Nat), i ≠ 8 → i ≠ kc → upd (upd f kc (f 8)) 8 0 i = f i := fun f i h1 h2 => by rw [upd_ot h1, upd_ot h2]
    have hbk : ∀ f : Nat → Int32, upd (upd f kc (f 8)) 8 0 kc = f 8 := fun f => by rw [upd_ot (by omega), upd_at]
    by_cases e1 : a = kc + 1
    · rw [e1, show mi (kc + 1) (kc + 1) = 8 from if_pos rfl, updN_s, updN_s]
      exact ⟨show upd (upd r.bl kc (r.bl 8)) 8 0 8 = nI 0 from upd_at, show upd (upd r.co kc (r.co 8)) 8 0 8 = nI 0 from upd_at, fun i hi => absurd hi (by omega), List.Perm.refl _⟩
    rw [updN_n e1, updN_n e1, (mi_lt (kc := kc + 1) (by omega) ha e1).1]
    by_cases e2 : a = kc
    · rw [e2]
      refine ⟨(hbk r.bl).trans gb, (hbk r.co).trans gc, fun i hi => ⟨(gp8 i hi).1, fun pl hpl => ⟨?_, ((gp8 i hi).2 pl hpl).2⟩⟩, gq⟩
      show cpk r.po kc 120 (120 * kc + 3 * i + pl) = _
      unfold cpk
      rw [if_pos (by omega), ← ((gp8 i hi).2 pl hpl).1]
      congr 1
      omega
    · have hg := hG.2 a (by omega)
      rw [(mi_lt hI.1 (by omega) e2).1] at hg
      refine ⟨(hb r.bl a (by omega) e2).trans hg.1, (hb r.co a (by omega) e2).trans hg.2.1, pts_same (CInv_cur hI (a := a) (by omega)).2.1 (fun i h1 h2 => ?_) hg.2.2.1, hg.2.2.2⟩
      show cpk r.po kc 120 i = _
      unfold cpk
      rw [if_neg (by omega)]
end SC2
