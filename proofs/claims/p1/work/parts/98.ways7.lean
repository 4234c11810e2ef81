/-! isomorphic and ways of the class, by facts. -/
theorem o_same {h : Nat → Nat} {nb cn cn' : Nat} {F F' : Nat → Int32} {o rk st o' rk' st' : Nat → Nat} (hp : PermH nb h) (hH : HR h nb F F') (hG : GP (hv F) nb o rk st cn) (hG' : GP (hv F') nb o' rk' st' cn') : ∀ j, j < nb → hv F (o j) = hv F' (o' j) := by
  have srt : ∀ {H o rk st : Nat → Nat} {cn : Nat}, GP H nb o rk st cn → ((List.range nb).map (fun j => H (o j))).Pairwise (· ≤ ·) := fun {H o rk st cn} g => by
    rw [List.pairwise_map]
    refine List.Pairwise.imp_of_mem (R := fun a b => a < b) (fun {a b} ha hb hab => ?_) List.pairwise_lt_range
    have hb := List.mem_range.mp hb
    have := g.2.1 a b hab hb
    unfold LX at this
    omega
  have p1 : ((List.range nb).map (hv F)).Perm ((List.range nb).map (fun j => hv F (o j))) := map_perm_idx hG.1 (fun i j hi hj e => gp_inj hG i j hi hj e)
  have p2 : ((List.range nb).map (hv F')).Perm ((List.range nb).map (fun j => hv F' (o' j))) := map_perm_idx hG'.1 (fun i j hi hj e => gp_inj hG' i j hi hj e)
  have p3 : ((List.range nb).map (hv F')).Perm ((List.range nb).map (fun j => hv F' (h j - 1))) := map_perm_idx (f := fun j => h j - 1) (fun i hi => by have := hp.1 i hi; show h i - 1 < nb; omega) (fun i j hi hj e => perm_inj hp hi hj (by have := hp.1 i hi; have := hp.1 j hj; have e : h i - 1 = h j - 1 := e; omega))
  have e3 : (List.range nb).map (fun j => hv F' (h j - 1)) = (List.range nb).map (hv F) := List.map_congr_left (fun j hj => (HR_hv hH (List.mem_range.mp hj)).symm)
  rw [e3] at p3
  have e := perm_sorted_eq _ _ (p1.symm.trans (p3.symm.trans p2)) (srt hG) (srt hG')
  intro j hj
  have := congrArg (fun l => l[j]?) e
  simp only [List.getElem?_map, List.getElem?_range hj, Option.map_some] at this
  exact Option.some.inj this
theorem keysOk_V {Kk : Nat → Int32} {k : Nat → Nat} {nt nb : Nat} (h : keysOk Kk k nt nb) (hr : ∀ i j, i < j → j < nt → Kk i < Kk j) : Vk k nt nb := ⟨keysOk_N h, fun i j hij hj e => by
  have := hr i j hij hj
  rw [(h i (by omega)).1, (h j hj).1, e] at this
  exact absurd this Int32.lt_irrefl⟩
/-- the class's way and the document's -/
theorem iso_way {nb nt R R' cn cn' : Nat} {k k' : Nat → Nat} {K' F F' f1 f2 f3 g1 g2 g3 : Nat → Int32} {o rk st o' rk' st' : Nat → Nat} (hnb : nb ≤ 8) (hk : Vk k nt nb) (hk' : Vk k' nt nb) (hK' : keysOk K' k' nt nb) (hH : Hsh nb nt k F R) (hG : grpOk F f1 f2 f3 nb o rk st cn) (hH' : Hsh nb nt k' F' R') (hG' : grpOk F' g1 g2 g3 nb o' rk' st' cn') : (∃ h, PermH nb h ∧ Bc k nt k' nt h) ↔ ((∀ j, j < nb → hv F (o j) = hv F' (o' j)) ∧ ∃ h2, Way k nt nb f2 K' g2 nt nb h2) := by
  have rl : ∀ {H o rk st : Nat → Nat} {cn : Nat}, GP H nb o rk st cn → ∀ c, c < nb → rk c < 8 := fun {H o rk st cn} g c hc => by
    have h1 := g.2.2.2.1 c hc
    have h2 := g.2.2.2.2.2.2.2.1
    omega
  have wi : ∀ h2, Way k nt nb f2 K' g2 nt nb h2 ↔ PermH nb h2 ∧ (∀ c, c < nb → rk c = rk' (h2 c - 1)) ∧ Bc k nt k' nt h2 := fun h2 => way_iff (nt' := nt) hk.1 (fun j hj => ⟨(hK' j hj).1, (hK' j hj).2.1⟩) (fun c hc => ⟨hG.2.2.1 c hc, rl hG.1 c hc⟩) (fun c hc => ⟨hG'.2.2.1 c hc, rl hG'.1 c hc⟩)
  constructor
  · rintro ⟨h, hp, hB⟩
    have hr := (Hsh_tr hnb hk hp hB hH hH').1
    exact ⟨o_same hp hr hG.1 hG'.1, h, (wi h).mpr ⟨hp, fun c hc => ((HR_rk hp hr hG.1 hG'.1).1 c hc).symm, hB⟩⟩
  · rintro ⟨_, h, hw⟩
    obtain ⟨h1, _, h3⟩ := (wi h).mp hw
    exact ⟨h, h1, h3⟩
/-- the current graph, a kept one, hasher, next block and the matcher anew -/
theorem CInv_mk2 {w w1 : List ab_C} {kc xi : Nat} {gp bp bp' : Nat → Nat} {bn bn' : Nat} {nbs nts : Nat → Nat} {ks : Nat → Nat → Nat} {n m : Nat} {N K : Nat → Nat} (hI : CInv w kc gp bp bn nbs nts ks n m N K) (hxi : xi < kc) (hS : Sep kc gp bp' bn') (hb : ∀ a, a < kc → a ≠ xi → bp' a = bp a) (h7 : C7A w1 kc (gp kc)) (hH : ∃ s len D, HaA w1 bn' s len D) (hB : ∃ ce E e1 e2 e3, BlA w1 bn' ce E e1 e2 e3) (hG : GOk w1 (gp kc) (bp' kc) (nbs kc) (nts kc) (ks kc)) (hGt : GOk w1 (gp xi) (bp' xi) (nbs xi) (nts xi) (ks xi)) (hM : ∃ (I La : Nat → Int32) (g : Nat → Nat), MaA w1 I La ∧ ∀ j, j < 8 → I j = nI (g j) ∧ g j ≤ 8) (hk : KeA w1 gp kc) (hmid : ∀ i, 14 ≤ i → i < 28 → w1[i]? = w[i]?) (hoth : ∀ a, a < kc → a ≠ xi → ∀ i, (gp a ≤ i ∧ i < gp a + 2) ∨ (bp a ≤ i ∧ i < bp a + 5) → w1[i]? = w[i]?) : CInv w1 kc gp bp' bn' nbs nts ks n m N K := by
  obtain ⟨h1, _, _, _, h5, h6, _, _⟩ := hI
  obtain ⟨I, La, g, hM, hIg⟩ := hM
  refine ⟨h1, h7, hH, hB, fun a ha => ?_, ?_, hk, hS⟩
  · by_cases e : a = kc
    · rw [e]; exact hG
    by_cases e2 : a = xi
    · rw [e2]; exact hGt
    rw [hb a (by omega) e2]
    exact GOk_out (hoth a (by omega) e2) (h5 a ha)
  · obtain ⟨I0, La0, fd, P, Qb, tr, dg, hs', ro', Kf, cv', RF, Nn, Dg, gI, gP, gQ, ⟨a1, a2, a3, a4, a5, a6, a7⟩, ⟨b1, b2, b3, b4, b5, b6, b7⟩, h3, h4⟩ := h6
    exact ⟨I, La, fd, P, Qb, tr, dg, hs', ro', Kf, cv', RF, Nn, Dg, g, gP, gQ, ⟨hM.1, hM.2.1, hM.2.2, at_congr (hmid _ (by omega) (by omega)) a4, at_congr (hmid _ (by omega) (by omega)) a5, at_congr (hmid _ (by omega) (by omega)) a6, at_congr (hmid _ (by omega) (by omega)) a7⟩, ⟨at_congr (hmid _ (by omega) (by omega)) b1, at_congr (hmid _ (by omega) (by omega)) b2, at_congr (hmid _ (by omega) (by omega)) b3, at_congr (hmid _ (by omega) (by omega)) b4, at_congr (hmid _ (by omega) (by omega)) b5, at_congr (hmid _ (by omega) (by omega)) b6, at_congr (hmid _ (by omega) (by omega)) b7⟩, hIg, h4⟩
theorem nm29 {x g b t z i : Nat} (h0 : 6 ≤ i) (h4 : i < 11 ∨ 14 ≤ i) (h5 : i ≠ 28) (h1 : i < x ∨ x + 5 ≤ i) (h2 : i < g ∨ g + 2 ≤ i) (h3 : i < b ∨ b + 5 ≤ i) (h6 : i < t ∨ t + 2 ≤ i) (h7 : i < z ∨ z + 5 ≤ i) : i ∉ IS29 x g b t z := by
  intro h
  simp at h
  omega
/-- what isomorphic and ways leave -/
theorem CInv_ref2 {w w1 : List ab_C} {kc xi : Nat} {gp bp : Nat → Nat} {bn : Nat} {nbs nts : Nat → Nat} {ks : Nat → Nat → Nat} {n m : Nat} {N K : Nat → Nat} (hI : CInv w kc gp bp bn nbs nts ks n m N K) (hxi : xi < kc) {s : SS} {len : Int32} {D : Nat → Int32} {hs ro : Int32} {Kk : Nat → Int32} {hs' ro' : Int32} {Kt : Nat → Int32} {cX cY cZ : Int32} {FX X1 X2 X3 FY Y1 Y2 Y3 FZ Z1 Z2 Z3 I La : Nat → Int32} (hh : HaA w bn s len D) (hg : GrA w (gp kc) (bp kc) (nbs kc) (nts kc) hs ro Kk) (hX : BlA w bn cX FX X1 X2 X3) (hY : BlA w (bp kc) cY FY Y1 Y2 Y3) (hM : MaA w I La) (hgt : GrA w (gp xi) (bp xi) (nbs xi) (nts xi) hs' ro' Kt) (hZ : BlA w (bp xi) cZ FZ Z1 Z2 Z3) (hkk : keysOk Kk (ks kc) (nts kc) (nbs kc)) (hri : ∀ i j, i < j → j < nts kc → Kk i < Kk j) (hkt : keysOk Kt (ks xi) (nts xi) (nbs xi)) (hrt : ∀ i j, i < j → j < nts xi → Kt i < Kt j) {R : Nat} {F2 f1 f2 f3 E' x1 x2 x3 : Nat → Int32} {ce' : Int32} {o rk st : Nat → Nat} {cn : Nat} (hHs : Hsh (nbs kc) (nts kc) (ks kc) F2 R) (hGr : grpOk F2 f1 f2 f3 (nbs kc) o rk st cn) {s4 : SS} {len4 : Int32} {D4 : Nat → Int32} {R' : Nat} {F4 g1 g2 g3 : Nat → Int32} {o' rk' st' : Nat → Nat} {cn' : Nat} (hHs' : Hsh (nbs xi) (nts xi) (ks xi) F4 R') (hGr' : grpOk F4 g1 g2 g3 (nbs xi) o' rk' st' cn') {I2 La2 : Nat → Int32} {h : Nat → Nat} (hI2 : ∀ j, j < 8 → I2 j = nI (h j) ∧ h j ≤ 8) {w' : List ab_C} (hq : w' = (iW (fun j => if j = xi then 121 else 6 + j) kc 106 113 123 4 5 s4 len4 D4 ce' E' x1 x2 x3 (nbs kc) (nts kc) 1 (nI R) Kk (nI cn) F2 f1 f2 f3 I2 La2 (nbs xi) (nts xi) 1 (nI R') Kt (nI cn') F4 g1 g2 g3) ∨ w' = (iW (fun j => if j = xi then 121 else 6 + j) kc 123 113 106 4 5 s4 len4 D4 (nI cn') F4 g1 g2 g3 (nbs kc) (nts kc) 1 (nI R) Kk (nI cn) F2 f1 f2 f3 I2 La2 (nbs xi) (nts xi) 1 (nI R') Kt ce' E' x1 x2 x3) ∨ w' = (iW (fun j => if j = xi then 121 else 6 + j) kc 113 106 123 4 5 s4 len4 D4 (nI cn) F2 f1 f2 f3 (nbs kc) (nts kc) 1 (nI R) Kk ce' E' x1 x2 x3 I2 La2 (nbs xi) (nts xi) 1 (nI R') Kt (nI cn') F4 g1 g2 g3) ∨ w' = (iW (fun j => if j = xi then 121 else 6 + j) kc 123 106 113 4 5 s4 len4 D4 (nI cn) F2 f1 f2 f3 (nbs kc) (nts kc) 1 (nI R) Kk (nI cn') F4 g1 g2 g3 I2 La2 (nbs xi) (nts xi) 1 (nI R') Kt ce' E' x1 x2 x3)) (hw1 : w1 = (ab_put w (IS29 bn (gp kc) (bp kc) (gp xi) (bp xi)) (w'.map (ab_rc (ab_rho (IS29 bn (gp kc) (bp kc) (gp xi) (bp xi)) (FO29 gp) w.length))))) : CPost w kc gp nbs nts ks n m N K w1 := by
  obtain ⟨i1, i2, i3, i4, i5, i6, i7, i8⟩ := id hI
  obtain ⟨z1, z2, z3, z4, z5, z6, z7, z8⟩ := id i8
  have lk := Nat.le_refl kc
  have lx : xi ≤ kc := by omega
  have hn : (IS29 bn (gp kc) (bp kc) (gp xi) (bp xi)).Nodup := nd29 z3 (z1 kc lk) (z2 kc lk) (z1 xi lx) (z2 xi lx) (z7 kc lk) (z8 kc lk) (z6 kc kc lk lk) (z4 kc xi lk lx (by omega)) (z8 xi lx) (z6 xi kc lx lk) (z7 xi lx) (z5 kc xi lk lx (by omega)) (z6 kc xi lk lx) (z6 xi xi lx lx)
  obtain ⟨_, _, _, _, _, _, _, _, _, _, g8, g40, _, _, _⟩ := i5 kc lk
  obtain ⟨_, _, _, _, _, _, _, _, _, _, t8, t40, _, _, _⟩ := i5 xi lx
  have hmid : ∀ (i : Nat), (14 ≤ i ∧ i < 28) ∨ (36 ≤ i ∧ i < 56) → w1[i]? = w[i]? := fun i hi => by
    rw [hw1]
    exact put_out (nm29 (by omega) (by omega) (by omega) (by omega) (by have := z1 kc lk; omega) (by have := z2 kc lk; omega) (by have := z1 xi lx; omega) (by have := z2 xi lx; omega))
  have hoth : ∀ (a : Nat), a < kc → a ≠ xi → ∀ i, (gp a ≤ i ∧ i < gp a + 2) ∨ (bp a ≤ i ∧ i < bp a + 5) → w1[i]? = w[i]? := fun a ha hax i hi => by
    have la : a ≤ kc := by omega
    rw [hw1]
    exact put_out (nm29 (by have := z1 a la; have := z2 a la; omega) (by have := z1 a la; have := z2 a la; omega) (by have := z1 a la; have := z2 a la; omega) (by have := z7 a la; have := z8 a la; omega) (by have := z4 a kc la lk (by omega); have := z6 kc a lk la; omega) (by have := z5 a kc la lk (by omega); have := z6 a kc la lk; omega) (by have := z4 a xi la lx hax; have := z6 xi a lx la; omega) (by have := z5 a xi la lx hax; have := z6 a xi la lx; omega))
  refine ⟨?_, fun i hi => hmid i (by omega), by rw [hw1]; exact ab_put_len _ _ _⟩
  have hmm : ∀ i, 14 ≤ i → i < 28 → w1[i]? = w[i]? := fun i a b => hmid i (Or.inl ⟨a, b⟩)
  rcases hq with hq | hq | hq | hq
  all_goals rw [hq] at hw1
  · obtain ⟨p1, p2, p3, p4, p5, p6, p7, p8, p9⟩ := iput11 (x := bn) (g := gp kc) (b := bp kc) (t := gp xi) (z := bp xi) (xi := xi) (gp := gp) i1 rfl hn i2 hh hg hX hY hM hgt hZ i7 s4 len4 D4 ce' E' x1 x2 x3 (nbs kc) (nts kc) 1 (nI R) Kk (nI cn) F2 f1 f2 f3 I2 La2 (nbs xi) (nts xi) 1 (nI R') Kt (nI cn') F4 g1 g2 g3 hw1
    have u1 : bp kc = bp kc := rfl
    have u2 : bp xi = bp xi := rfl
    refine ⟨bp, bn, CInv_mk2 hI hxi i8 (fun a ha hx => rfl) p1 ⟨_, _, _, p2⟩ ⟨_, _, _, _, _, p4⟩ ?_ ?_ ⟨_, _, _, p6, hI2⟩ p9 hmm hoth⟩
    · rw [u1]
      exact ⟨1, nI R, Kk, nI cn, F2, f1, f2, f3, p3, p5, g8, g40, hkk, hri, Or.inr ⟨rfl, R, o, rk, st, cn, rfl, rfl, hHs, hGr⟩⟩
    · rw [u2]
      exact ⟨1, nI R', Kt, nI cn', F4, g1, g2, g3, p7, p8, t8, t40, hkt, hrt, Or.inr ⟨rfl, R', o', rk', st', cn', rfl, rfl, hHs', hGr'⟩⟩
  · obtain ⟨p1, p2, p3, p4, p5, p6, p7, p8, p9⟩ := iput12 (x := bn) (g := gp kc) (b := bp kc) (t := gp xi) (z := bp xi) (xi := xi) (gp := gp) i1 rfl hn i2 hh hg hX hY hM hgt hZ i7 s4 len4 D4 (nI cn') F4 g1 g2 g3 (nbs kc) (nts kc) 1 (nI R) Kk (nI cn) F2 f1 f2 f3 I2 La2 (nbs xi) (nts xi) 1 (nI R') Kt ce' E' x1 x2 x3 hw1
    have u1 : (updN bp xi bn) kc = bp kc := updN_n (by omega)
    have u2 : (updN bp xi bn) xi = bn := updN_s
    refine ⟨(updN bp xi bn), (bp xi), CInv_mk2 hI hxi (Sep_at lx i8) (fun a ha hx => updN_n hx) p1 ⟨_, _, _, p2⟩ ⟨_, _, _, _, _, p8⟩ ?_ ?_ ⟨_, _, _, p6, hI2⟩ p9 hmm hoth⟩
    · rw [u1]
      exact ⟨1, nI R, Kk, nI cn, F2, f1, f2, f3, p3, p5, g8, g40, hkk, hri, Or.inr ⟨rfl, R, o, rk, st, cn, rfl, rfl, hHs, hGr⟩⟩
    · rw [u2]
      exact ⟨1, nI R', Kt, nI cn', F4, g1, g2, g3, p7, p4, t8, t40, hkt, hrt, Or.inr ⟨rfl, R', o', rk', st', cn', rfl, rfl, hHs', hGr'⟩⟩
  · obtain ⟨p1, p2, p3, p4, p5, p6, p7, p8, p9⟩ := iput21 (x := bn) (g := gp kc) (b := bp kc) (t := gp xi) (z := bp xi) (xi := xi) (gp := gp) i1 rfl hn i2 hh hg hX hY hM hgt hZ i7 s4 len4 D4 (nI cn) F2 f1 f2 f3 (nbs kc) (nts kc) 1 (nI R) Kk ce' E' x1 x2 x3 I2 La2 (nbs xi) (nts xi) 1 (nI R') Kt (nI cn') F4 g1 g2 g3 hw1
    have u1 : (updN bp kc bn) kc = bn := updN_s
    have u2 : (updN bp kc bn) xi = bp xi := updN_n (by omega)
    refine ⟨(updN bp kc bn), (bp kc), CInv_mk2 hI hxi (Sep_at lk i8) (fun a ha hx => updN_n (by omega)) p1 ⟨_, _, _, p2⟩ ⟨_, _, _, _, _, p5⟩ ?_ ?_ ⟨_, _, _, p6, hI2⟩ p9 hmm hoth⟩
    · rw [u1]
      exact ⟨1, nI R, Kk, nI cn, F2, f1, f2, f3, p3, p4, g8, g40, hkk, hri, Or.inr ⟨rfl, R, o, rk, st, cn, rfl, rfl, hHs, hGr⟩⟩
    · rw [u2]
      exact ⟨1, nI R', Kt, nI cn', F4, g1, g2, g3, p7, p8, t8, t40, hkt, hrt, Or.inr ⟨rfl, R', o', rk', st', cn', rfl, rfl, hHs', hGr'⟩⟩
  · obtain ⟨p1, p2, p3, p4, p5, p6, p7, p8, p9⟩ := iput22 (x := bn) (g := gp kc) (b := bp kc) (t := gp xi) (z := bp xi) (xi := xi) (gp := gp) i1 rfl hn i2 hh hg hX hY hM hgt hZ i7 s4 len4 D4 (nI cn) F2 f1 f2 f3 (nbs kc) (nts kc) 1 (nI R) Kk (nI cn') F4 g1 g2 g3 I2 La2 (nbs xi) (nts xi) 1 (nI R') Kt ce' E' x1 x2 x3 hw1
    have u1 : (updN (updN bp kc bn) xi (bp kc)) kc = bn := (updN_n (by omega)).trans updN_s
    have u2 : (updN (updN bp kc bn) xi (bp kc)) xi = bp kc := updN_s
    refine ⟨(updN (updN bp kc bn) xi (bp kc)), (bp xi), CInv_mk2 hI hxi (by have := Sep_at lx (Sep_at lk i8); rw [show updN bp kc bn xi = bp xi from updN_n (by omega)] at this; exact this) (fun a ha hx => (updN_n hx).trans (updN_n (by omega))) p1 ⟨_, _, _, p2⟩ ⟨_, _, _, _, _, p8⟩ ?_ ?_ ⟨_, _, _, p6, hI2⟩ p9 hmm hoth⟩
    · rw [u1]
      exact ⟨1, nI R, Kk, nI cn, F2, f1, f2, f3, p3, p4, g8, g40, hkk, hri, Or.inr ⟨rfl, R, o, rk, st, cn, rfl, rfl, hHs, hGr⟩⟩
    · rw [u2]
      exact ⟨1, nI R', Kt, nI cn', F4, g1, g2, g3, p7, p5, t8, t40, hkt, hrt, Or.inr ⟨rfl, R', o', rk', st', cn', rfl, rfl, hHs', hGr'⟩⟩
section CL4
variable {w : List ab_C} {kc : Nat} {gp bp : Nat → Nat} {bn : Nat} {nbs nts : Nat → Nat} {ks : Nat → Nat → Nat} {n m : Nat} {N K : Nat → Nat}
theorem cal_isomorphic (d x : Nat) (hI : CInv w kc gp bp bn nbs nts ks n m N K) (hx : x < kc) : Cal mX7_isomorphic (d + 14) w [.ref 100, .int (nI x)] (fun w1 v => CPost w kc gp nbs nts ks n m N K w1 ∧ (((¬ (nbs kc = nbs x ∧ nts kc = nts x)) ∧ v = some (.int 0)) ∨ ((nbs kc = nbs x ∧ nts kc = nts x) ∧ v = some (.int (if 0 < nP (nbs kc) (Bc (ks kc) (nts kc) (ks x) (nts x)) (9 ^ nbs kc) then 1 else 0))))) := by
  obtain ⟨i1, i2, ⟨s, len, D, hh⟩, ⟨cX, FX, X1, X2, X3, hX⟩, i5, i6, i7, i8⟩ := id hI
  obtain ⟨hs, ro, Kk, cY, FY, Y1, Y2, Y3, hg, hY, g8, g40, hkk, hri, hHS⟩ := i5 kc (Nat.le_refl _)
  obtain ⟨hs', ro', Kt, cZ, FZ, Z1, Z2, Z3, hgt, hZ, t8, t40, hkt, hrt, hHt⟩ := i5 x (by omega)
  obtain ⟨I, La, fd, P, Qb, tr, dg, hs'', ro'', Kf, cv', RF, Nn, Dg, gI, gP, gQ, ⟨a1, a2, a3, _⟩, _, hIg, _⟩ := id i6
  have hM : MaA w I La := ⟨a1, a2, a3⟩
  obtain ⟨z1, z2, z3, z4, z5, z6, z7, z8⟩ := id i8
  have lk := Nat.le_refl kc
  have lx : x ≤ kc := by omega
  have hn : (IS29 bn (gp kc) (bp kc) (gp x) (bp x)).Nodup := nd29 z3 (z1 kc lk) (z2 kc lk) (z1 x lx) (z2 x lx) (z7 kc lk) (z8 kc lk) (z6 kc kc lk lk) (z4 kc x lk lx (by omega)) (z8 x lx) (z6 x kc lx lk) (z7 x lx) (z5 kc x lk lx (by omega)) (z6 kc x lk lx) (z6 x x lx lx)
  have ex : (nI x).toInt = x := nI_toInt (by omega)
  have exn : (nI x).toInt.toNat = x := by rw [ex]; rfl
  have hf := ifit (xi := x) i1 rfl i2 hh hg hX hY hM hgt hZ i7
  have V1 := keysOk_V hkk hri
  have V2 := keysOk_V hkt hrt
  refine ⟨IS29 bn (gp kc) (bp kc) (gp x) (bp x), FO29 gp, _, [.ref 100, .int (nI x)], _, con_isomorphic d (nbs kc) (nts kc) (nbs x) (nts x) g8 g40 t8 t40 4 5 kc i1 (fun j => if j = x then 121 else 6 + j) (nI x) (by rw [ex]; omega) (by rw [exn]; exact if_pos rfl) s len hs ro hs' ro' D Kk Kt (ks kc) (ks x) cX FX X1 X2 X3 cY FY Y1 Y2 Y3 cZ FZ Z1 Z2 Z3 hkk hri hHS hkt hHt hrt I La gI hIg, hf, nd_of hn, rfl, fun w' v h => ?_, fun w' v h => ?_⟩
  · rcases h with ⟨_, h, _⟩ | ⟨_, _, _, _, _, _, _, _, _, _, _, _, _, _, _, _, _, _, _, _, _, _, _, _, _, _, _, _, _, _, _, _, _, _, _, _, _, _, _, _, _, _, h, _⟩
    · rw [h]
    · rcases h with h | h | h | h <;> rw [h] <;> exact (rfl : (29 : Nat) = 29)
  · rcases h with ⟨hne, rfl, rfl⟩ | ⟨heq, s2, len2, D2, R, F2, f1, f2, f3, E, e1, e2, e3, ce, o, rk, st, cn, hHs, hGr, s4, len4, D4, R', F4, g1, g2, g3, E', x1, x2, x3, ce', o', rk', st', cn', hHs', hGr', I2, La2, h, hq, hI2, hv⟩
    · rw [hf.same]
      exact ⟨CPost_same hI, Or.inl ⟨hne, rfl⟩⟩
    · refine ⟨CInv_ref2 hI hx hh hg hX hY hM hgt hZ hkk hri hkt hrt hHs hGr hHs' hGr' hI2 hq rfl, Or.inr ⟨heq, ?_⟩⟩
      obtain ⟨en, et⟩ := heq
      rw [← en, ← et] at V2 hkt hHs' hv
      rw [← en] at hGr'
      rw [← et]
      have hw := iso_way g8 V1 V2 hkt hHs hGr hHs' hGr'
      have hp := nP_pos g8 (Bc_loc (q' := ks x) (nt' := nts kc) V1.1)
      rcases hv with ⟨q, rfl⟩ | ⟨q, ⟨q2, rfl⟩ | ⟨q2, rfl⟩⟩
      · rw [if_neg (fun z => q (hw.mp (hp.mp z)).1)]; rfl
      · rw [if_pos (hp.mpr (hw.mpr ⟨q, q2⟩))]; rfl
      · rw [if_neg (fun z => q2 (hw.mp (hp.mp z)).2)]; rfl
theorem cal_ways (d x : Nat) (hI : CInv w kc gp bp bn nbs nts ks n m N K) (hx : x < kc) : Cal mX7_ways (d + 14) w [.ref 100, .int (nI x)] (fun w1 v => CPost w kc gp nbs nts ks n m N K w1 ∧ (((¬ (nbs kc = nbs x ∧ nts kc = nts x)) ∧ v = some (.int 0)) ∨ ((nbs kc = nbs x ∧ nts kc = nts x) ∧ v = some (.int (nI (nP (nbs kc) (Bc (ks kc) (nts kc) (ks x) (nts x)) (9 ^ nbs kc))))))) := by
  obtain ⟨i1, i2, ⟨s, len, D, hh⟩, ⟨cX, FX, X1, X2, X3, hX⟩, i5, i6, i7, i8⟩ := id hI
  obtain ⟨hs, ro, Kk, cY, FY, Y1, Y2, Y3, hg, hY, g8, g40, hkk, hri, hHS⟩ := i5 kc (Nat.le_refl _)
  obtain ⟨hs', ro', Kt, cZ, FZ, Z1, Z2, Z3, hgt, hZ, t8, t40, hkt, hrt, hHt⟩ := i5 x (by omega)
  obtain ⟨I, La, fd, P, Qb, tr, dg, hs'', ro'', Kf, cv', RF, Nn, Dg, gI, gP, gQ, ⟨a1, a2, a3, _⟩, _, hIg, _⟩ := id i6
  have hM : MaA w I La := ⟨a1, a2, a3⟩
  obtain ⟨z1, z2, z3, z4, z5, z6, z7, z8⟩ := id i8
  have lk := Nat.le_refl kc
  have lx : x ≤ kc := by omega
  have hn : (IS29 bn (gp kc) (bp kc) (gp x) (bp x)).Nodup := nd29 z3 (z1 kc lk) (z2 kc lk) (z1 x lx) (z2 x lx) (z7 kc lk) (z8 kc lk) (z6 kc kc lk lk) (z4 kc x lk lx (by omega)) (z8 x lx) (z6 x kc lx lk) (z7 x lx) (z5 kc x lk lx (by omega)) (z6 kc x lk lx) (z6 x x lx lx)
  have ex : (nI x).toInt = x := nI_toInt (by omega)
  have exn : (nI x).toInt.toNat = x := by rw [ex]; rfl
  have hf := ifit (xi := x) i1 rfl i2 hh hg hX hY hM hgt hZ i7
  have V1 := keysOk_V hkk hri
  have V2 := keysOk_V hkt hrt
  refine ⟨IS29 bn (gp kc) (bp kc) (gp x) (bp x), FO29 gp, _, [.ref 100, .int (nI x)], _, con_ways d (nbs kc) (nts kc) (nbs x) (nts x) g8 g40 t8 t40 4 5 kc i1 (fun j => if j = x then 121 else 6 + j) (nI x) (by rw [ex]; omega) (by rw [exn]; exact if_pos rfl) s len hs ro hs' ro' D Kk Kt (ks kc) (ks x) cX FX X1 X2 X3 cY FY Y1 Y2 Y3 cZ FZ Z1 Z2 Z3 hkk hri hHS hkt hHt hrt I La gI hIg, hf, nd_of hn, rfl, fun w' v h => ?_, fun w' v h => ?_⟩
  · rcases h with ⟨_, h, _⟩ | ⟨_, _, _, _, _, _, _, _, _, _, _, _, _, _, _, _, _, _, _, _, _, _, _, _, _, _, _, _, _, _, _, _, _, _, _, _, _, _, _, _, _, _, h, _⟩
    · rw [h]
    · rcases h with h | h | h | h <;> rw [h] <;> exact (rfl : (29 : Nat) = 29)
  · rcases h with ⟨hne, rfl, rfl⟩ | ⟨heq, s2, len2, D2, R, F2, f1, f2, f3, E, e1, e2, e3, ce, o, rk, st, cn, hHs, hGr, s4, len4, D4, R', F4, g1, g2, g3, E', x1, x2, x3, ce', o', rk', st', cn', hHs', hGr', I2, La2, h, hq, hI2, hv⟩
    · rw [hf.same]
      exact ⟨CPost_same hI, Or.inl ⟨hne, rfl⟩⟩
    · refine ⟨CInv_ref2 hI hx hh hg hX hY hM hgt hZ hkk hri hkt hrt hHs hGr hHs' hGr' hI2 hq rfl, Or.inr ⟨heq, ?_⟩⟩
      obtain ⟨en, et⟩ := heq
      rw [← en, ← et] at V2 hkt hHs' hv
      rw [← en] at hGr'
      rw [← et]
      have hw := iso_way g8 V1 V2 hkt hHs hGr hHs' hGr'
      have hp := nP_pos g8 (Bc_loc (q' := ks x) (nt' := nts kc) V1.1)
      have z0 : (¬ ∃ h, PermH (nbs kc) h ∧ Bc (ks kc) (nts kc) (ks x) (nts kc) h) → nP (nbs kc) (Bc (ks kc) (nts kc) (ks x) (nts kc)) (9 ^ nbs kc) = 0 := fun q => by
        exact Nat.eq_zero_of_not_pos (fun z => q (hp.mp z))
      rcases hv with ⟨q, rfl⟩ | ⟨q, ⟨q2, rfl⟩ | ⟨q2, rfl⟩⟩
      · rw [z0 (fun z => q (hw.mp z).1)]; rfl
      · obtain ⟨h0, hp0, hB0⟩ := hw.mpr ⟨q, q2⟩
        rw [ways_aut g8 V1 V2 hp0 hB0, ← aut_eq (rk := rk) (R := f2) (K := Kk) g8 V1 (fun j hj => ⟨(hkk j hj).1, (hkk j hj).2.1⟩) (fun c hc => ⟨hGr.2.2.1 c hc, by have h1 := hGr.1.2.2.2.1 c hc; have h2 := hGr.1.2.2.2.2.2.2.2.1; omega⟩) (fun h h1 h2 => auto_rank g8 V1 hHs hGr.1 h1 h2)]
        rfl
      · rw [z0 (fun z => q2 (hw.mp z).2)]; rfl
end CL4
