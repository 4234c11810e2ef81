/-! Hashes are alike for graphs that become each other. -/
/-- keys: of the graph's points, no two the same -/
def Vk (k : Nat → Nat) (nt nb : Nat) : Prop := keyN_ k nt nb ∧ ∀ i j, i < j → j < nt → k i ≠ k j
theorem Vk_inj {k : Nat → Nat} {nt nb : Nat} (h : Vk k nt nb) {i j : Nat} (hi : i < nt) (hj : j < nt) (e : k i = k j) : i = j := by
  rcases Nat.lt_trichotomy i j with q | q | q
  · exact absurd e (h.2 i j q hj)
  · exact q
  · exact absurd e.symm (h.2 j i q hi)
theorem perm_inj {n : Nat} {h : Nat → Nat} (hp : PermH n h) {i j : Nat} (hi : i < n) (hj : j < n) (e : h i = h j) : i = j := by
  rcases Nat.lt_trichotomy i j with q | q | q
  · exact absurd e (hp.2 i j q hj)
  · exact q
  · exact absurd e.symm (hp.2 j i q hi)
theorem rn_lo {n : Nat} (hn : n ≤ 8) {h : Nat → Nat} (hp : PermH n h) {P : Nat} (hP : P < 8) (hPn : 7 - P < n) : rn h P = 8 - h (7 - P) ∧ rn h P < 8 ∧ 7 - rn h P = h (7 - P) - 1 := by
  have := hp.1 _ hPn
  unfold rn
  rw [if_pos hP]
  omega
theorem rn_hi {h : Nat → Nat} {P : Nat} (hP : 8 ≤ P) : rn h P = P := by unfold rn; rw [if_neg (by omega)]
theorem rn_inj {n : Nat} (hn : n ≤ 8) {h : Nat → Nat} (hp : PermH n h) {P P' : Nat} (hP : P < 8 → 7 - P < n) (hP' : P' < 8 → 7 - P' < n) (e : rn h P = rn h P') : P = P' := by
  by_cases a : P < 8
  · obtain ⟨a1, a2, a3⟩ := rn_lo hn hp a (hP a)
    by_cases b : P' < 8
    · obtain ⟨b1, b2, b3⟩ := rn_lo hn hp b (hP' b)
      have c := hp.1 _ (hP a)
      have d := hp.1 _ (hP' b)
      have := perm_inj hp (hP a) (hP' b) (by omega)
      omega
    · rw [rn_hi (P := P') (by omega)] at e; omega
  · rw [rn_hi (P := P) (by omega)] at e
    by_cases b : P' < 8
    · obtain ⟨b1, b2, b3⟩ := rn_lo hn hp b (hP' b); omega
    · rw [rn_hi (P := P') (by omega)] at e; omega
theorem rnK_inj {n : Nat} (hn : n ≤ 8) {h : Nat → Nat} (hp : PermH n h) {K K' : Nat} (hK : keyK K n) (hK' : keyK K' n) (e : rnK h K = rnK h K') : K = K' :=
  kp_ext hK.1 hK'.1 (fun p hp3 => rn_inj hn hp (hK.2 p hp3).2 (hK'.2 p hp3).2 (by rw [← kp_rnK h K p hp3, ← kp_rnK h K' p hp3, e]))
theorem map_perm_idx {g : Nat → Nat} {n : Nat} {f : Nat → Nat} (h1 : ∀ i, i < n → f i < n) (h2 : ∀ i j, i < n → j < n → f i = f j → i = j) : ((List.range n).map g).Perm ((List.range n).map (fun i => g (f i))) := by
  have hf : ((List.range n).map f).Perm (List.range n) := by
    refine (List.perm_ext_iff_of_nodup ?_ List.nodup_range).mpr (fun a => ?_)
    · rw [List.nodup_iff_pairwise_ne, List.pairwise_map]
      refine List.Pairwise.imp_of_mem ?_ (List.nodup_iff_pairwise_ne.mp (List.nodup_range (n := n)))
      intro i j hi hj hne e
      exact hne (h2 i j (List.mem_range.mp hi) (List.mem_range.mp hj) e)
    · rw [List.mem_map, List.mem_range]
      constructor
      · rintro ⟨i, hi, rfl⟩; exact h1 i (List.mem_range.mp hi)
      · intro ha
        obtain ⟨j, hj, e⟩ := sur_of_inj n f h1 (fun i j hij hj e => by have := h2 i j (by omega) hj e; omega) a ha
        exact ⟨j, List.mem_range.mpr hj, e⟩
  have := (hf.map g).symm
  rw [List.map_map] at this
  exact this
theorem Bc_perm {k k' h : Nat → Nat} {nt nb : Nat} (hnb : nb ≤ 8) (hk : Vk k nt nb) (hp : PermH nb h) (hB : Bc k nt k' nt h) : ((List.range nt).map k').Perm ((List.range nt).map (fun i => rnK h (k i))) := by
  have hc : ∃ f : Nat → Nat, ∀ i, i < nt → f i < nt ∧ k' (f i) = rnK h (k i) := by
    refine ⟨fun i => if hi : i < nt then Classical.choose (hB i hi) else 0, fun i hi => ?_⟩
    have := Classical.choose_spec (hB i hi)
    simp only [hi, dite_true]
    exact this
  obtain ⟨f, hf⟩ := hc
  refine (map_perm_idx (g := k') (f := f) (fun i hi => (hf i hi).1) (fun i j hi hj e => ?_)).trans (List.Perm.of_eq ?_)
  · have e1 := (hf i hi).2
    rw [e, (hf j hj).2] at e1
    exact Vk_inj hk hi hj (rnK_inj hnb hp (hk.1 j hj) (hk.1 i hi) e1).symm
  · exact List.map_congr_left (fun i hi => (hf i (List.mem_range.mp hi)).2)
theorem dls_eq (b : Nat) (rk k : Nat → Nat) : ∀ n, dls b rk k n = (((List.range n).map k).filter (std_ b)).map (dsc b rk)
  | 0 => rfl
  | n + 1 => by
    rw [List.range_succ, List.map_append, List.filter_append, List.map_append, ← dls_eq b rk k n, dls]
    by_cases h : std_ b (k n) = true
    · rw [if_pos h]; simp [h]
    · rw [if_neg h]; simp [h]
/-- the hashes F' of the other graph stand where h takes the blanks -/
def HR (h : Nat → Nat) (nb : Nat) (F F' : Nat → Int32) : Prop := ∀ b j, b < nb → j < 8 → F (b * 8 + j) = F' ((h b - 1) * 8 + j)
theorem HR_hv {h : Nat → Nat} {nb : Nat} {F F' : Nat → Int32} (hH : HR h nb F F') {b : Nat} (hb : b < nb) : hv F b = hv F' (h b - 1) := hvx_eq.mpr (fun j hj => hH b j hb hj)
theorem rank_eq {n cf cg : Nat} {f g : Nat → Nat} (ho : ∀ b c, b < n → c < n → (f b ≤ f c ↔ g b ≤ g c)) (hf : ∀ v, v < cf → ∃ b, b < n ∧ f b = v) (hfl : ∀ b, b < n → f b < cf) (hg : ∀ v, v < cg → ∃ b, b < n ∧ g b = v) (hgl : ∀ b, b < n → g b < cg) : ∀ v b, b < n → f b = v → g b = v := by
  intro v
  induction v using Nat.strongRecOn with
  | ind v ih =>
    intro b hb e
    have hge : v ≤ g b := by
      rcases Nat.lt_or_ge (g b) v with q | q
      · obtain ⟨c, hc, ec⟩ := hf (g b) (by have := hfl b hb; omega)
        have h1 := ih (g b) q c hc ec
        have h2 := ho b c hb hc
        omega
      · exact q
    rcases Nat.lt_or_ge v (g b) with q | q
    · obtain ⟨c, hc, ec⟩ := hg v (by have := hgl b hb; omega)
      have h2 := ho b c hb hc
      have h3 := ho c b hc hb
      have h4 : f c < v := by omega
      have := ih (f c) h4 c hc rfl
      omega
    · omega
theorem gp_all {H o rk st : Nat → Nat} {n cn : Nat} (h : GP H n o rk st cn) {v : Nat} (hv : v < cn) : ∃ b, b < n ∧ rk b = v := ⟨o (st v), h.1 _ (gp_stlt h hv), (h.2.2.2.2.2.1 v hv).2⟩
theorem HR_rk {h : Nat → Nat} {nb cn cn' : Nat} {F F' : Nat → Int32} {o rk st o' rk' st' : Nat → Nat} (hp : PermH nb h) (hH : HR h nb F F') (hG : GP (hv F) nb o rk st cn) (hG' : GP (hv F') nb o' rk' st' cn') : (∀ b, b < nb → rk' (h b - 1) = rk b) ∧ cn = cn' := by
  have hl : ∀ b, b < nb → h b - 1 < nb := fun b hb => by have := hp.1 b hb; omega
  have a := rank_eq (n := nb) (cf := cn) (cg := cn') (f := rk) (g := fun b => rk' (h b - 1)) (fun b c hb hc => by
      show rk b ≤ rk c ↔ rk' (h b - 1) ≤ rk' (h c - 1)
      rw [hG.2.2.1 b c hb hc, hG'.2.2.1 _ _ (hl b hb) (hl c hc), HR_hv hH hb, HR_hv hH hc]) (fun v hv => gp_all hG hv) (fun b hb => hG.2.2.2.1 b hb) (fun v hv => by
      obtain ⟨c, hc, e⟩ := gp_all hG' hv
      obtain ⟨b, hb, eb⟩ := perm_sur hp (v := c + 1) (by omega) (by omega)
      exact ⟨b, hb, by show rk' (h b - 1) = v; rw [eb]; exact e⟩) (fun b hb => hG'.2.2.2.1 _ (hl b hb))
  have a2 : ∀ b, b < nb → rk' (h b - 1) = rk b := fun b hb => a _ b hb rfl
  refine ⟨a2, ?_⟩
  have c1 : cn ≤ cn' := by
    rcases Nat.eq_zero_or_pos cn with z | z
    · omega
    · obtain ⟨b, hb, e⟩ := gp_all hG (v := cn - 1) (by omega)
      have := hG'.2.2.2.1 _ (hl b hb)
      rw [a2 b hb] at this
      omega
  have c2 : cn' ≤ cn := by
    rcases Nat.eq_zero_or_pos cn' with z | z
    · omega
    · obtain ⟨c, hc, e⟩ := gp_all hG' (v := cn' - 1) (by omega)
      obtain ⟨b, hb, eb⟩ := perm_sur hp (v := c + 1) (by omega) (by omega)
      have h1 := a2 b hb
      rw [eb] at h1
      have h2 : rk' c = rk b := h1
      have := hG.2.2.2.1 b hb
      omega
  omega
theorem dp_tr {n : Nat} (hn : n ≤ 8) {h rk rk' : Nat → Nat} (hp : PermH n h) (hr : ∀ b, b < n → rk' (h b - 1) = rk b) {b P : Nat} (hb : b < n) (hP : P < 8 → 7 - P < n) : dp (h b - 1) rk' (rn h P) = dp b rk P ∧ isB (h b - 1) (rn h P) = isB b P := by
  unfold dp isB
  by_cases a : P < 8
  · obtain ⟨a1, a2, a3⟩ := rn_lo hn hp a (hP a)
    have hb1 := hp.1 b hb
    have hP1 := hp.1 _ (hP a)
    rw [if_neg (show ¬ 8 ≤ rn h P by omega), if_neg (show ¬ 8 ≤ P by omega), a3]
    have e : h (7 - P) - 1 = h b - 1 ↔ 7 - P = b := ⟨fun q => perm_inj hp (hP a) hb (by omega), fun q => by rw [q]⟩
    refine ⟨?_, ?_⟩
    · by_cases q : 7 - P = b
      · rw [if_pos (e.mpr q), if_pos q]
      · rw [if_neg (fun z => q (e.mp z)), if_neg q, hr _ (hP a)]
    · apply decide_eq_decide.mpr
      rw [e]
      exact ⟨fun q => ⟨a, q.2⟩, fun q => ⟨a2, q.2⟩⟩
  · rw [rn_hi (by omega), if_pos (show 8 ≤ P by omega), if_pos (show 8 ≤ P by omega)]
    refine ⟨rfl, ?_⟩
    rw [decide_eq_false (fun q => a q.1), decide_eq_false (fun q => a q.1)]
theorem plR_tr {n : Nat} (hn : n ≤ 8) {h : Nat → Nat} {F F' : Nat → Int32} (hp : PermH n h) (hH : HR h n F F') {b P : Nat} (hb : b < n) (hP : P < 8 → 7 - P < n) : plR F' (h b - 1) (rn h P) = plR F b P := by
  unfold plR
  by_cases a : P < 8
  · obtain ⟨a1, a2, a3⟩ := rn_lo hn hp a (hP a)
    have hb1 := hp.1 b hb
    have hP1 := hp.1 _ (hP a)
    rw [if_neg (show ¬ 8 ≤ rn h P by omega), if_neg (show ¬ 8 ≤ P by omega), a3]
    by_cases q : 7 - P = b
    · rw [if_pos (by rw [q]), if_pos q]
    · rw [if_neg (fun z => q (perm_inj hp (hP a) hb (by omega))), if_neg q]
      rw [hbs_eq (F := F) (F' := F') (c := 7 - P) (c' := h (7 - P) - 1) (k := 8) (i := 0) (fun j hj => by rw [Nat.zero_add]; exact hH _ j (hP a) hj)]
  · rw [rn_hi (by omega), if_pos (by omega), if_pos (by omega)]
theorem dR_tr {n : Nat} (hn : n ≤ 8) {h : Nat → Nat} {F F' : Nat → Int32} (hp : PermH n h) (hH : HR h n F F') {b K : Nat} (hb : b < n) (hK : keyK K n) : dR F' (h b - 1) (rnK h K) = dR F b K := by
  have e : ∀ p, p < 3 → plR F' (h b - 1) (kp (rnK h K) p) = plR F b (kp K p) := fun p hp3 => by rw [kp_rnK h K p hp3]; exact plR_tr hn hp hH hb (hK.2 p hp3).2
  show ([] ++ _ ++ _) ++ _ = ([] ++ _ ++ _) ++ _
  rw [e 0 (by omega), e 1 (by omega), e 2 (by omega)]
theorem keyK_rn {n : Nat} (hn : n ≤ 8) {h : Nat → Nat} (hp : PermH n h) {K : Nat} (hK : keyK K n) : keyK (rnK h K) n := by
  refine ⟨rnK_lt h K, fun p hp3 => ?_⟩
  rw [kp_rnK h K p hp3]
  by_cases a : kp K p < 8
  · obtain ⟨a1, a2, a3⟩ := rn_lo hn hp a ((hK.2 p hp3).2 a)
    have := hp.1 _ ((hK.2 p hp3).2 a)
    exact ⟨by omega, fun _ => by omega⟩
  · rw [rn_hi (by omega)]
    exact ⟨(hK.2 p hp3).1, fun q => absurd q a⟩
theorem fm_congr {f g : Nat → List Int32} : ∀ {l : List Nat}, (∀ x, x ∈ l → f x = g x) → l.flatMap f = l.flatMap g
  | [], _ => rfl
  | x :: l, h => by rw [List.flatMap_cons, List.flatMap_cons, h x (List.mem_cons_self ..), fm_congr (fun y hy => h y (List.mem_cons_of_mem _ hy))]
theorem msg_tr {nb nt cn cn' b : Nat} (hnb : nb ≤ 8) {k k' h : Nat → Nat} {F F' : Nat → Int32} {o rk st o' rk' st' : Nat → Nat} (hk : Vk k nt nb) (hp : PermH nb h) (hB : Bc k nt k' nt h) (hH : HR h nb F F') (hG : GP (hv F) nb o rk st cn) (hG' : GP (hv F') nb o' rk' st' cn') (hb : b < nb) : msgB F' (fun g => o' (st' g)) rk' k' nt (h b - 1) = msgB F (fun g => o (st g)) rk k nt b := by
  have hr := (HR_rk hp hH hG hG').1
  have hbl : ∀ {F : Nat → Int32} {o rk st : Nat → Nat} {cn b : Nat}, GP (hv F) nb o rk st cn → b < nb → pcB F (fun g => o (st g)) (1002 + rk b) = hbs F b 8 0 := fun {F o rk st cn b} hG hb => by
    have hrb := hG.2.2.2.1 _ hb
    have hs := (hG.2.2.2.2.2.1 _ hrb).2
    have ho := hG.1 _ (gp_stlt hG hrb)
    have q1 := hG.2.2.1 _ _ ho hb
    have q2 := hG.2.2.1 _ _ hb ho
    have e : hv F (o (st (rk b))) = hv F b := by omega
    unfold pcB
    rw [if_neg (by omega), if_neg (by omega), show 1002 + rk b - 1002 = rk b by omega]
    exact hbs_eq (fun j hj => by rw [Nat.zero_add]; exact hvx_eq.mp e j hj)
  have hb' : h b - 1 < nb := by have := hp.1 b hb; omega
  have hd : (dls (h b - 1) rk' k' nt).Perm (dls b rk k nt) := by
    rw [dls_eq, dls_eq]
    have h1 := ((Bc_perm hnb hk hp hB).filter (std_ (h b - 1))).map (dsc (h b - 1) rk')
    refine h1.trans (List.Perm.of_eq ?_)
    rw [show (List.range nt).map (fun i => rnK h (k i)) = ((List.range nt).map k).map (rnK h) by rw [List.map_map]; rfl, List.filter_map, List.map_map]
    have hmem : ∀ K ∈ (List.range nt).map k, keyK K nb := fun K hK => by
      obtain ⟨i, hi, rfl⟩ := List.mem_map.mp hK
      exact hk.1 i (List.mem_range.mp hi)
    have e1 : ((List.range nt).map k).filter (std_ (h b - 1) ∘ rnK h) = ((List.range nt).map k).filter (std_ b) := by
      apply List.filter_congr
      intro K hK
      have hKK := hmem K hK
      show std_ (h b - 1) (rnK h K) = std_ b K
      unfold std_
      rw [kp_rnK h K 0 (by omega), kp_rnK h K 1 (by omega), kp_rnK h K 2 (by omega), (dp_tr hnb hp hr hb (hKK.2 0 (by omega)).2).2, (dp_tr hnb hp hr hb (hKK.2 1 (by omega)).2).2, (dp_tr hnb hp hr hb (hKK.2 2 (by omega)).2).2]
    rw [e1]
    apply List.map_congr_left
    intro K hK
    have hKK := hmem K (List.mem_filter.mp hK).1
    show dsc (h b - 1) rk' (rnK h K) = dsc b rk K
    unfold dsc
    rw [kp_rnK h K 0 (by omega), kp_rnK h K 1 (by omega), kp_rnK h K 2 (by omega), (dp_tr hnb hp hr hb (hKK.2 0 (by omega)).2).1, (dp_tr hnb hp hr hb (hKK.2 1 (by omega)).2).1, (dp_tr hnb hp hr hb (hKK.2 2 (by omega)).2).1]
  have hsr : srtN (dls (h b - 1) rk' k' nt) = srtN (dls b rk k nt) := perm_sorted_eq _ _ ((srtN_perm _).trans (hd.trans (srtN_perm _).symm)) (srtN_sorted _) (srtN_sorted _)
  unfold msgB
  rw [hbl hG' hb', hbl hG hb, hsr, hbs_eq (F := F') (F' := F) (c := h b - 1) (c' := b) (k := 8) (i := 0) (fun j hj => by rw [Nat.zero_add]; exact (hH b j hb hj).symm)]
  congr 1
  refine fm_congr (fun x hx => ?_)
  obtain ⟨i, hi, rfl⟩ := dls_mem ((srtN_perm _).subset hx)
  have hKK := hk.1 i hi
  rw [dsB_dR hnb hG hKK]
  have e : dsc b rk (k i) = dsc (h b - 1) rk' (rnK h (k i)) := by
    unfold dsc
    rw [kp_rnK h (k i) 0 (by omega), kp_rnK h (k i) 1 (by omega), kp_rnK h (k i) 2 (by omega), (dp_tr hnb hp hr hb (hKK.2 0 (by omega)).2).1, (dp_tr hnb hp hr hb (hKK.2 1 (by omega)).2).1, (dp_tr hnb hp hr hb (hKK.2 2 (by omega)).2).1]
  rw [e, dsB_dR hnb hG' (keyK_rn hnb hp hKK), dR_tr hnb hp hH hb hKK]
theorem Rnd_tr {nb nt : Nat} (hnb : nb ≤ 8) {k k' h : Nat → Nat} {F F' E E' : Nat → Int32} (hk : Vk k nt nb) (hp : PermH nb h) (hB : Bc k nt k' nt h) (hH : HR h nb F F') (hR : Rnd nb nt k F E) (hR' : Rnd nb nt k' F' E') : HR h nb E E' := by
  obtain ⟨o, rk, st, cn, hG, hE⟩ := hR
  obtain ⟨o', rk', st', cn', hG', hE'⟩ := hR'
  intro b j hb hj
  have := hp.1 b hb
  rw [hE b j hb hj, hE' (h b - 1) j (by omega) hj, msg_tr hnb hk hp hB hH hG hG' hb]
theorem cnt_tr {nb cn cn' : Nat} {h : Nat → Nat} {F F' : Nat → Int32} (hp : PermH nb h) (hH : HR h nb F F') (hc : cntIs F nb cn) (hc' : cntIs F' nb cn') : cn = cn' := by
  obtain ⟨o, rk, st, hG⟩ := hc
  obtain ⟨o', rk', st', hG'⟩ := hc'
  exact (HR_rk hp hH hG hG').2
theorem Rn0_tr {nb : Nat} {h : Nat → Nat} {F F' : Nat → Int32} (hp : PermH nb h) (h0 : Rn0 nb F) (h0' : Rn0 nb F') : HR h nb F F' := fun b j hb hj => by
  have := hp.1 b hb
  rw [h0 b j hb hj, h0' (h b - 1) j (by omega) hj]
theorem Rns_cnt {nb nt : Nat} {k : Nat → Nat} : ∀ {m : Nat} {F : Nat → Int32} {cn : Nat}, Rns nb nt k m F cn → cntIs F nb cn
  | 0, _, _, h => h.2
  | _ + 1, _, _, ⟨_, _, _, _, h, _⟩ => h
theorem Rns_tr {nb nt : Nat} (hnb : nb ≤ 8) {k k' h : Nat → Nat} (hk : Vk k nt nb) (hp : PermH nb h) (hB : Bc k nt k' nt h) : ∀ {m : Nat} {F F' : Nat → Int32} {cn cn' : Nat}, Rns nb nt k m F cn → Rns nb nt k' m F' cn' → HR h nb F F'
  | 0, _, _, _, _, h1, h2 => Rn0_tr hp h1.1 h2.1
  | _ + 1, _, _, _, _, ⟨_, _, a1, a2, _, _⟩, ⟨_, _, b1, b2, _, _⟩ => Rnd_tr hnb hk hp hB (Rns_tr hnb hk hp hB a1 b1) a2 b2
theorem Rns_pre {nb nt : Nat} {k : Nat → Nat} {m : Nat} : ∀ {m' : Nat} {F : Nat → Int32} {cn : Nat}, m < m' → Rns nb nt k m' F cn → ∃ E ce G cg, Rns nb nt k m E ce ∧ Rnd nb nt k E G ∧ cntIs G nb cg ∧ ce < cg
  | 0, _, _, h, _ => by omega
  | m' + 1, F, cn, h, ⟨E, ce, a1, a2, a3, a4⟩ => by
    by_cases e : m = m'
    · subst e; exact ⟨E, ce, F, cn, a1, a2, a3, a4⟩
    · exact Rns_pre (m' := m') (by omega) a1
theorem Hsh_tr {nb nt R R' : Nat} (hnb : nb ≤ 8) {k k' h : Nat → Nat} {F F' : Nat → Int32} (hk : Vk k nt nb) (hp : PermH nb h) (hB : Bc k nt k' nt h) (h1 : Hsh nb nt k F R) (h2 : Hsh nb nt k' F' R') : HR h nb F F' ∧ R = R' := by
  rcases h1 with ⟨a1, a2, E, a3, a4⟩ | ⟨a1, m, cn, a2, a3, a4⟩
  · rcases h2 with ⟨b1, b2, E', b3, b4⟩ | ⟨b1, _⟩
    · exact ⟨Rnd_tr hnb hk hp hB (Rn0_tr hp a3 b3) a4 b4, by omega⟩
    · omega
  · rcases h2 with ⟨b1, _⟩ | ⟨b1, m', cn', b2, b3, b4⟩
    · omega
    · have em : m = m' := by
        rcases Nat.lt_trichotomy m m' with q | q | q
        · exfalso
          obtain ⟨E, ce, G, cg, c1, c2, c3, c4⟩ := Rns_pre q b3
          have hHR := Rns_tr hnb hk hp hB a3 c1
          have e1 := cnt_tr hp hHR (Rns_cnt a3) (Rns_cnt c1)
          rcases a4 with z | ⟨E1, ce1, z1, z2, z3⟩
          · have := cnt_le c3; omega
          · have e2 := cnt_tr hp (Rnd_tr hnb hk hp hB hHR z1 c2) z2 c3
            omega
        · exact q
        · exfalso
          obtain ⟨E, ce, G, cg, c1, c2, c3, c4⟩ := Rns_pre q a3
          have hHR := Rns_tr hnb hk hp hB c1 b3
          have e1 := cnt_tr hp hHR (Rns_cnt c1) (Rns_cnt b3)
          rcases b4 with z | ⟨E1, ce1, z1, z2, z3⟩
          · have := cnt_le c3; omega
          · have e2 := cnt_tr hp (Rnd_tr hnb hk hp hB hHR c2 z1) c3 z2
            omega
      subst em
      exact ⟨Rns_tr hnb hk hp hB a3 b3, by omega⟩
theorem rnK_id {K n : Nat} (hK : keyK K n) : rnK (fun c => c + 1) K = K := by
  refine kp_ext (rnK_lt _ _) hK.1 (fun p hp3 => ?_)
  rw [kp_rnK _ K p hp3]
  unfold rn
  split
  · show 8 - (7 - kp K p + 1) = kp K p
    omega
  · rfl
/-- the same keys in another order -/
def KQ (k q : Nat → Nat) (nt : Nat) : Prop := ((List.range nt).map k).Perm ((List.range nt).map q)
theorem KQ_mem {k q : Nat → Nat} {nt : Nat} (h : KQ k q nt) {i : Nat} (hi : i < nt) : ∃ j, j < nt ∧ q j = k i := by
  have := h.subset (List.mem_map.mpr ⟨i, List.mem_range.mpr hi, rfl⟩)
  obtain ⟨j, hj, e⟩ := List.mem_map.mp this
  exact ⟨j, List.mem_range.mp hj, e⟩
theorem Hsh_KQ {nb nt R R' : Nat} (hnb : nb ≤ 8) {k q : Nat → Nat} {F F' : Nat → Int32} (hk : Vk k nt nb) (hkq : KQ k q nt) (h1 : Hsh nb nt k F R) (h2 : Hsh nb nt q F' R') : (∀ b j, b < nb → j < 8 → F (b * 8 + j) = F' (b * 8 + j)) ∧ R = R' := by
  have hB : Bc k nt q nt (fun c => c + 1) := fun i hi => by
    obtain ⟨j, hj, e⟩ := KQ_mem hkq hi
    exact ⟨j, hj, by rw [rnK_id (hk.1 i hi), e]⟩
  obtain ⟨a, b⟩ := Hsh_tr hnb hk (id_perm nb) hB h1 h2
  exact ⟨fun b j hb hj => a b j hb hj, b⟩
