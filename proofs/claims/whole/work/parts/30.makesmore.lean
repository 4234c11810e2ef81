/-! Hasher.makesMore. -/
theorem perm_sorted_eq : ∀ (l1 l2 : List Nat), l1.Perm l2 → l1.Pairwise (· ≤ ·) → l2.Pairwise (· ≤ ·) → l1 = l2
  | [], l2, h, _, _ => (List.nil_perm.mp h).symm
  | a :: l1, [], h, _, _ => absurd (List.perm_nil.mp h) (by simp)
  | a :: l1, b :: l2, h, h1, h2 => by
    have h1' := List.pairwise_cons.mp h1
    have h2' := List.pairwise_cons.mp h2
    have ha : a ∈ b :: l2 := h.subset List.mem_cons_self
    have hb : b ∈ a :: l1 := h.symm.subset List.mem_cons_self
    have e : a = b := by
      rcases List.mem_cons.mp ha with q | q
      · exact q
      · rcases List.mem_cons.mp hb with r | r
        · exact r.symm
        · have := h1'.1 b r
          have := h2'.1 a q
          omega
    subst e
    rw [perm_sorted_eq l1 l2 (List.Perm.cons_inv h) h1'.2 h2'.2]
def srtN (l : List Nat) : List Nat := l.mergeSort (fun a b => decide (a ≤ b))
theorem srtN_perm (l : List Nat) : (srtN l).Perm l := List.mergeSort_perm l _
theorem srtN_sorted (l : List Nat) : (srtN l).Pairwise (· ≤ ·) := by
  have h := List.pairwise_mergeSort (le := fun a b => decide (a ≤ b)) (fun a b c h1 h2 => by simp at *; omega) (fun a b => by simp; omega) l
  exact h.imp (fun h => by simpa using h)
theorem nI_uw (x : Int32) : nI (uw x) = x := by
  apply uw_inj
  exact pk_tn (uw_lt x)
theorem srt_list {g g' : Nat → Int32} {c : Nat} {l : List Nat} (hl : l.length = c) (hg : ∀ j x, l[j]? = some x → g j = nI x) (hlt : ∀ x ∈ l, x < 2 ^ 31) (h : srt g g' c) : ∀ j x, (srtN l)[j]? = some x → g' j = nI x := by
  obtain ⟨h1, h2, -⟩ := h
  have e0 : arL g c = l.map nI := by
    unfold arL
    apply List.ext_getElem?
    intro j
    rw [List.getElem?_map, List.getElem?_map]
    by_cases hj : j < c
    · have hx : l[j]? = some l[j] := List.getElem?_eq_getElem (by omega)
      rw [hx, List.getElem?_range hj]
      show some (g j) = some (nI l[j])
      rw [hg j _ hx]
    · rw [List.getElem?_eq_none (by simp; omega), List.getElem?_eq_none (by omega)]
      rfl
  have e1 : ((arL g' c).map uw).Perm l := by
    have := h2.map uw
    rw [e0, List.map_map] at this
    have e2 : l.map (uw ∘ nI) = l := by
      have : l.map (uw ∘ nI) = l.map id := List.map_congr_left fun x hx => pk_tn (by have := hlt x hx; omega)
      rw [this, List.map_id]
    rw [e2] at this
    exact this
  have e3 : ((arL g' c).map uw).Pairwise (· ≤ ·) := by
    rw [List.pairwise_map]
    unfold arL
    rw [List.pairwise_map]
    have hp : (List.range c).Pairwise (· < ·) := List.pairwise_lt_range
    refine List.Pairwise.imp_of_mem (fun {a b} ha hb hab => ?_) hp
    have hb' := List.mem_range.mp hb
    have h3 := h1 a b hab hb'
    have mem : ∀ q, q < c → uw (g' q) < 2 ^ 31 := fun q hq => by
      have hm : uw (g' q) ∈ (arL g' c).map uw := List.mem_map_of_mem (List.mem_map_of_mem (List.mem_range.mpr hq))
      exact hlt _ (e1.subset hm)
    rw [← nI_uw (g' a), ← nI_uw (g' b)] at h3
    exact (nI_leI (mem a (by omega)) (mem b hb')).mp h3
  have e4 : (arL g' c).map uw = srtN l := perm_sorted_eq _ _ (e1.trans (srtN_perm l).symm) e3 (srtN_sorted l)
  intro j x hx
  rw [← e4, List.getElem?_map] at hx
  unfold arL at hx
  rw [List.getElem?_map] at hx
  by_cases hj : j < c
  · rw [List.getElem?_range hj] at hx
    have hx : some (uw (g' j)) = some x := hx
    rw [← Option.some.inj hx, nI_uw]
  · rw [List.getElem?_eq_none (by simp; omega)] at hx
    cases hx
def tag (P : Nat) : Int32 := if P < 1001 then 0 else if P = 1001 then 1 else 2
/-- the bytes of a place, of a description, of descriptions -/
def plB (F : Nat → Int32) (bl : Nat → Nat) (P : Nat) : List Int32 := bys 1 (tag P) ++ pcB F bl P
def dsB (F : Nat → Int32) (bl : Nat → Nat) (D : Nat) : List Int32 := plB F bl (kp D 0) ++ (plB F bl (kp D 1) ++ plB F bl (kp D 2))
/-- the message of blank b -/
def msgB (F : Nat → Int32) (bl rk k : Nat → Nat) (nt b : Nat) : List Int32 := pcB F bl (1002 + rk b) ++ (srtN (dls b rk k nt)).flatMap (dsB F bl)
theorem dsc_kp {b : Nat} {rk : Nat → Nat} {K : Nat} (h : ∀ p, p < 3 → dp b rk (kp K p) < 1024) : (∀ p, p < 3 → kp (dsc b rk K) p = dp b rk (kp K p)) ∧ dsc b rk K < 2 ^ 30 := by
  have h0 := h 0 (by omega)
  have h1 := h 1 (by omega)
  have h2 := h 2 (by omega)
  unfold dsc
  refine ⟨fun p hp => ?_, by omega⟩
  match p, hp with
  | 0, _ => show _ / 2 ^ 20 % 1024 = _; omega
  | 1, _ => show _ / 2 ^ 10 % 1024 = _; omega
  | 2, _ => show _ / 2 ^ 0 % 1024 = _; omega
theorem dls_mem {b : Nat} {rk k : Nat → Nat} : ∀ {n x : Nat}, x ∈ dls b rk k n → ∃ i, i < n ∧ x = dsc b rk (k i)
  | 0, x, h => by simp [dls] at h
  | n + 1, x, h => by
    unfold dls at h
    split at h
    · rcases List.mem_append.mp h with q | q
      · obtain ⟨i, hi, e⟩ := dls_mem q
        exact ⟨i, by omega, e⟩
      · exact ⟨n, by omega, by simpa using q⟩
    · obtain ⟨i, hi, e⟩ := dls_mem h
      exact ⟨i, by omega, e⟩
abbrev mW (s : SS) (len : Int32) (D F' g1 g2 g3 : Nat → Int32) (c' : Int32) (nb nt : Nat) (hs ro : Int32) (K F f1 f2 f3 : Nat → Int32) (cn : Nat) : List ab_C :=
  [.inr (3, [.ref 101, .ref 104, .ref 105]), .inr (7, [.ref 102, .ref 103, .int (nI s.2.2), .int len]), cI 8 s.1, cI 64 s.2.1, cI 40 D, .inr (2, [.ref 106, .ref 107, .ref 108, .ref 109, .int c']), cI 64 F', cI 8 g1, cI 8 g2, cI 9 g3,
   .inr (1, [.ref 111, .int (nI nb), .int (nI nt), .int hs, .int ro, .ref 112]), cI 40 K, .inr (2, [.ref 113, .ref 114, .ref 115, .ref 116, .int (nI cn)]), cI 64 F, cI 8 f1, cI 8 f2, cI 9 f3]
/-- keys of triples: their blanks are the graph's -/
def keysOk (K : Nat → Int32) (k : Nat → Nat) (nt nb : Nat) : Prop := ∀ i, i < nt → K i = nI (k i) ∧ k i < 2 ^ 30 ∧ ∀ p, p < 3 → (kp (k i) p < 8 → 7 - kp (k i) p < nb) ∧ kp (k i) p < 1009
/-- a Groups' rows hold groups -/
def grpOk (F f1 f2 f3 : Nat → Int32) (n : Nat) (o rk st : Nat → Nat) (cnt : Nat) : Prop := GP (hv F) n o rk st cnt ∧ (∀ j, j < n → f1 j = nI (o j)) ∧ (∀ j, j < n → f2 j = nI (rk j)) ∧ ∀ j, j ≤ cnt → f3 j = nI (st j)
set_option maxRecDepth 20000 in
set_option maxHeartbeats 4000000 in
theorem con_makesMore (d nb nt cn : Nat) (hnb : nb ≤ 8) (hnt : nt ≤ 40) (s : SS) (len c' hs ro : Int32) (D F' g1 g2 g3 K F f1 f2 f3 : Nat → Int32) (k o rk st : Nat → Nat) (hk : keysOk K k nt nb) (hg : grpOk F f1 f2 f3 nb o rk st cn) : Con mX2_makesMore (d + 3) 0 0 (mW s len D F' g1 g2 g3 c' nb nt hs ro K F f1 f2 f3 cn) [.ref 100, .ref 110] (fun w' v => (2 ≤ nb ∧ cn = nb ∧ v = some (.int 0) ∧ w' = mW s len D F' g1 g2 g3 c' nb nt hs ro K F f1 f2 f3 cn) ∨ (¬ (2 ≤ nb ∧ cn = nb) ∧ ∃ (s2 : SS) (len2 : Int32) (D2 F2 h1 h2 h3 : Nat → Int32) (o2 rk2 st2 : Nat → Nat) (cn2 : Nat), w' = mW s2 len2 D2 F2 h1 h2 h3 (nI cn2) nb nt hs ro K F f1 f2 f3 cn ∧ (∀ b j, b < nb → j < 8 → F2 (b * 8 + j) = dig (msgB F (fun g => o (st g)) rk k nt b) j) ∧ grpOk F2 h1 h2 h3 nb o2 rk2 st2 cn2 ∧ v = some (.int (bi (decide (cn < cn2)))))) := by
  obtain ⟨hG, hf1, hf2, hf3⟩ := id hg
  obtain ⟨gp1, gp2, gp3, gp4, gp5, gp6, gp7, gp8, gp9⟩ := id hG
  refine Con.of (ab_okc rfl (by decide)) (Nat.le_of_ble_eq_true rfl) ?_
  show G ab_x0 mX2_makesMore (d + 3) 0 0 _ 0 [some (.ref 100), some (.ref 110), none, none, none, none, none] [] _
  have main : ¬ (2 ≤ nb ∧ cn = nb) → ∀ (b : Nat) (s1 : SS) (l1 : Int32) (D1 F1 : Nat → Int32) (z3 z4 z5 z6 : Option Value), b ≤ nb → (∀ c j, c < b → j < 8 → F1 (c * 8 + j) = dig (msgB F (fun g => o (st g)) rk k nt c) j) → G ab_x0 mX2_makesMore (d + 3) 0 0 (fun w' v => (2 ≤ nb ∧ cn = nb ∧ v = some (.int 0) ∧ w' = mW s len D F' g1 g2 g3 c' nb nt hs ro K F f1 f2 f3 cn) ∨ (¬ (2 ≤ nb ∧ cn = nb) ∧ ∃ (s2 : SS) (len2 : Int32) (D2 F2 h1 h2 h3 : Nat → Int32) (o2 rk2 st2 : Nat → Nat) (cn2 : Nat), w' = mW s2 len2 D2 F2 h1 h2 h3 (nI cn2) nb nt hs ro K F f1 f2 f3 cn ∧ (∀ b j, b < nb → j < 8 → F2 (b * 8 + j) = dig (msgB F (fun g => o (st g)) rk k nt b) j) ∧ grpOk F2 h1 h2 h3 nb o2 rk2 st2 cn2 ∧ v = some (.int (bi (decide (cn < cn2)))))) 26 [some (.ref 100), some (.ref 110), some (.int (nI b)), z3, z4, z5, z6] [] (mW s1 l1 D1 F1 g1 g2 g3 c' nb nt hs ro K F f1 f2 f3 cn) := by
    intro hno b
    induction hm : nb - b using Nat.strongRecOn generalizing b with
    | ind m ih =>
      subst hm
      intro s1 l1 D1 F1 z3 z4 z5 z6 hb hF1
      refine G_iload_n dX2_makesMore_26 rfl ?_
      refine G_aload_n dX2_makesMore_27 rfl ?_
      refine G_get (f := 1) kc1 dX2_makesMore_28 fX2_35 (by decide) rfl rfl ?_
      refine G_icmp_geN (tgt := 188) b nb dX2_makesMore_31 (by decide) rfl rfl (by omega) (by omega) (fun hge => ?_) (fun hlt => ?_)
      · have e : b = nb := by omega
        subst e
        refine G_aload_n dX2_makesMore_188 rfl ?_
        refine G_get (f := 2) kc3 dX2_makesMore_189 fX2_25 (by decide) rfl rfl ?_
        refine G_aload_n dX2_makesMore_192 rfl ?_
        refine G_get (f := 1) kc1 dX2_makesMore_193 fX2_35 (by decide) rfl rfl ?_
        refine G_V (is := [5, 6, 7, 8, 9]) (fo := []) (as := [.ref 100, .int (nI b)]) (as' := [.int (nI b)]) (st := []) (k := 0) (n := 0) cX2_makesMore_196 (con_arrange (d + 1) b hnb F1 g1 g2 g3 c') ab_pfx rfl (by decide) rfl rfl rfl rfl rfl rfl (Nat.le_of_ble_eq_true rfl) dX2_makesMore_196 (fun w' v h => by obtain ⟨_, g1, g2, g3, cnt, o, rk, st, h, _⟩ := h; rw [h]; rfl) (fun w2 v2 hq => ?_)
        obtain ⟨rfl, h1, h2, h3, cn2, o2, rk2, st2, rfl, hGP, ho1, ho2, ho3⟩ := hq
        have hcn2 : cn2 ≤ b := hGP.2.2.2.2.2.2.2.1
        refine G_aload_n dX2_makesMore_199 rfl ?_
        refine G_get (f := 2) kc3 dX2_makesMore_200 fX2_25 (by decide) rfl rfl ?_
        refine G_get (f := 4) kc2 dX2_makesMore_203 fX2_69 (by decide) rfl rfl ?_
        refine G_aload_n dX2_makesMore_206 rfl ?_
        refine G_get (f := 5) kc1 dX2_makesMore_207 fX2_42 (by decide) rfl rfl ?_
        refine G_get (f := 4) kc2 dX2_makesMore_210 fX2_69 (by decide) rfl rfl ?_
        refine G_icmp_leN (tgt := 220) cn2 cn dX2_makesMore_213 (by decide) rfl rfl (by omega) (by omega) (fun hle => ?_) (fun hlt => ?_)
        · refine G_iconst (v := 0) dX2_makesMore_220 (by decide) ?_
          refine G_ret (v := some (.int _)) ⟨dX2_makesMore_221, _, rfl, rfl⟩ (Or.inr ⟨hno, s1, l1, D1, F1, h1, h2, h3, o2, rk2, st2, cn2, rfl, hF1, ⟨hGP, ho1, ho2, ho3⟩, ?_⟩)
          rw [decide_eq_false (by omega)]
          rfl
        refine G_iconst (v := 1) dX2_makesMore_216 (by decide) ?_
        refine G_goto (tgt := 221) dX2_makesMore_217 (by decide) ?_
        refine G_ret (v := some (.int _)) ⟨dX2_makesMore_221, _, rfl, rfl⟩ (Or.inr ⟨hno, s1, l1, D1, F1, h1, h2, h3, o2, rk2, st2, cn2, rfl, hF1, ⟨hGP, ho1, ho2, ho3⟩, ?_⟩)
        rw [decide_eq_true (by omega)]
        rfl
      have hrk : ∀ i p, i < nt → p < 3 → kp (k i) p < 8 → f2 (7 - kp (k i) p) = nI (rk (7 - kp (k i) p)) ∧ rk (7 - kp (k i) p) < 8 := fun i p hi hp h8 => by
        have a := ((hk i hi).2.2 p hp).1 h8
        have c := gp4 _ a
        exact ⟨hf2 _ a, by omega⟩
      have hdp : ∀ i p, i < nt → p < 3 → dp b rk (kp (k i) p) < 1024 := fun i p hi hp => dp_lt (kp_lt _ _) (fun h => (hrk i p hi hp h).2)
      refine G_aload_n dX2_makesMore_34 rfl ?_
      refine G_aload_n dX2_makesMore_35 rfl ?_
      refine G_iload_n dX2_makesMore_36 rfl ?_
      refine G_V (is := [0, 4, 10, 11, 12, 15]) (fo := [101, 105, 113, 114, 116]) (as := [.ref 100, .ref 102, .int (nI b)]) (as' := [.ref 110, .int (nI b)]) (st := []) (k := 0) (n := 0) cX2_makesMore_37 (con_describe d nt b hnt (by omega) D1 K f2 k rk (fun i hi => ⟨(hk i hi).1, (hk i hi).2.1⟩) hrk (nI nb) hs ro (nI cn) 4 5 6 7 8) ab_pfx rfl (by decide) rfl rfl rfl rfl rfl rfl (Nat.le_of_ble_eq_true rfl) dX2_makesMore_37 (fun w' v h => by obtain ⟨_, g, h, _⟩ := h; rw [h]; rfl) (fun w2 v2 hq => ?_)
      obtain ⟨rfl, D2, rfl, hD2⟩ := hq
      have hcl := dls_len b rk k nt
      refine G_istore_n (L' := [_, _, _, _, _, _, _]) dX2_makesMore_40 (Nat.le_of_ble_eq_true rfl) rfl ?_
      refine G_aload_n dX2_makesMore_41 rfl ?_
      refine G_get (f := 1) kc3 dX2_makesMore_42 fX2_18 (by decide) rfl rfl ?_
      refine G_iload_n dX2_makesMore_45 rfl ?_
      refine G_SN (is := [4]) (fo := []) (as := [.ref 100, .int (nI (dls b rk k nt).length)]) (as' := [.ref 104, .int (nI (dls b rk k nt).length)]) (st := []) (k := 0) (n := 0) cX2_makesMore_46 (con_sort (d + 2) D2 40 (dls b rk k nt).length (by omega) (by decide)) ab_pfx rfl (by decide) rfl rfl rfl rfl (Nat.le_of_ble_eq_true rfl) dX2_makesMore_46 (fun w' v h => by obtain ⟨_, g, h, _⟩ := h; rw [h]; rfl) (fun w2 v2 hq => ?_)
      obtain ⟨rfl, D3, rfl, hsrt⟩ := hq
      have hmem : ∀ x ∈ dls b rk k nt, ∃ i, i < nt ∧ x = dsc b rk (k i) := fun x hx => dls_mem hx
      have hD3 := srt_list rfl hD2 (fun x hx => by
        obtain ⟨i, hi, e⟩ := hmem x hx
        have := (dsc_kp (b := b) (rk := rk) (K := k i) (fun p hp => hdp i p hi hp)).2
        omega) hsrt
      have hlen : (srtN (dls b rk k nt)).length = (dls b rk k nt).length := (srtN_perm _).length_eq
      have hmem2 : ∀ j x, (srtN (dls b rk k nt))[j]? = some x → x < 2 ^ 30 ∧ ∀ p, p < 3 → kp x p < 1001 ∨ kp x p = 1001 ∨ ∃ c, c < nb ∧ kp x p = 1002 + rk c := fun j x hx => by
        obtain ⟨i, hi, e⟩ := hmem x ((srtN_perm _).subset (List.mem_of_getElem? hx))
        have a := dsc_kp (b := b) (rk := rk) (K := k i) (fun p hp => hdp i p hi hp)
        rw [← e] at a
        refine ⟨a.2, fun p hp => ?_⟩
        rw [a.1 p hp]
        unfold dp
        by_cases h8 : 8 ≤ kp (k i) p
        · rw [if_pos h8]
          have := ((hk i hi).2.2 p hp).2
          exact Or.inl (by omega)
        · rw [if_neg h8]
          split
          · exact Or.inr (Or.inl rfl)
          · exact Or.inr (Or.inr ⟨_, ((hk i hi).2.2 p hp).1 (by omega), rfl⟩)
      generalize hcd : (dls b rk k nt).length = cd at *
      refine G_aload_n dX2_makesMore_49 rfl ?_
      refine G_get (f := 0) kc3 dX2_makesMore_50 fX2_12 (by decide) rfl rfl ?_
      refine G_V (is := [1, 2, 3]) (fo := []) (as := [.ref 100]) (as' := []) (st := []) (k := 0) (n := 0) cX2_makesMore_53 (con_begin (d + 1) s1.2.2 l1 s1.1 s1.2.1) ab_pfx rfl (by decide) rfl rfl rfl rfl rfl rfl (Nat.le_of_ble_eq_true rfl) dX2_makesMore_53 (fun w' v h => by rw [h.2]; rfl) (fun w2 v2 hq => ?_)
      obtain ⟨rfl, hw2⟩ := hq
      obtain ⟨s2, hs2⟩ : ∃ z : SS, z = (va_cpy (ab_l ab_start) s1.1 0 0 8, s1.2.1, 0) := ⟨_, rfl⟩
      rw [← hs2] at hw2
      subst hw2
      have hs2l : s2.2.2 < 64 := by rw [hs2]; show 0 < 64; omega
      refine G_aload_n dX2_makesMore_56 rfl ?_
      refine G_aload_n dX2_makesMore_57 rfl ?_
      refine G_get (f := 5) kc1 dX2_makesMore_58 fX2_42 (by decide) rfl rfl ?_
      refine G_sipush (v := 1002) dX2_makesMore_61 (by decide) ?_
      refine G_aload_n dX2_makesMore_64 rfl ?_
      refine G_get (f := 5) kc1 dX2_makesMore_65 fX2_42 (by decide) rfl rfl ?_
      refine G_get (f := 2) kc2 dX2_makesMore_68 fX2_83 (by decide) rfl rfl ?_
      refine G_iload_n dX2_makesMore_71 rfl ?_
      refine G_ialdN b dX2_makesMore_72 rfl rfl (by omega) (by omega) ?_
      rw [hf2 b hlt]
      refine G_iadd dX2_makesMore_73 ?_
      refine G_topi (y := nI (1002 + rk b)) (by rw [show (1002 : Int32) = nI 1002 from rfl, nI_add]) ?_
      have pq : ∀ c, c < nb → 1002 ≤ 1002 + rk c → st (rk c) < 8 ∧ f3 (1002 + rk c - 1002) = nI (st (rk c)) ∧ f1 (st (rk c)) = nI (o (st (1002 + rk c - 1002))) ∧ o (st (1002 + rk c - 1002)) < 8 ∧ 1002 + rk c < 1011 := fun c hc _ => by
        have a := gp4 c hc
        have e1 : 1002 + rk c - 1002 = rk c := by omega
        have a2 := gp6 (rk c) a
        have a3 : st (rk c) < nb := by
          have h9 : ∀ q, rk c + 1 + q ≤ cn → st (rk c) < st (rk c + 1 + q) := fun q => by
            induction q with
            | zero => intro _; exact a2.1
            | succ q ihq => intro hq; have := ihq (by omega); have := (gp6 (rk c + 1 + q) (by omega)).1; show st (rk c) < st (rk c + 1 + q + 1); omega
          have := h9 (cn - (rk c + 1)) (by omega)
          rw [show rk c + 1 + (cn - (rk c + 1)) = cn by omega, gp7] at this
          exact this
        rw [e1]
        have a4 := gp1 _ a3
        exact ⟨by omega, hf3 _ (by omega), hf1 _ a3, by omega, by omega⟩
      have hrb := gp4 b hlt
      refine G_V (is := [0, 1, 2, 3, 12, 13, 14, 16]) (fo := [104, 105, 115]) (as := [.ref 100, .ref 104, .int (nI (1002 + rk b))]) (as' := [.ref 112, .int (nI (1002 + rk b))]) (st := []) (k := 0) (n := 0) cX2_makesMore_74 (con_putContent (d) (1002 + rk b) (by omega) s2 (by exact hs2l) 0 F f1 f3 (fun g => o (st g)) (st (rk b)) (by exact pq b hlt) (.ref 4) (.ref 5) (.ref 6) (.int (nI cn))) ab_pfx rfl (by decide) rfl rfl rfl rfl rfl rfl (Nat.le_of_ble_eq_true rfl) dX2_makesMore_74 (fun w' v h => by rw [h.2]; exact (rfl : (8 : Nat) = 8)) (fun w2 v2 hq => ?_)
      obtain ⟨rfl, hw2⟩ := hq
      obtain ⟨m0, hm0⟩ : ∃ z, z = pcB F (fun g => o (st g)) (1002 + rk b) := ⟨_, rfl⟩
      rw [← hm0] at hw2
      obtain ⟨s3, hs3⟩ : ∃ z, z = eat s2 m0 := ⟨_, rfl⟩
      rw [← hs3] at hw2
      subst hw2
      generalize hsd : srtN (dls b rk k nt) = sd at *
      have hs3l : s3.2.2 < 64 := by rw [hs3]; exact eat_lt _ _ hs2l
      have hl0 : (0 : Int32) + nI m0.length = nI m0.length := Int32.zero_add _
      rw [hl0]
      refine G_iconst (v := 0) dX2_makesMore_77 (by decide) ?_
      refine G_istore (L' := [_, _, _, _, _, _, _]) dX2_makesMore_78 (Nat.le_of_ble_eq_true rfl) rfl ?_
      have inner : ∀ (i : Nat) (s5 : SS) (pre : List Int32) (z5 z6 : Option Value), i ≤ cd → s5 = eat s2 pre → s5.2.2 < 64 → pre ++ (sd.drop i).flatMap (dsB F (fun g => o (st g))) = msgB F (fun g => o (st g)) rk k nt b → G ab_x0 mX2_makesMore (d + 3) 0 0 (fun w' v => (2 ≤ nb ∧ cn = nb ∧ v = some (.int 0) ∧ w' = mW s len D F' g1 g2 g3 c' nb nt hs ro K F f1 f2 f3 cn) ∨ (¬ (2 ≤ nb ∧ cn = nb) ∧ ∃ (s2 : SS) (len2 : Int32) (D2 F2 h1 h2 h3 : Nat → Int32) (o2 rk2 st2 : Nat → Nat) (cn2 : Nat), w' = mW s2 len2 D2 F2 h1 h2 h3 (nI cn2) nb nt hs ro K F f1 f2 f3 cn ∧ (∀ b j, b < nb → j < 8 → F2 (b * 8 + j) = dig (msgB F (fun g => o (st g)) rk k nt b) j) ∧ grpOk F2 h1 h2 h3 nb o2 rk2 st2 cn2 ∧ v = some (.int (bi (decide (cn < cn2)))))) 80 [some (.ref 100), some (.ref 110), some (.int (nI b)), some (.int (nI cd)), some (.int (nI i)), z5, z6] [] (mW s5 (nI pre.length) D3 F1 g1 g2 g3 c' nb nt hs ro K F f1 f2 f3 cn) := by
        intro i
        induction hm : cd - i using Nat.strongRecOn generalizing i with
        | ind m ihi =>
          subst hm
          intro s5 pre z5 z6 hi hs5 hs5l hpre
          refine G_iload dX2_makesMore_80 rfl ?_
          refine G_iload_n dX2_makesMore_82 rfl ?_
          refine G_icmp_geN (tgt := 164) i cd dX2_makesMore_83 (by decide) rfl rfl (by omega) (by omega) (fun hge => ?_) (fun hic => ?_)
          · have e : sd.drop i = [] := List.drop_eq_nil_of_le (by omega)
            rw [e, List.flatMap_nil, List.append_nil] at hpre
            refine G_aload_n dX2_makesMore_164 rfl ?_
            refine G_get (f := 0) kc3 dX2_makesMore_165 fX2_12 (by decide) rfl rfl ?_
            refine G_aload_n dX2_makesMore_168 rfl ?_
            refine G_get (f := 2) kc3 dX2_makesMore_169 fX2_25 (by decide) rfl rfl ?_
            refine G_get (f := 0) kc2 dX2_makesMore_172 fX2_45 (by decide) rfl rfl ?_
            refine G_iload_n dX2_makesMore_175 rfl ?_
            refine G_bipush (v := 8) dX2_makesMore_176 (by decide) ?_
            refine G_imul dX2_makesMore_178 ?_
            refine G_topi (y := nI (b * 8)) (by rw [show (8 : Int32) = nI 8 from rfl, pk_mul]) ?_
            refine G_V (is := [1, 2, 3, 6]) (fo := []) (as := [.ref 100, .ref 103, .int (nI (b * 8))]) (as' := [.ref 106, .int (nI (b * 8))]) (st := []) (k := 0) (n := 0) cX2_makesMore_179 (con_end (d) (b * 8) 64 (by omega) (by decide) (nI pre.length) s5 hs5l F1) ab_pfx rfl (by decide) rfl rfl rfl rfl rfl rfl (Nat.le_of_ble_eq_true rfl) dX2_makesMore_179 (fun w' v h => by obtain ⟨_, l, h⟩ := h; rw [h]; exact (rfl : (4 : Nat) = 4)) (fun w2 v2 hq => ?_)
            obtain ⟨rfl, l9, hw2⟩ := hq
            obtain ⟨s9, hs9⟩ : ∃ z, z = endF s5 (nI pre.length) := ⟨_, rfl⟩
            rw [← hs9] at hw2
            subst hw2
            refine G_iinc (L' := [_, _, _, _, _, _, _]) (v := nI (b + 1)) dX2_makesMore_182 rfl (nI_succ b).symm rfl ?_
            refine G_goto (tgt := 26) dX2_makesMore_185 (by decide) ?_
            refine ih (nb - (b + 1)) (by omega) (b + 1) rfl s9 l9 D3 (va_cpy s9.1 F1 0 (b * 8) 8) _ _ _ _ (by omega) (fun c j hc hj => ?_)
            by_cases ec : c = b
            · subst ec
              rw [pk_cpy_in (by omega) (by omega), show 0 + (c * 8 + j - c * 8) = j by omega, hs9, hs5, hs2, hpre]
              exact dg_dig _ _ _ hj
            · rw [pk_cpy_out (by omega)]
              exact hF1 c j (by omega) hj
          have hx : sd[i]? = some sd[i] := List.getElem?_eq_getElem (by omega)
          obtain ⟨hx30, hxp⟩ := hmem2 i _ hx
          have hDi := hD3 i _ hx
          have hdrop : sd.drop i = sd[i] :: sd.drop (i + 1) := List.drop_eq_getElem_cons (by omega)
          generalize sd[i] = x at hx30 hxp hDi hdrop
          refine G_iconst (v := 0) dX2_makesMore_86 (by decide) ?_
          refine G_istore (L' := [_, _, _, _, _, _, _]) dX2_makesMore_87 (Nat.le_of_ble_eq_true rfl) rfl ?_
          have stp : ∀ (p : Nat) (s6 : SS) (pr : List Int32) (z : Option Value), p < 3 → s6.2.2 < 64 → (∀ (s7 : SS) (z' : Option Value), s7 = eat s6 (plB F (fun g => o (st g)) (kp x p)) → G ab_x0 mX2_makesMore (d + 3) 0 0 (fun w' v => (2 ≤ nb ∧ cn = nb ∧ v = some (.int 0) ∧ w' = mW s len D F' g1 g2 g3 c' nb nt hs ro K F f1 f2 f3 cn) ∨ (¬ (2 ≤ nb ∧ cn = nb) ∧ ∃ (s2 : SS) (len2 : Int32) (D2 F2 h1 h2 h3 : Nat → Int32) (o2 rk2 st2 : Nat → Nat) (cn2 : Nat), w' = mW s2 len2 D2 F2 h1 h2 h3 (nI cn2) nb nt hs ro K F f1 f2 f3 cn ∧ (∀ b j, b < nb → j < 8 → F2 (b * 8 + j) = dig (msgB F (fun g => o (st g)) rk k nt b) j) ∧ grpOk F2 h1 h2 h3 nb o2 rk2 st2 cn2 ∧ v = some (.int (bi (decide (cn < cn2)))))) 89 [some (.ref 100), some (.ref 110), some (.int (nI b)), some (.int (nI cd)), some (.int (nI i)), some (.int (nI (p + 1))), z'] [] (mW s7 (nI (pr ++ plB F (fun g => o (st g)) (kp x p)).length) D3 F1 g1 g2 g3 c' nb nt hs ro K F f1 f2 f3 cn)) → G ab_x0 mX2_makesMore (d + 3) 0 0 (fun w' v => (2 ≤ nb ∧ cn = nb ∧ v = some (.int 0) ∧ w' = mW s len D F' g1 g2 g3 c' nb nt hs ro K F f1 f2 f3 cn) ∨ (¬ (2 ≤ nb ∧ cn = nb) ∧ ∃ (s2 : SS) (len2 : Int32) (D2 F2 h1 h2 h3 : Nat → Int32) (o2 rk2 st2 : Nat → Nat) (cn2 : Nat), w' = mW s2 len2 D2 F2 h1 h2 h3 (nI cn2) nb nt hs ro K F f1 f2 f3 cn ∧ (∀ b j, b < nb → j < 8 → F2 (b * 8 + j) = dig (msgB F (fun g => o (st g)) rk k nt b) j) ∧ grpOk F2 h1 h2 h3 nb o2 rk2 st2 cn2 ∧ v = some (.int (bi (decide (cn < cn2)))))) 89 [some (.ref 100), some (.ref 110), some (.int (nI b)), some (.int (nI cd)), some (.int (nI i)), some (.int (nI p)), z] [] (mW s6 (nI pr.length) D3 F1 g1 g2 g3 c' nb nt hs ro K F f1 f2 f3 cn) := by
            intro p s6 pr z hp hs6 kk
            have hkl := kp_lt x p
            refine G_iload dX2_makesMore_89 rfl ?_
            refine G_iconst (v := 3) dX2_makesMore_91 (by decide) ?_
            refine G_icmp_geN (tgt := 158) p 3 dX2_makesMore_92 (by decide) rfl rfl (by omega) (by omega) (fun h => by omega) (fun _ => ?_)
            refine G_aload_n dX2_makesMore_95 rfl ?_
            refine G_get (f := 1) kc3 dX2_makesMore_96 fX2_18 (by decide) rfl rfl ?_
            refine G_iload dX2_makesMore_99 rfl ?_
            refine G_ialdN i dX2_makesMore_101 rfl rfl (by omega) (by omega) ?_
            rw [hDi]
            refine G_iload dX2_makesMore_102 rfl ?_
            refine G_SN (is := []) (fo := []) (as := [.int (nI x), .int (nI p)]) (as' := [.int (nI x), .int (nI p)]) (st := []) (k := 0) (n := 0) cX2_makesMore_104 (con_partAt (d + 2) x p hx30 hp) ab_pfx rfl (by decide) rfl rfl rfl rfl (Nat.le_of_ble_eq_true rfl) dX2_makesMore_104 (fun w' v h => by rw [h.1]) (fun w2 v2 hq => ?_)
            obtain ⟨rfl, rfl⟩ := hq
            have hP := hxp p hp
            generalize kp x p = P at hP hkl kk
            refine G_istore (L' := [_, _, _, _, _, _, _]) dX2_makesMore_107 (Nat.le_of_ble_eq_true rfl) rfl ?_
            refine G_aload_n dX2_makesMore_109 rfl ?_
            refine G_get (f := 0) kc3 dX2_makesMore_110 fX2_12 (by decide) rfl rfl ?_
            refine G_iload dX2_makesMore_113 rfl ?_
            refine G_sipush (v := 1001) dX2_makesMore_115 (by decide) ?_
            have fin : G ab_x0 mX2_makesMore (d + 3) 0 0 (fun w' v => (2 ≤ nb ∧ cn = nb ∧ v = some (.int 0) ∧ w' = mW s len D F' g1 g2 g3 c' nb nt hs ro K F f1 f2 f3 cn) ∨ (¬ (2 ≤ nb ∧ cn = nb) ∧ ∃ (s2 : SS) (len2 : Int32) (D2 F2 h1 h2 h3 : Nat → Int32) (o2 rk2 st2 : Nat → Nat) (cn2 : Nat), w' = mW s2 len2 D2 F2 h1 h2 h3 (nI cn2) nb nt hs ro K F f1 f2 f3 cn ∧ (∀ b j, b < nb → j < 8 → F2 (b * 8 + j) = dig (msgB F (fun g => o (st g)) rk k nt b) j) ∧ grpOk F2 h1 h2 h3 nb o2 rk2 st2 cn2 ∧ v = some (.int (bi (decide (cn < cn2)))))) 138 [some (.ref 100), some (.ref 110), some (.int (nI b)), some (.int (nI cd)), some (.int (nI i)), some (.int (nI p)), some (.int (nI P))] [.int (tag P), .ref 101] (mW s6 (nI pr.length) D3 F1 g1 g2 g3 c' nb nt hs ro K F f1 f2 f3 cn) := by
              refine G_iconst (v := 1) dX2_makesMore_138 (by decide) ?_
              refine G_V (is := [1, 2, 3]) (fo := []) (as := [.ref 100, .int (tag P), .int (nI 1)]) (as' := [.int (tag P), .int (nI 1)]) (st := []) (k := 0) (n := 0) cX2_makesMore_139 (con_eat (d + 1) 1 (by decide) (tag P) (nI pr.length) s6 hs6) ab_pfx rfl (by decide) rfl rfl rfl rfl rfl rfl (Nat.le_of_ble_eq_true rfl) dX2_makesMore_139 (fun w' v h => by rw [h.2]; exact (rfl : (3 : Nat) = 3)) (fun w2 v2 hq => ?_)
              obtain ⟨rfl, hw2⟩ := hq
              obtain ⟨s8, hs8⟩ : ∃ z, z = eat s6 (bys 1 (tag P)) := ⟨_, rfl⟩
              rw [← hs8, nI_add] at hw2
              subst hw2
              have hs8l : s8.2.2 < 64 := by rw [hs8]; exact eat_lt _ _ hs6
              refine G_aload_n dX2_makesMore_142 rfl ?_
              refine G_aload_n dX2_makesMore_143 rfl ?_
              refine G_get (f := 5) kc1 dX2_makesMore_144 fX2_42 (by decide) rfl rfl ?_
              refine G_iload dX2_makesMore_147 rfl ?_
              obtain ⟨q, hq⟩ : ∃ q, 1002 ≤ P → q < 8 ∧ f3 (P - 1002) = nI q ∧ f1 q = nI (o (st (P - 1002))) ∧ o (st (P - 1002)) < 8 ∧ P < 1011 := by
                rcases hP with h | h | ⟨c, hc, h⟩
                · exact ⟨0, fun h => by omega⟩
                · exact ⟨0, fun h => by omega⟩
                · exact ⟨st (rk c), fun h2 => by rw [h]; exact pq c hc (by omega)⟩
              refine G_V (is := [0, 1, 2, 3, 12, 13, 14, 16]) (fo := [104, 105, 115]) (as := [.ref 100, .ref 104, .int (nI P)]) (as' := [.ref 112, .int (nI P)]) (st := []) (k := 0) (n := 0) cX2_makesMore_149 (con_putContent (d) P (by omega) s8 (by exact hs8l) (nI (pr.length + 1)) F f1 f3 (fun g => o (st g)) q (by exact hq) (.ref 4) (.ref 5) (.ref 6) (.int (nI cn))) ab_pfx rfl (by decide) rfl rfl rfl rfl rfl rfl (Nat.le_of_ble_eq_true rfl) dX2_makesMore_149 (fun w' v h => by rw [h.2]; exact (rfl : (8 : Nat) = 8)) (fun w2 v2 hq => ?_)
              obtain ⟨rfl, hw2⟩ := hq
              obtain ⟨s9, hs9⟩ : ∃ z, z = eat s8 (pcB F (fun g => o (st g)) P) := ⟨_, rfl⟩
              rw [← hs9, nI_add] at hw2
              subst hw2
              refine G_iinc (L' := [_, _, _, _, _, _, _]) (v := nI (p + 1)) dX2_makesMore_152 rfl (nI_succ p).symm rfl ?_
              refine G_goto (tgt := 89) dX2_makesMore_155 (by decide) ?_
              have := kk s9 (some (.int (nI P))) (by rw [hs9, hs8, ← eat_app]; rfl)
              rw [show (pr ++ plB F (fun g => o (st g)) P).length = pr.length + 1 + (pcB F (fun g => o (st g)) P).length by
                unfold plB
                rw [List.length_append, List.length_append, bys_len]
                omega] at this
              exact this
            refine G_icmp_geN (tgt := 125) P 1001 dX2_makesMore_118 (by decide) rfl rfl (by omega) (by omega) (fun h1 => ?_) (fun h1 => ?_)
            · refine G_iload dX2_makesMore_125 rfl ?_
              refine G_sipush (v := 1001) dX2_makesMore_127 (by decide) ?_
              refine G_icmp_neN (tgt := 137) P 1001 dX2_makesMore_130 (by decide) rfl rfl (by omega) (by omega) (fun h2 => ?_) (fun h2 => ?_)
              · refine G_iconst (v := 2) dX2_makesMore_137 (by decide) ?_
                have e : tag P = 2 := by unfold tag; rw [if_neg (by omega), if_neg h2]
                rw [e] at fin
                exact fin
              · refine G_iconst (v := 1) dX2_makesMore_133 (by decide) ?_
                refine G_goto (tgt := 138) dX2_makesMore_134 (by decide) ?_
                have e : tag P = 1 := by unfold tag; rw [if_neg (by omega), if_pos h2]
                rw [e] at fin
                exact fin
            · refine G_iconst (v := 0) dX2_makesMore_121 (by decide) ?_
              refine G_goto (tgt := 138) dX2_makesMore_122 (by decide) ?_
              have e : tag P = 0 := by unfold tag; rw [if_pos h1]
              rw [e] at fin
              exact fin
          refine stp 0 s5 pre _ (by omega) hs5l (fun s6 z0 hs6 => ?_)
          have hs6l : s6.2.2 < 64 := by rw [hs6]; exact eat_lt _ _ hs5l
          refine stp 1 s6 _ _ (by omega) hs6l (fun s7 z1 hs7 => ?_)
          have hs7l : s7.2.2 < 64 := by rw [hs7]; exact eat_lt _ _ hs6l
          refine stp 2 s7 _ _ (by omega) hs7l (fun s8 z2 hs8 => ?_)
          have hs8l : s8.2.2 < 64 := by rw [hs8]; exact eat_lt _ _ hs7l
          refine G_iload dX2_makesMore_89 rfl ?_
          refine G_iconst (v := 3) dX2_makesMore_91 (by decide) ?_
          refine G_icmp_geN (tgt := 158) 3 3 dX2_makesMore_92 (by decide) rfl rfl (by omega) (by omega) (fun _ => ?_) (fun h => by omega)
          refine G_iinc (L' := [_, _, _, _, _, _, _]) (v := nI (i + 1)) dX2_makesMore_158 rfl (nI_succ i).symm rfl ?_
          refine G_goto (tgt := 80) dX2_makesMore_161 (by decide) ?_
          refine ihi (cd - (i + 1)) (by omega) (i + 1) rfl s8 _ _ _ (by omega) ?_ hs8l ?_
          · rw [hs8, hs7, hs6, hs5, ← eat_app, ← eat_app, ← eat_app]
            simp only [List.append_assoc]
          · rw [← hpre, hdrop, List.flatMap_cons]
            unfold dsB
            simp only [List.append_assoc]
      exact inner 0 s3 m0 _ _ (by omega) hs3 hs3l (by rw [List.drop_zero, hm0, ← hsd]; rfl)
  refine G_aload_n dX2_makesMore_0 rfl ?_
  refine G_get (f := 1) kc1 dX2_makesMore_1 fX2_35 (by decide) rfl rfl ?_
  refine G_iconst (v := 2) dX2_makesMore_4 (by decide) ?_
  refine G_icmp_ltN (tgt := 24) nb 2 dX2_makesMore_5 (by decide) rfl rfl (by omega) (by omega) (fun h => ?_) (fun h => ?_)
  · refine G_iconst (v := 0) dX2_makesMore_24 (by decide) ?_
    refine G_istore_n (L' := [_, _, _, _, _, _, _]) dX2_makesMore_25 (Nat.le_of_ble_eq_true rfl) rfl ?_
    exact main (by omega) 0 s len D F' _ _ _ _ (by omega) (fun c j hc => by omega)
  refine G_aload_n dX2_makesMore_8 rfl ?_
  refine G_get (f := 5) kc1 dX2_makesMore_9 fX2_42 (by decide) rfl rfl ?_
  refine G_get (f := 4) kc2 dX2_makesMore_12 fX2_69 (by decide) rfl rfl ?_
  refine G_aload_n dX2_makesMore_15 rfl ?_
  refine G_get (f := 1) kc1 dX2_makesMore_16 fX2_35 (by decide) rfl rfl ?_
  refine G_icmp_neN (tgt := 24) cn nb dX2_makesMore_19 (by decide) rfl rfl (by omega) (by omega) (fun h2 => ?_) (fun h2 => ?_)
  · refine G_iconst (v := 0) dX2_makesMore_24 (by decide) ?_
    refine G_istore_n (L' := [_, _, _, _, _, _, _]) dX2_makesMore_25 (Nat.le_of_ble_eq_true rfl) rfl ?_
    exact main (by omega) 0 s len D F' _ _ _ _ (by omega) (fun c j hc => by omega)
  refine G_iconst (v := 0) dX2_makesMore_22 (by decide) ?_
  exact G_ret (v := some (.int _)) ⟨dX2_makesMore_23, _, rfl, rfl⟩ (Or.inl ⟨h, h2, rfl, rfl⟩)
