/-! LeastRow.search as a function of pure states (p: numbers; fo: found; q: the best numbers; fm: the best row). -/
abbrev SX : Type := (Nat → Nat) × Bool × (Nat → Nat) × (Nat → Nat)
/-- rows compared by their first difference -/
def cmpR (f g : Nat → Nat) : Nat → Int32
  | 0 => 0
  | n + 1 => if cmpR f g n = 0 then (if f n < g n then -1 else if f n = g n then 0 else 1) else cmpR f g n
theorem cmpR_spec (f g : Nat → Nat) : ∀ c, ((∀ i, i < c → f i = g i) ∧ cmpR f g c = 0) ∨ ((∃ i, i < c ∧ (∀ j, j < i → f j = g j) ∧ f i < g i) ∧ cmpR f g c = -1) ∨ ((∃ i, i < c ∧ (∀ j, j < i → f j = g j) ∧ g i < f i) ∧ cmpR f g c = 1)
  | 0 => Or.inl ⟨fun i hi => by omega, rfl⟩
  | c + 1 => by
    rcases cmpR_spec f g c with ⟨h1, h2⟩ | ⟨⟨i, h1, h2, h3⟩, h4⟩ | ⟨⟨i, h1, h2, h3⟩, h4⟩
    · have e : cmpR f g (c + 1) = (if f c < g c then -1 else if f c = g c then 0 else 1) := by
        show (if cmpR f g c = 0 then _ else _) = _
        rw [if_pos h2]
      rcases Nat.lt_trichotomy (f c) (g c) with q | q | q
      · exact Or.inr (Or.inl ⟨⟨c, by omega, h1, q⟩, by rw [e, if_pos q]⟩)
      · refine Or.inl ⟨fun i hi => ?_, by rw [e, if_neg (by omega), if_pos q]⟩
        by_cases hc : i = c
        · rw [hc]; exact q
        · exact h1 i (by omega)
      · exact Or.inr (Or.inr ⟨⟨c, by omega, h1, q⟩, by rw [e, if_neg (by omega), if_neg (by omega)]⟩)
    · have e : cmpR f g (c + 1) = -1 := by
        show (if cmpR f g c = 0 then _ else _) = _
        rw [h4, if_neg (by decide)]
      exact Or.inr (Or.inl ⟨⟨i, by omega, h2, h3⟩, e⟩)
    · have e : cmpR f g (c + 1) = 1 := by
        show (if cmpR f g c = 0 then _ else _) = _
        rw [h4, if_neg (by decide)]
      exact Or.inr (Or.inr ⟨⟨i, by omega, h2, h3⟩, e⟩)
/-- the class's compare, of rows of numbers -/
theorem cmpR_of {F G : Nat → Int32} {f g : Nat → Nat} {c : Nat} {v : Option Value} (hF : ∀ i, i < c → F i = nI (f i) ∧ f i < 2 ^ 31) (hG : ∀ i, i < c → G i = nI (g i) ∧ g i < 2 ^ 31)
    (h : (∀ i, i < c → F i = G i) ∧ v = some (.int 0) ∨ (∃ i, i < c ∧ (∀ j, j < i → F j = G j) ∧ F i < G i) ∧ v = some (.int (-1)) ∨ (∃ i, i < c ∧ (∀ j, j < i → F j = G j) ∧ G i < F i) ∧ v = some (.int 1)) : v = some (.int (cmpR f g c)) := by
  have eq : ∀ i, i < c → (F i = G i ↔ f i = g i) := fun i hi => by rw [(hF i hi).1, (hG i hi).1]; exact nI_eq (hF i hi).2 (hG i hi).2
  have lt : ∀ i, i < c → (F i < G i ↔ f i < g i) := fun i hi => by rw [(hF i hi).1, (hG i hi).1]; exact nI_ltI (hF i hi).2 (hG i hi).2
  have gt : ∀ i, i < c → (G i < F i ↔ g i < f i) := fun i hi => by rw [(hF i hi).1, (hG i hi).1]; exact nI_ltI (hG i hi).2 (hF i hi).2
  have first : ∀ i j, (∀ q, q < i → f q = g q) → (∀ q, q < j → f q = g q) → f i ≠ g i → f j ≠ g j → i = j := fun i j a b c1 c2 => by
    rcases Nat.lt_trichotomy i j with q | q | q
    · exact absurd (b i q) c1
    · exact q
    · exact absurd (a j q) c2
  rcases h with ⟨h1, rfl⟩ | ⟨⟨i, h1, h2, h3⟩, rfl⟩ | ⟨⟨i, h1, h2, h3⟩, rfl⟩
  · rcases cmpR_spec f g c with ⟨_, e⟩ | ⟨⟨j, a1, a2, a3⟩, _⟩ | ⟨⟨j, a1, a2, a3⟩, _⟩
    · rw [e]
    · have := (eq j a1).mp (h1 j a1); omega
    · have := (eq j a1).mp (h1 j a1); omega
  · have h2' : ∀ q, q < i → f q = g q := fun q hq => (eq q (by omega)).mp (h2 q hq)
    have h3' := (lt i h1).mp h3
    rcases cmpR_spec f g c with ⟨a, _⟩ | ⟨⟨j, a1, a2, a3⟩, e⟩ | ⟨⟨j, a1, a2, a3⟩, _⟩
    · have := a i h1; omega
    · rw [e]
    · have := first i j h2' a2 (by omega) (by omega)
      subst this; omega
  · have h2' : ∀ q, q < i → f q = g q := fun q hq => (eq q (by omega)).mp (h2 q hq)
    have h3' := (gt i h1).mp h3
    rcases cmpR_spec f g c with ⟨a, _⟩ | ⟨⟨j, a1, a2, a3⟩, _⟩ | ⟨⟨j, a1, a2, a3⟩, e⟩
    · have := a i h1; omega
    · have := first i j h2' a2 (by omega) (by omega)
      subst this; omega
    · rw [e]
def setN (p q : Nat → Nat) (n : Nat) : Nat → Nat := fun b => if b < n then p b else q b
section SR
variable (k : Nat → Nat) (nt nb : Nat) (o rk st : Nat → Nat)
/-- the blanks that can get a number -/
def cands (num : Nat) : List Nat := (List.range (st (rk (o (num - 1)) + 1) - st (rk (o (num - 1))))).map (fun i => o (st (rk (o (num - 1))) + i))
def trl (p : Nat → Nat) : Nat → Nat := pshF (rowF k nt p)
def ordX (p1 : Nat → Nat) (x : SX) : Int32 := if x.2.1 then cmpR (trl k nt p1) x.2.2.2 nt else -1
def srchL (rec : Nat → SX → SX × Nat) (num T : Nat) : List Nat → SX → SX × Nat
  | [], x => (x, 0)
  | b :: l, x => if T.testBit b then srchL rec num T l x else
      if num < (rec (T ||| 2 ^ b) (updN x.1 b num, x.2)).2 then rec (T ||| 2 ^ b) (updN x.1 b num, x.2) else srchL rec num T l (rec (T ||| 2 ^ b) (updN x.1 b num, x.2)).1
def srch : Nat → Nat → SX → SX × Nat
  | 0, T, x =>
    if ordX k nt (lyP x.1 0 T nb rk st) x < 0 then ((lyP x.1 0 T nb rk st, true, setN (lyP x.1 0 T nb rk st) x.2.2.1 nb, setN (trl k nt (lyP x.1 0 T nb rk st)) x.2.2.2 nt), 0)
    else if ordX k nt (lyP x.1 0 T nb rk st) x = 0 then ((lyP x.1 0 T nb rk st, x.2), gdf (lyP x.1 0 T nb rk st) x.2.2.1 nb) else ((lyP x.1 0 T nb rk st, x.2), 0)
  | num + 1, T, x =>
    if 0 < ordX k nt (lyP x.1 (num + 1) T nb rk st) x then ((lyP x.1 (num + 1) T nb rk st, x.2), 0)
    else srchL (srch num) (num + 1) T (cands o rk st (num + 1)) (lyP x.1 (num + 1) T nb rk st, x.2)
end SR
abbrev sW (fd : Int32) (f g tr : Nat → Int32) (nb nt : Nat) (hs ro : Int32) (K : Nat → Int32) (cv : Int32) (O R S : Nat → Int32) (hs' ro' : Int32) (Kf : Nat → Int32) (cv' : Int32) (RF : Nat → Int32) (t1 t2 t3 t4 : Nat) : List ab_C :=
  [.inr (4, [.ref 101, .ref 102, .ref 103, .int fd]), cI 8 f, cI 8 g, cI 40 tr, .inr (1, [.ref 105, .int (nI nb), .int (nI nt), .int hs, .int ro, .ref 106]), cI 40 K, .inr (2, [.ref t1, .ref 107, .ref 108, .ref 109, .int cv]), cI 8 O, cI 8 R, cI 9 S,
   .inr (1, [.ref 111, .int (nI nb), .int (nI nt), .int hs', .int ro', .ref 112]), cI 40 Kf, .inr (2, [.ref t2, .ref t3, .ref 113, .ref t4, .int cv']), cI 8 RF]
/-- the class's rows hold a pure state -/
def RepX (nt : Nat) (x : SX) (fd : Int32) (f g Kf : Nat → Int32) : Prop := (∀ j, j < 8 → f j = nI (x.1 j) ∧ x.1 j ≤ 8) ∧ (∀ j, j < 8 → g j = nI (x.2.2.1 j) ∧ x.2.2.1 j ≤ 8) ∧ (x.2.1 = true → ∀ j, j < nt → Kf j = nI (x.2.2.2 j) ∧ x.2.2.2 j < 2 ^ 31) ∧ fd = bi x.2.1
set_option maxRecDepth 20000 in
set_option maxHeartbeats 8000000 in
theorem con_search (d nb nt cnt : Nat) (hnb : nb ≤ 8) (hnt : nt ≤ 40) (hcn : cnt ≤ 8) (hs ro cv hs' ro' cv' : Int32) (K O R S RF : Nat → Int32) (k o rk st : Nat → Nat) (hK : ∀ i, i < nt → K i = nI (k i) ∧ k i < 2 ^ 30) (hO : ∀ j, j < nb → O j = nI (o j) ∧ o j < nb) (hR : ∀ b, b < nb → R b = nI (rk b) ∧ rk b < cnt) (hS : ∀ g, g ≤ cnt → S g = nI (st g) ∧ st g ≤ 8) (hSn : ∀ g, g < cnt → st (g + 1) ≤ nb) (hRF : ∀ j, j < nb → RF j = nI (rk (o j))) : ∀ (num T : Nat) (x : SX) (fd : Int32) (f g tr Kf : Nat → Int32) (t1 t2 t3 t4 : Nat), num ≤ nb → T < 256 → RepX nt x fd f g Kf → Con mX3_search (d + 3 + num) 0 0 (sW fd f g tr nb nt hs ro K cv O R S hs' ro' Kf cv' RF t1 t2 t3 t4) [.ref 100, .ref 104, .ref 110, .int (nI num), .int (nI T)] (fun w' v => ∃ (fd2 : Int32) (f2 g2 tr2 Kf2 : Nat → Int32), w' = (sW fd2 f2 g2 tr2 nb nt hs ro K cv O R S hs' ro' Kf2 cv' RF t1 t2 t3 t4) ∧ RepX nt (srch k nt nb o rk st num T x).1 fd2 f2 g2 Kf2 ∧ v = some (.int (nI (srch k nt nb o rk st num T x).2)) ∧ (srch k nt nb o rk st num T x).2 ≤ 8) := by
  intro num
  induction num with
  | zero =>
    intro T x fd f g tr Kf t1 t2 t3 t4 hnum hT hx
    refine Con.of (ab_okc rfl (by decide)) (Nat.le_of_ble_eq_true rfl) ?_
    show G ab_x0 mX3_search (d + 2 + 1) 0 0 _ 0 [some (.ref 100), some (.ref 104), some (.ref 110), some (.int (nI 0)), some (.int (nI T)), none, none, none, none, none, none] [] _
    obtain ⟨hf, hg, hKf, hfd⟩ := id hx
    have hlay := con_layTrial (d + 2 - 1) nb nt (0) T cnt hnb hnt (by omega) hT (by omega) f tr K R S x.1 k rk st hf hK hR hS fd hs ro cv 4 5 6
    rw [show d + 2 - 1 + 1 = d + 2 by omega] at hlay
    refine G_aload_n dX3_search_0 rfl ?_
    refine G_aload_n dX3_search_1 rfl ?_
    refine G_iload_n dX3_search_2 rfl ?_
    refine G_iload dX3_search_3 rfl ?_
    refine G_V (is := [0, 1, 3, 4, 5, 6, 8, 9]) (fo := [102, t1, 107]) (as := [.ref 100, .ref 103, .int (nI (0)), .int (nI T)]) (as' := [.ref 104, .int (nI (0)), .int (nI T)]) (st := []) (k := 0) (n := 0) cX3_search_5 hlay ab_pfx rfl (by decide) rfl rfl rfl rfl rfl rfl (Nat.le_of_ble_eq_true rfl) dX3_search_5 (fun w' v h => by obtain ⟨_, _, _, h, _⟩ := h; rw [h]; exact (rfl : (8 : Nat) = 8)) (fun w2 v2 hq => ?_)
    obtain ⟨rfl, f2, tr2, rfl, hf2, htr2⟩ := hq
    generalize hp1 : lyP x.1 (0) T nb rk st = p1 at hf2 htr2
    refine G_w (st' := []) (w' := (sW fd f2 g tr2 nb nt hs ro K cv O R S hs' ro' Kf cv' RF t1 t2 t3 t4)) rfl rfl ?_
    have htr3 : ∀ j, j < nt → tr2 j = nI (trl k nt p1 j) ∧ trl k nt p1 j < 2 ^ 31 := fun j hj => by
      have a := pshF_le (s := rowF k nt p1) (m := 2 ^ 30) (i := j) (fun q _ => Nat.le_of_lt (rowF_lt k nt _ q))
      exact ⟨htr2 j hj, by show pshF (rowF k nt p1) j < 2 ^ 31; omega⟩
    have goOn : G ab_x0 mX3_search (d + 2 + 1) 0 0 (fun w' v => ∃ (fd2 : Int32) (f2 g2 tr2 Kf2 : Nat → Int32), w' = (sW fd2 f2 g2 tr2 nb nt hs ro K cv O R S hs' ro' Kf2 cv' RF t1 t2 t3 t4) ∧ RepX nt (srch k nt nb o rk st 0 T x).1 fd2 f2 g2 Kf2 ∧ v = some (.int (nI (srch k nt nb o rk st 0 T x).2)) ∧ (srch k nt nb o rk st 0 T x).2 ≤ 8) 34 [some (.ref 100), some (.ref 104), some (.ref 110), some (.int (nI 0)), some (.int (nI T)), none, none, none, none, none, none] [.int (ordX k nt p1 x)] (sW fd f2 g tr2 nb nt hs ro K cv O R S hs' ro' Kf cv' RF t1 t2 t3 t4) := by
      refine G_istore (L' := [_, _, _, _, _, _, _, _, _, _, _]) dX3_search_34 (Nat.le_of_ble_eq_true rfl) rfl ?_
      refine G_iload_n dX3_search_36 rfl ?_
      refine G_iconst (v := 1) dX3_search_37 (by decide) ?_
      refine G_icmp_ltN (tgt := 47) 0 1 dX3_search_38 (by decide) rfl rfl (by omega) (by omega) (fun _ => ?_) (fun h => by omega)
      have hset := con_settle d nb nt hnb hnt (ordX k nt p1 x) f2 g tr2 Kf p1 x.2.2.1 (fun j hj => hf2 j (by omega)) (fun _ j hj => hg j (by omega)) fd (nI nt) (nI nb) hs ro hs' ro' 4 5 6
      refine G_aload_n dX3_search_47 rfl ?_
      refine G_aload_n dX3_search_48 rfl ?_
      refine G_aload_n dX3_search_49 rfl ?_
      refine G_iload dX3_search_50 rfl ?_
      refine G_V (is := [0, 1, 2, 3, 4, 10, 11]) (fo := [105, 106, 112]) (as := [.ref 100, .ref 104, .ref 105, .int (ordX k nt p1 x)]) (as' := [.ref 104, .ref 110, .int (ordX k nt p1 x)]) (st := []) (k := 0) (n := 0) cX3_search_52 hset ab_pfx rfl (by decide) rfl rfl rfl rfl rfl rfl (Nat.le_of_ble_eq_true rfl) dX3_search_52 (fun w' v h => by rcases h with ⟨_, h, _⟩ | ⟨_, h, _⟩ | ⟨_, h, _⟩ <;> rw [h] <;> exact (rfl : (7 : Nat) = 7)) (fun w2 v2 hq => ?_)
      have esr : srch k nt nb o rk st 0 T x = (if ordX k nt p1 x < 0 then ((p1, true, setN p1 x.2.2.1 nb, setN (trl k nt p1) x.2.2.2 nt), 0) else if ordX k nt p1 x = 0 then ((p1, x.2), gdf p1 x.2.2.1 nb) else ((p1, x.2), 0)) := by
        rw [← hp1]
        rfl
      rcases hq with ⟨h1, rfl, rfl⟩ | ⟨h1, rfl, rfl⟩ | ⟨h1, rfl, rfl⟩
      · rw [if_pos h1] at esr
        refine G_w (st' := [.int 0]) (w' := (sW 1 f2 (va_cpy f2 g 0 0 nb) tr2 nb nt hs ro K cv O R S hs' ro' (va_cpy tr2 Kf 0 0 nt) cv' RF t1 t2 t3 t4)) rfl rfl ?_
        refine G_ret (v := some (.int _)) ⟨dX3_search_55, _, rfl, rfl⟩ ⟨1, f2, _, tr2, _, rfl, ?_, ?_, ?_⟩
        · rw [esr]
          refine ⟨hf2, fun j hj => ?_, fun _ j hj => ?_, rfl⟩
          · show va_cpy f2 g 0 0 nb j = nI (setN p1 x.2.2.1 nb j) ∧ setN p1 x.2.2.1 nb j ≤ 8
            unfold setN
            by_cases hjb : j < nb
            · rw [pk_cpy_in (by omega) (by omega), show 0 + (j - 0) = j by omega, if_pos hjb]; exact hf2 j hj
            · rw [pk_cpy_out (by omega), if_neg hjb]; exact hg j hj
          · show va_cpy tr2 Kf 0 0 nt j = nI (setN (trl k nt p1) x.2.2.2 nt j) ∧ setN (trl k nt p1) x.2.2.2 nt j < 2 ^ 31
            unfold setN
            rw [pk_cpy_in (by omega) (by omega), show 0 + (j - 0) = j by omega, if_pos hj]
            exact htr3 j hj
        · rw [esr]; rfl
        · rw [esr]; exact Nat.zero_le _
      · have hn1 : ¬ ordX k nt p1 x < 0 := by rw [h1]; decide
        rw [if_neg hn1, if_pos h1] at esr
        refine G_w (st' := [.int (nI (gdf p1 x.2.2.1 nb))]) (w' := (sW fd f2 g tr2 nb nt hs ro K cv O R S hs' ro' Kf cv' RF t1 t2 t3 t4)) rfl rfl ?_
        refine G_ret (v := some (.int _)) ⟨dX3_search_55, _, rfl, rfl⟩ ⟨fd, f2, g, tr2, Kf, rfl, ?_, ?_, ?_⟩
        · rw [esr]; exact ⟨hf2, hg, hKf, hfd⟩
        · rw [esr]
        · rw [esr]; exact gdf_le (fun b hb => (hf2 b (by omega)).2)
      · have hn1 : ¬ ordX k nt p1 x < 0 := fun q => Int32.lt_irrefl (Int32.lt_trans h1 q)
        have hn2 : ¬ ordX k nt p1 x = 0 := fun q => by rw [q] at h1; exact absurd h1 (by decide)
        rw [if_neg hn1, if_neg hn2] at esr
        refine G_w (st' := [.int 0]) (w' := (sW fd f2 g tr2 nb nt hs ro K cv O R S hs' ro' Kf cv' RF t1 t2 t3 t4)) rfl rfl ?_
        refine G_ret (v := some (.int _)) ⟨dX3_search_55, _, rfl, rfl⟩ ⟨fd, f2, g, tr2, Kf, rfl, ?_, ?_, ?_⟩
        · rw [esr]; exact ⟨hf2, hg, hKf, hfd⟩
        · rw [esr]; rfl
        · rw [esr]; exact Nat.zero_le _
    refine G_aload_n dX3_search_8 rfl ?_
    refine G_get (f := 3) kc4 dX3_search_9 fX3_21 (by decide) rfl rfl ?_
    cases hfo : x.2.1 with
    | false =>
      rw [hfo] at hfd
      subst hfd
      refine G_if_eq (tgt := 33) dX3_search_12 (by decide) (fun _ => ?_) (fun h => absurd rfl h)
      refine G_iconst (v := -1) dX3_search_33 (by decide) ?_
      have e : ordX k nt p1 x = -1 := by unfold ordX; rw [hfo]; rfl
      rw [e] at goOn
      exact goOn
    | true =>
      rw [hfo] at hfd
      subst hfd
      refine G_if_eq (tgt := 33) dX3_search_12 (by decide) (fun h => absurd h (by decide)) (fun _ => ?_)
      refine G_aload_n dX3_search_15 rfl ?_
      refine G_get (f := 2) kc4 dX3_search_16 fX3_18 (by decide) rfl rfl ?_
      refine G_aload_n dX3_search_19 rfl ?_
      refine G_get (f := 0) kc1 dX3_search_20 fX3_54 (by decide) rfl rfl ?_
      refine G_aload_n dX3_search_23 rfl ?_
      refine G_get (f := 2) kc1 dX3_search_24 fX3_31 (by decide) rfl rfl ?_
      refine G_S (is := [3, 11]) (fo := []) (as := [.ref 100, .ref 101, .int (nI nt)]) (as' := [.ref 103, .ref 111, .int (nI nt)]) (st := []) (k := 0) (n := 0) cX3_search_27 (con_compare (d + 2) tr2 Kf 40 40 nt hnt hnt (by decide) (by decide)) ab_pfx rfl (by decide) rfl rfl rfl rfl (Nat.le_of_ble_eq_true rfl) dX3_search_27 (fun w' v h => by rw [h.1]) (fun w2 v2 hq => ?_)
      obtain ⟨rfl, hq⟩ := hq
      have hv := cmpR_of htr3 (hKf hfo) hq
      subst hv
      refine G_w (st' := [.int (cmpR (trl k nt p1) x.2.2.2 nt)]) (w' := (sW (bi true) f2 g tr2 nb nt hs ro K cv O R S hs' ro' Kf cv' RF t1 t2 t3 t4)) rfl rfl ?_
      refine G_goto (tgt := 34) dX3_search_30 (by decide) ?_
      have e : ordX k nt p1 x = cmpR (trl k nt p1) x.2.2.2 nt := by unfold ordX; rw [hfo]; rfl
      rw [e] at goOn
      exact goOn
  | succ n ihn =>
    intro T x fd f g tr Kf t1 t2 t3 t4 hnum hT hx
    refine Con.of (ab_okc rfl (by decide)) (Nat.le_of_ble_eq_true rfl) ?_
    show G ab_x0 mX3_search (d + 3 + n + 1) 0 0 _ 0 [some (.ref 100), some (.ref 104), some (.ref 110), some (.int (nI (n + 1))), some (.int (nI T)), none, none, none, none, none, none] [] _
    obtain ⟨hf, hg, hKf, hfd⟩ := id hx
    have hlay := con_layTrial (d + 3 + n - 1) nb nt ((n + 1)) T cnt hnb hnt (by omega) hT (by omega) f tr K R S x.1 k rk st hf hK hR hS fd hs ro cv 4 5 6
    rw [show d + 3 + n - 1 + 1 = d + 3 + n by omega] at hlay
    refine G_aload_n dX3_search_0 rfl ?_
    refine G_aload_n dX3_search_1 rfl ?_
    refine G_iload_n dX3_search_2 rfl ?_
    refine G_iload dX3_search_3 rfl ?_
    refine G_V (is := [0, 1, 3, 4, 5, 6, 8, 9]) (fo := [102, t1, 107]) (as := [.ref 100, .ref 103, .int (nI ((n + 1))), .int (nI T)]) (as' := [.ref 104, .int (nI ((n + 1))), .int (nI T)]) (st := []) (k := 0) (n := 0) cX3_search_5 hlay ab_pfx rfl (by decide) rfl rfl rfl rfl rfl rfl (Nat.le_of_ble_eq_true rfl) dX3_search_5 (fun w' v h => by obtain ⟨_, _, _, h, _⟩ := h; rw [h]; exact (rfl : (8 : Nat) = 8)) (fun w2 v2 hq => ?_)
    obtain ⟨rfl, f2, tr2, rfl, hf2, htr2⟩ := hq
    generalize hp1 : lyP x.1 ((n + 1)) T nb rk st = p1 at hf2 htr2
    refine G_w (st' := []) (w' := (sW fd f2 g tr2 nb nt hs ro K cv O R S hs' ro' Kf cv' RF t1 t2 t3 t4)) rfl rfl ?_
    have htr3 : ∀ j, j < nt → tr2 j = nI (trl k nt p1 j) ∧ trl k nt p1 j < 2 ^ 31 := fun j hj => by
      have a := pshF_le (s := rowF k nt p1) (m := 2 ^ 30) (i := j) (fun q _ => Nat.le_of_lt (rowF_lt k nt _ q))
      exact ⟨htr2 j hj, by show pshF (rowF k nt p1) j < 2 ^ 31; omega⟩
    have goOn : G ab_x0 mX3_search (d + 3 + n + 1) 0 0 (fun w' v => ∃ (fd2 : Int32) (f2 g2 tr2 Kf2 : Nat → Int32), w' = (sW fd2 f2 g2 tr2 nb nt hs ro K cv O R S hs' ro' Kf2 cv' RF t1 t2 t3 t4) ∧ RepX nt (srch k nt nb o rk st (n + 1) T x).1 fd2 f2 g2 Kf2 ∧ v = some (.int (nI (srch k nt nb o rk st (n + 1) T x).2)) ∧ (srch k nt nb o rk st (n + 1) T x).2 ≤ 8) 34 [some (.ref 100), some (.ref 104), some (.ref 110), some (.int (nI (n + 1))), some (.int (nI T)), none, none, none, none, none, none] [.int (ordX k nt p1 x)] (sW fd f2 g tr2 nb nt hs ro K cv O R S hs' ro' Kf cv' RF t1 t2 t3 t4) := by
      refine G_istore (L' := [_, _, _, _, _, _, _, _, _, _, _]) dX3_search_34 (Nat.le_of_ble_eq_true rfl) rfl ?_
      refine G_iload_n dX3_search_36 rfl ?_
      refine G_iconst (v := 1) dX3_search_37 (by decide) ?_
      refine G_icmp_ltN (tgt := 47) (n + 1) 1 dX3_search_38 (by decide) rfl rfl (by omega) (by omega) (fun h => by omega) (fun _ => ?_)
      refine G_iload_n dX3_search_41 rfl ?_
      refine G_bipush (v := 8) dX3_search_42 (by decide) ?_
      refine G_icmp_leN (tgt := 56) (n + 1) 8 dX3_search_44 (by decide) rfl rfl (by omega) (by omega) (fun _ => ?_) (fun h => by omega)
      have esr : srch k nt nb o rk st (n + 1) T x = (if 0 < ordX k nt p1 x then ((p1, x.2), 0) else srchL (srch k nt nb o rk st n) (n + 1) T (cands o rk st (n + 1)) (p1, x.2)) := by
        rw [← hp1]
        rfl
      refine G_iload dX3_search_56 rfl ?_
      refine G_if_le (tgt := 63) dX3_search_58 (by decide) (fun hle => ?_) (fun hgt => ?_)
      rotate_left
      · refine G_iconst (v := 0) dX3_search_61 (by decide) ?_
        rw [if_pos (Int32.not_le.mp hgt)] at esr
        refine G_ret (v := some (.int _)) ⟨dX3_search_62, _, rfl, rfl⟩ ⟨fd, f2, g, tr2, Kf, rfl, ?_, ?_, ?_⟩
        · rw [esr]; exact ⟨hf2, hg, hKf, hfd⟩
        · rw [esr]; rfl
        · rw [esr]; exact Nat.zero_le _
      have hn0 : ¬ 0 < ordX k nt p1 x := Int32.not_lt.mpr hle
      rw [if_neg hn0] at esr
      generalize hgr : rk (o n) = gr
      have hgc : gr < cnt := by rw [← hgr]; exact (hR _ (hO n (by omega)).2).2
      have hRFn : RF n = nI gr := by rw [hRF n (by omega), hgr]
      obtain ⟨s1, s2⟩ := hS gr (by omega)
      obtain ⟨s3, s4⟩ := hS (gr + 1) (by omega)
      have s5 := hSn gr hgc
      refine G_aload_n dX3_search_63 rfl ?_
      refine G_get (f := 5) kc1 dX3_search_64 fX3_34 (by decide) rfl rfl ?_
      refine G_astore (L' := [_, _, _, _, _, _, _, _, _, _, _]) dX3_search_67 (Nat.le_of_ble_eq_true rfl) rfl ?_
      refine G_aload_n dX3_search_69 rfl ?_
      refine G_get (f := 5) kc1 dX3_search_70 fX3_34 (by decide) rfl rfl ?_
      refine G_get (f := 2) kc2 dX3_search_73 fX3_38 (by decide) rfl rfl ?_
      refine G_iload_n dX3_search_76 rfl ?_
      refine G_iconst (v := 1) dX3_search_77 (by decide) ?_
      refine G_isub dX3_search_78 ?_
      refine G_ialdN n dX3_search_79 rfl (by exact nI_pred n) (by omega) (by omega) ?_
      rw [hRFn]
      refine G_istore (L' := [_, _, _, _, _, _, _, _, _, _, _]) dX3_search_80 (Nat.le_of_ble_eq_true rfl) rfl ?_
      refine G_aload dX3_search_82 rfl ?_
      refine G_get (f := 3) kc2 dX3_search_84 fX3_65 (by decide) rfl rfl ?_
      refine G_iload dX3_search_87 rfl ?_
      refine G_ialdN gr dX3_search_89 rfl rfl (by omega) (by omega) ?_
      rw [s1]
      refine G_istore (L' := [_, _, _, _, _, _, _, _, _, _, _]) dX3_search_90 (Nat.le_of_ble_eq_true rfl) rfl ?_
      have ecan : cands o rk st (n + 1) = (List.range (st (gr + 1) - st gr)).map (fun i => o (st gr + i)) := by
        unfold cands
        rw [show n + 1 - 1 = n by omega, hgr]
      rw [ecan] at esr
      have loop : ∀ (i : Nat) (y : SX) (fd1 : Int32) (f1 g1 tr1 Kf1 : Nat → Int32) (z9 z10 : Option Value), i ≤ st (gr + 1) - st gr → RepX nt y fd1 f1 g1 Kf1 → srch k nt nb o rk st (n + 1) T x = srchL (srch k nt nb o rk st n) (n + 1) T (((List.range (st (gr + 1) - st gr)).map (fun i => o (st gr + i))).drop i) y → G ab_x0 mX3_search (d + 3 + n + 1) 0 0 (fun w' v => ∃ (fd2 : Int32) (f2 g2 tr2 Kf2 : Nat → Int32), w' = (sW fd2 f2 g2 tr2 nb nt hs ro K cv O R S hs' ro' Kf2 cv' RF t1 t2 t3 t4) ∧ RepX nt (srch k nt nb o rk st (n + 1) T x).1 fd2 f2 g2 Kf2 ∧ v = some (.int (nI (srch k nt nb o rk st (n + 1) T x).2)) ∧ (srch k nt nb o rk st (n + 1) T x).2 ≤ 8) 92 [some (.ref 100), some (.ref 104), some (.ref 110), some (.int (nI (n + 1))), some (.int (nI T)), some (.int (ordX k nt p1 x)), some (.ref 106), some (.int (nI gr)), some (.int (nI (st gr + i))), z9, z10] [] (sW fd1 f1 g1 tr1 nb nt hs ro K cv O R S hs' ro' Kf1 cv' RF t1 t2 t3 t4) := by
        intro i
        induction hm : st (gr + 1) - st gr - i using Nat.strongRecOn generalizing i with
        | ind m ih =>
          subst hm
          intro y fd1 f1 g1 tr1 Kf1 z9 z10 hi hy hsy
          refine G_iload dX3_search_92 rfl ?_
          refine G_aload dX3_search_94 rfl ?_
          refine G_get (f := 3) kc2 dX3_search_96 fX3_65 (by decide) rfl rfl ?_
          refine G_iload dX3_search_99 rfl ?_
          refine G_iconst (v := 1) dX3_search_101 (by decide) ?_
          refine G_iadd dX3_search_102 ?_
          refine G_ialdN (gr + 1) dX3_search_103 rfl (nI_1 gr) (by omega) (by omega) ?_
          rw [s3]
          refine G_icmp_geN (tgt := 168) (st gr + i) (st (gr + 1)) dX3_search_104 (by decide) rfl rfl (by omega) (by omega) (fun hge => ?_) (fun hlt => ?_)
          · refine G_iconst (v := 0) dX3_search_168 (by decide) ?_
            rw [List.drop_eq_nil_of_le (by rw [List.length_map, List.length_range]; omega)] at hsy
            have hsy : srch k nt nb o rk st (n + 1) T x = (y, 0) := hsy
            refine G_ret (v := some (.int _)) ⟨dX3_search_169, _, rfl, rfl⟩ ⟨fd1, f1, g1, tr1, Kf1, rfl, ?_, ?_, ?_⟩
            · rw [hsy]; exact hy
            · rw [hsy]; rfl
            · rw [hsy]; exact Nat.zero_le _
          have hat : st gr + i < nb := by omega
          obtain ⟨o1, o2⟩ := hO (st gr + i) hat
          have hdr : ((List.range (st (gr + 1) - st gr)).map (fun i => o (st gr + i))).drop i = o (st gr + i) :: ((List.range (st (gr + 1) - st gr)).map (fun i => o (st gr + i))).drop (i + 1) := by
            rw [List.drop_eq_getElem_cons (by rw [List.length_map, List.length_range]; omega)]
            congr 1
            simp
          rw [hdr] at hsy
          generalize o (st gr + i) = b at o1 o2 hsy
          refine G_aload dX3_search_107 rfl ?_
          refine G_get (f := 1) kc2 dX3_search_109 fX3_43 (by decide) rfl rfl ?_
          refine G_iload dX3_search_112 rfl ?_
          refine G_ialdN (st gr + i) dX3_search_114 rfl rfl (by omega) (by omega) ?_
          rw [o1]
          refine G_istore (L' := [_, _, _, _, _, _, _, _, _, _, _]) dX3_search_115 (Nat.le_of_ble_eq_true rfl) rfl ?_
          refine G_iload dX3_search_117 rfl ?_
          refine G_iload dX3_search_119 rfl ?_
          refine G_ishr dX3_search_121 ?_
          refine G_iconst (v := 1) dX3_search_122 (by decide) ?_
          refine G_iand dX3_search_123 ?_
          have hbit := tk_bit T hT b (by omega)
          have nxt : ∀ (y2 : SX) (fd3 : Int32) (f3 g3 tr3 Kf3 : Nat → Int32) (z : Option Value), RepX nt y2 fd3 f3 g3 Kf3 → srch k nt nb o rk st (n + 1) T x = srchL (srch k nt nb o rk st n) (n + 1) T (((List.range (st (gr + 1) - st gr)).map (fun i => o (st gr + i))).drop (i + 1)) y2 → G ab_x0 mX3_search (d + 3 + n + 1) 0 0 (fun w' v => ∃ (fd2 : Int32) (f2 g2 tr2 Kf2 : Nat → Int32), w' = (sW fd2 f2 g2 tr2 nb nt hs ro K cv O R S hs' ro' Kf2 cv' RF t1 t2 t3 t4) ∧ RepX nt (srch k nt nb o rk st (n + 1) T x).1 fd2 f2 g2 Kf2 ∧ v = some (.int (nI (srch k nt nb o rk st (n + 1) T x).2)) ∧ (srch k nt nb o rk st (n + 1) T x).2 ≤ 8) 162 [some (.ref 100), some (.ref 104), some (.ref 110), some (.int (nI (n + 1))), some (.int (nI T)), some (.int (ordX k nt p1 x)), some (.ref 106), some (.int (nI gr)), some (.int (nI (st gr + i))), some (.int (nI b)), z] [] (sW fd3 f3 g3 tr3 nb nt hs ro K cv O R S hs' ro' Kf3 cv' RF t1 t2 t3 t4) := by
            intro y2 fd3 f3 g3 tr3 Kf3 z a1 a2
            refine G_iinc (L' := [_, _, _, _, _, _, _, _, _, _, _]) (v := nI (st gr + (i + 1))) dX3_search_162 rfl (nI_succ (st gr + i)).symm rfl ?_
            refine G_goto (tgt := 92) dX3_search_165 (by decide) ?_
            exact ih (st (gr + 1) - st gr - (i + 1)) (by omega) (i + 1) rfl y2 fd3 f3 g3 tr3 Kf3 _ _ (by omega) a1 a2
          refine G_if_ne (tgt := 162) dX3_search_124 (by decide) (fun h => ?_) (fun h => ?_)
          · have ht : T.testBit b = true := by
              cases q : T.testBit b
              · exact absurd (hbit.mpr q) h
              · rfl
            refine nxt y fd1 f1 g1 tr1 Kf1 _ hy ?_
            rw [hsy]
            show (if T.testBit b = true then _ else _) = _
            rw [if_pos ht]
          have ht : ¬ T.testBit b = true := by rw [hbit.mp h]; decide
          have hsy : srch k nt nb o rk st (n + 1) T x = if n + 1 < (srch k nt nb o rk st n (T ||| 2 ^ b) (updN y.1 b (n + 1), y.2)).2 then srch k nt nb o rk st n (T ||| 2 ^ b) (updN y.1 b (n + 1), y.2) else srchL (srch k nt nb o rk st n) (n + 1) T (((List.range (st (gr + 1) - st gr)).map (fun i => o (st gr + i))).drop (i + 1)) (srch k nt nb o rk st n (T ||| 2 ^ b) (updN y.1 b (n + 1), y.2)).1 := by
            rw [hsy]
            show (if T.testBit b = true then _ else _) = _
            rw [if_neg ht]
          obtain ⟨ho1, ho2⟩ := tk_or T hT b (by omega)
          refine G_aload_n dX3_search_127 rfl ?_
          refine G_get (f := 0) kc4 dX3_search_128 fX3_9 (by decide) rfl rfl ?_
          refine G_iload dX3_search_131 rfl ?_
          refine G_iload_n dX3_search_133 rfl ?_
          refine G_iastN (w' := (sW fd1 (upd f1 b (nI (n + 1))) g1 tr1 nb nt hs ro K cv O R S hs' ro' Kf1 cv' RF t1 t2 t3 t4)) b dX3_search_134 rfl rfl (by omega) (by omega) rfl ?_
          have hy2 : RepX nt (updN y.1 b (n + 1), y.2) fd1 (upd f1 b (nI (n + 1))) g1 Kf1 := by
            refine ⟨fun j hj => ?_, hy.2⟩
            show upd f1 b (nI (n + 1)) j = nI (updN y.1 b (n + 1) j) ∧ updN y.1 b (n + 1) j ≤ 8
            by_cases e : j = b
            · rw [e, pk_us, updN_s]; exact ⟨rfl, by omega⟩
            · rw [pk_un e, updN_n e]; exact hy.1 j hj
          generalize hy0 : ((updN y.1 b (n + 1), y.2) : SX) = y0 at hy2 hsy
          refine G_aload_n dX3_search_135 rfl ?_
          refine G_aload_n dX3_search_136 rfl ?_
          refine G_aload_n dX3_search_137 rfl ?_
          refine G_iload_n dX3_search_138 rfl ?_
          refine G_iconst (v := 1) dX3_search_139 (by decide) ?_
          refine G_isub dX3_search_140 ?_
          refine G_topi (y := nI n) (nI_pred n) ?_
          refine G_iload dX3_search_141 rfl ?_
          refine G_iconst (v := 1) dX3_search_143 (by decide) ?_
          refine G_iload dX3_search_144 rfl ?_
          refine G_ishl dX3_search_146 ?_
          refine G_ior dX3_search_147 ?_
          refine G_topi ho1 ?_
          refine G_V (is := [0, 1, 2, 3, 4, 5, 6, 7, 8, 9, 10, 11, 12, 13]) (fo := [t1, t2, t3, t4]) (as := [.ref 100, .ref 104, .ref 110, .int (nI n), .int (nI (T ||| 2 ^ b))]) (as' := [.ref 104, .ref 110, .int (nI n), .int (nI (T ||| 2 ^ b))]) (st := []) (k := 0) (n := 0) cX3_search_148 (ihn (T ||| 2 ^ b) y0 fd1 (upd f1 b (nI (n + 1))) g1 tr1 Kf1 4 5 6 7 (by omega) ho2 hy2) ab_pfx rfl (by decide) rfl rfl rfl rfl rfl rfl (Nat.le_of_ble_eq_true rfl) dX3_search_148 (fun w' v h => by obtain ⟨_, _, _, _, _, h, _⟩ := h; rw [h]; exact (rfl : (14 : Nat) = 14)) (fun w2 v2 hq => ?_)
          obtain ⟨fd3, f3, g3, tr3, Kf3, rfl, hrep, rfl, hb8⟩ := hq
          generalize hres : srch k nt nb o rk st n (T ||| 2 ^ b) y0 = res at hrep hb8 hsy
          refine G_w (st' := [.int (nI res.2)]) (w' := (sW fd3 f3 g3 tr3 nb nt hs ro K cv O R S hs' ro' Kf3 cv' RF t1 t2 t3 t4)) rfl rfl ?_
          refine G_istore (L' := [_, _, _, _, _, _, _, _, _, _, _]) dX3_search_151 (Nat.le_of_ble_eq_true rfl) rfl ?_
          refine G_iload dX3_search_153 rfl ?_
          refine G_iload_n dX3_search_155 rfl ?_
          refine G_icmp_leN (tgt := 162) res.2 (n + 1) dX3_search_156 (by decide) rfl rfl (by omega) (by omega) (fun hbk => ?_) (fun hbk => ?_)
          · refine nxt res.1 fd3 f3 g3 tr3 Kf3 _ hrep ?_
            rw [hsy, if_neg (by omega)]
          · rw [if_pos hbk] at hsy
            refine G_iload dX3_search_159 rfl ?_
            refine G_ret (v := some (.int _)) ⟨dX3_search_161, _, rfl, rfl⟩ ⟨fd3, f3, g3, tr3, Kf3, rfl, ?_, ?_, ?_⟩
            · rw [hsy]; exact hrep
            · rw [hsy]
            · rw [hsy]; exact hb8
      exact loop 0 (p1, x.2) fd f2 g tr2 Kf _ _ (by omega) ⟨hf2, hg, hKf, hfd⟩ (by rw [esr, List.drop_zero])
    refine G_aload_n dX3_search_8 rfl ?_
    refine G_get (f := 3) kc4 dX3_search_9 fX3_21 (by decide) rfl rfl ?_
    cases hfo : x.2.1 with
    | false =>
      rw [hfo] at hfd
      subst hfd
      refine G_if_eq (tgt := 33) dX3_search_12 (by decide) (fun _ => ?_) (fun h => absurd rfl h)
      refine G_iconst (v := -1) dX3_search_33 (by decide) ?_
      have e : ordX k nt p1 x = -1 := by unfold ordX; rw [hfo]; rfl
      rw [e] at goOn
      exact goOn
    | true =>
      rw [hfo] at hfd
      subst hfd
      refine G_if_eq (tgt := 33) dX3_search_12 (by decide) (fun h => absurd h (by decide)) (fun _ => ?_)
      refine G_aload_n dX3_search_15 rfl ?_
      refine G_get (f := 2) kc4 dX3_search_16 fX3_18 (by decide) rfl rfl ?_
      refine G_aload_n dX3_search_19 rfl ?_
      refine G_get (f := 0) kc1 dX3_search_20 fX3_54 (by decide) rfl rfl ?_
      refine G_aload_n dX3_search_23 rfl ?_
      refine G_get (f := 2) kc1 dX3_search_24 fX3_31 (by decide) rfl rfl ?_
      refine G_S (is := [3, 11]) (fo := []) (as := [.ref 100, .ref 101, .int (nI nt)]) (as' := [.ref 103, .ref 111, .int (nI nt)]) (st := []) (k := 0) (n := 0) cX3_search_27 (con_compare (d + 3 + n) tr2 Kf 40 40 nt hnt hnt (by decide) (by decide)) ab_pfx rfl (by decide) rfl rfl rfl rfl (Nat.le_of_ble_eq_true rfl) dX3_search_27 (fun w' v h => by rw [h.1]) (fun w2 v2 hq => ?_)
      obtain ⟨rfl, hq⟩ := hq
      have hv := cmpR_of htr3 (hKf hfo) hq
      subst hv
      refine G_w (st' := [.int (cmpR (trl k nt p1) x.2.2.2 nt)]) (w' := (sW (bi true) f2 g tr2 nb nt hs ro K cv O R S hs' ro' Kf cv' RF t1 t2 t3 t4)) rfl rfl ?_
      refine G_goto (tgt := 34) dX3_search_30 (by decide) ?_
      have e : ordX k nt p1 x = cmpR (trl k nt p1) x.2.2.2 nt := by unfold ordX; rw [hfo]; rfl
      rw [e] at goOn
      exact goOn
