/-! Hasher.refresh: the rounds. -/
theorem G_w {xo : ab_XO} {M : ab_M} {d k n : Nat} {Q : List ab_C → Option Value → Prop} {pc : Nat} {L : List (Option Value)} {st st' : List Value} {w w' : List ab_C} (h1 : st = st') (h2 : w = w') (kk : G xo M d k n Q pc L st' w') : G xo M d k n Q pc L st w := by subst h1; subst h2; exact kk
/-- the world of refresh: nx: hasher.next's token, gr: graph.groups'; A: the cells 5 .. 9, B: the cells 12 .. 16 -/
abbrev mV (nx gr : Nat) (s : SS) (len : Int32) (D : Nat → Int32) (cA : Int32) (FA a1 a2 a3 : Nat → Int32) (nb nt : Nat) (hs ro : Int32) (K : Nat → Int32) (cB : Int32) (FB b1 b2 b3 : Nat → Int32) : List ab_C :=
  [.inr (3, [.ref 101, .ref 104, .ref nx]), .inr (7, [.ref 102, .ref 103, .int (nI s.2.2), .int len]), cI 8 s.1, cI 64 s.2.1, cI 40 D, .inr (2, [.ref 106, .ref 107, .ref 108, .ref 109, .int cA]), cI 64 FA, cI 8 a1, cI 8 a2, cI 9 a3,
   .inr (1, [.ref 111, .int (nI nb), .int (nI nt), .int hs, .int ro, .ref gr]), cI 40 K, .inr (2, [.ref 113, .ref 114, .ref 115, .ref 116, .int cB]), cI 64 FB, cI 8 b1, cI 8 b2, cI 9 b3]
/-- one round: F2 are the hashes behind F -/
def Rnd (nb nt : Nat) (k : Nat → Nat) (F F2 : Nat → Int32) : Prop := ∃ (o rk st : Nat → Nat) (cn : Nat), GP (hv F) nb o rk st cn ∧ ∀ b j, b < nb → j < 8 → F2 (b * 8 + j) = dig (msgB F (fun g => o (st g)) rk k nt b) j
/-- the first hashes -/
def Rn0 (nb : Nat) (F : Nat → Int32) : Prop := ∀ b j, b < nb → j < 8 → F (b * 8 + j) = ab_l ab_noBytes j
def cntIs (F : Nat → Int32) (nb cn : Nat) : Prop := ∃ o rk st, GP (hv F) nb o rk st cn
/-- m rounds that made more each: from first hashes to F, of cn groups -/
def Rns (nb nt : Nat) (k : Nat → Nat) : Nat → (Nat → Int32) → Nat → Prop
  | 0, F, cn => Rn0 nb F ∧ cntIs F nb cn
  | m + 1, F, cn => ∃ (E : Nat → Int32) (ce : Nat), Rns nb nt k m E ce ∧ Rnd nb nt k E F ∧ cntIs F nb cn ∧ ce < cn
/-- THE HASHES F of a graph and how many rounds were made -/
def Hsh (nb nt : Nat) (k : Nat → Nat) (F : Nat → Int32) (R : Nat) : Prop :=
  (nb < 2 ∧ R = 1 ∧ ∃ E, Rn0 nb E ∧ Rnd nb nt k E F) ∨
  (2 ≤ nb ∧ ∃ m cn, R = m + 1 ∧ Rns nb nt k m F cn ∧ (cn = nb ∨ ∃ E ce, Rnd nb nt k F E ∧ cntIs E nb ce ∧ ce ≤ cn))
theorem cnt_one {F : Nat → Int32} {nb cn : Nat} (h : cntIs F nb cn) (hn : 0 < nb) : 1 ≤ cn := by
  obtain ⟨o, rk, st, h⟩ := h
  have := h.2.2.2.1 0 hn
  omega
theorem cnt_le {F : Nat → Int32} {nb cn : Nat} (h : cntIs F nb cn) : cn ≤ nb := by
  obtain ⟨o, rk, st, h⟩ := h
  exact h.2.2.2.2.2.2.2.1
theorem Rns_ge {nb nt : Nat} {k : Nat → Nat} (hn : 0 < nb) : ∀ {m : Nat} {F : Nat → Int32} {cn : Nat}, Rns nb nt k m F cn → m + 1 ≤ cn ∧ cntIs F nb cn
  | 0, F, cn, h => ⟨cnt_one h.2 hn, h.2⟩
  | m + 1, F, cn, ⟨E, ce, h1, _, h3, h4⟩ => by
    have := (Rns_ge hn h1).1
    exact ⟨by omega, h3⟩
set_option maxRecDepth 20000 in
set_option maxHeartbeats 8000000 in
theorem refresh_loop (d nb nt : Nat) (hnb : nb ≤ 8) (hnt : nt ≤ 40) (K : Nat → Int32) (k : Nat → Nat) (hk : keysOk K k nt nb) : ∀ made : Nat, made < 8 → (∀ (s1 : SS) (l1 : Int32) (D1 F f1 f2 f3 E e1 e2 e3 : Nat → Int32) (ce : Int32) (o rk st : Nat → Nat) (cn : Nat), Rns nb nt k made F cn → grpOk F f1 f2 f3 nb o rk st cn → G ab_x0 mX2_refresh (d + 4) 0 0 (fun w' v => v = none ∧ ∃ (s2 : SS) (len2 : Int32) (D2 : Nat → Int32) (R : Nat) (F2 f1 f2 f3 E e1 e2 e3 : Nat → Int32) (ce : Int32) (o rk st : Nat → Nat) (cn : Nat), Hsh nb nt k F2 R ∧ grpOk F2 f1 f2 f3 nb o rk st cn ∧ (w' = mV 105 112 s2 len2 D2 ce E e1 e2 e3 nb nt 1 (nI R) K (nI cn) F2 f1 f2 f3 ∨ w' = mV 112 105 s2 len2 D2 (nI cn) F2 f1 f2 f3 nb nt 1 (nI R) K ce E e1 e2 e3)) 79 [some (.ref 100), some (.ref 110), some (.int (bi (decide (nb < 2)))), some (.int 1), some (.int (nI made))] [] (mV 105 112 s1 l1 D1 ce E e1 e2 e3 nb nt 0 (nI made) K (nI cn) F f1 f2 f3)) ∧ (∀ (s1 : SS) (l1 : Int32) (D1 F f1 f2 f3 E e1 e2 e3 : Nat → Int32) (ce : Int32) (o rk st : Nat → Nat) (cn : Nat), Rns nb nt k made F cn → grpOk F f1 f2 f3 nb o rk st cn → G ab_x0 mX2_refresh (d + 4) 0 0 (fun w' v => v = none ∧ ∃ (s2 : SS) (len2 : Int32) (D2 : Nat → Int32) (R : Nat) (F2 f1 f2 f3 E e1 e2 e3 : Nat → Int32) (ce : Int32) (o rk st : Nat → Nat) (cn : Nat), Hsh nb nt k F2 R ∧ grpOk F2 f1 f2 f3 nb o rk st cn ∧ (w' = mV 105 112 s2 len2 D2 ce E e1 e2 e3 nb nt 1 (nI R) K (nI cn) F2 f1 f2 f3 ∨ w' = mV 112 105 s2 len2 D2 (nI cn) F2 f1 f2 f3 nb nt 1 (nI R) K ce E e1 e2 e3)) 79 [some (.ref 100), some (.ref 110), some (.int (bi (decide (nb < 2)))), some (.int 1), some (.int (nI made))] [] (mV 112 105 s1 l1 D1 (nI cn) F f1 f2 f3 nb nt 0 (nI made) K ce E e1 e2 e3)) := by
  intro made
  induction hm : 8 - made using Nat.strongRecOn generalizing made with
  | ind m ih =>
    subst hm
    intro hmd
    refine ⟨?_, ?_⟩
    next =>
        intro s1 l1 D1 F f1 f2 f3 E e1 e2 e3 ce o rk st cn hR hg
        have hcc : cntIs F nb cn := ⟨o, rk, st, hg.1⟩
        have hcl := cnt_le hcc
        refine G_iload_n dX2_refresh_79 rfl ?_
        refine G_if_eq (tgt := 125) dX2_refresh_80 (by decide) (fun h => absurd h (by decide)) (fun _ => ?_)
        refine G_iload dX2_refresh_83 rfl ?_
        refine G_bipush (v := 8) dX2_refresh_85 (by decide) ?_
        refine G_icmp_geN (tgt := 125) made 8 dX2_refresh_87 (by decide) rfl rfl (by omega) (by omega) (fun h => by omega) (fun hm8 => ?_)
        refine G_aload_n dX2_refresh_90 rfl ?_
        refine G_aload_n dX2_refresh_91 rfl ?_
        refine G_V (is := [0, 1, 2, 3, 4, 5, 6, 7, 8, 9, 10, 11, 12, 13, 14, 15, 16]) (fo := []) (as := [.ref 100, .ref 110]) (as' := [.ref 110]) (st := []) (k := 0) (n := 0) cX2_refresh_92 (con_makesMore d nb nt cn hnb hnt s1 l1 ce 0 (nI made) D1 E e1 e2 e3 K F f1 f2 f3 k o rk st hk hg) ab_pfx rfl (by decide) rfl rfl rfl rfl rfl rfl (Nat.le_of_ble_eq_true rfl) dX2_refresh_92 (fun w' v h => by rcases h with ⟨_, _, _, h⟩ | ⟨_, s2, len2, D2, F2, h1, h2, h3, o2, rk2, st2, cn2, h, _⟩ <;> rw [h] <;> exact (rfl : (17 : Nat) = 17)) (fun w2 v2 hq => ?_)
        rcases hq with ⟨h2b, hcn, rfl, rfl⟩ | ⟨hno, s2, l2, D2, F2, h1, h2, h3, o2, rk2, st2, cn2, rfl, hF2, hg2, rfl⟩
        · refine G_w (st' := [.int 0]) (w' := (mV 105 112 s1 l1 D1 ce E e1 e2 e3 nb nt 0 (nI made) K (nI cn) F f1 f2 f3)) rfl rfl ?_
          refine G_istore_n (L' := [_, _, _, _, _]) dX2_refresh_95 (Nat.le_of_ble_eq_true rfl) rfl ?_
          refine G_iload_n dX2_refresh_96 rfl ?_
          refine G_if_ne (tgt := 104) dX2_refresh_97 (by decide) (fun h => absurd rfl h) (fun _ => ?_)
          refine G_iload_n dX2_refresh_100 rfl ?_
          have elone : bi (decide (nb < 2)) = 0 := by rw [decide_eq_false (by omega)]; rfl
          refine G_if_eq (tgt := 109) dX2_refresh_101 (by decide) (fun _ => ?_) (fun h => absurd elone h)
          refine G_aload_n dX2_refresh_109 rfl ?_
          refine G_dup dX2_refresh_110 rfl ?_
          refine G_get (f := 4) kc1 dX2_refresh_111 fX2_58 (by decide) rfl rfl ?_
          refine G_iconst (v := 1) dX2_refresh_114 (by decide) ?_
          refine G_iadd dX2_refresh_115 ?_
          refine G_topi (nI_1 made) ?_
          refine G_put (w' := [_, _, _, _, _, _, _, _, _, _, _, _, _, _, _, _, _]) (f := 4) kc1 dX2_refresh_116 fX2_58 (by decide) rfl rfl rfl rfl (Nat.le_of_ble_eq_true rfl) rfl ?_
          refine G_iinc (L' := [_, _, _, _, _]) (v := nI (made + 1)) dX2_refresh_119 rfl (nI_succ made).symm rfl ?_
          refine G_goto (tgt := 79) dX2_refresh_122 (by decide) ?_
          refine G_iload_n dX2_refresh_79 rfl ?_
          refine G_if_eq (tgt := 125) dX2_refresh_80 (by decide) (fun _ => ?_) (fun h => absurd rfl h)
          refine G_aload_n dX2_refresh_125 rfl ?_
          refine G_iconst (v := 1) dX2_refresh_126 (by decide) ?_
          refine G_put (w' := [_, _, _, _, _, _, _, _, _, _, _, _, _, _, _, _, _]) (f := 3) kc1 dX2_refresh_127 fX2_29 (by decide) rfl (by decide) (by decide) rfl (Nat.le_of_ble_eq_true rfl) rfl ?_
          exact G_ret (v := none) ⟨dX2_refresh_130, rfl⟩ ⟨rfl, s1, l1, D1, made + 1, F, f1, f2, f3, E, e1, e2, e3, ce, o, rk, st, cn, Or.inr ⟨h2b, made, cn, rfl, hR, Or.inl hcn⟩, hg, Or.inl rfl⟩
        · have hc2 : cntIs F2 nb cn2 := ⟨o2, rk2, st2, hg2.1⟩
          have hrnd : Rnd nb nt k F F2 := ⟨o, rk, st, cn, hg.1, hF2⟩
          refine G_w (st' := [.int (bi (decide (cn < cn2)))]) (w' := (mV 105 112 s2 l2 D2 (nI cn2) F2 h1 h2 h3 nb nt 0 (nI made) K (nI cn) F f1 f2 f3)) rfl rfl ?_
          refine G_istore_n (L' := [_, _, _, _, _]) dX2_refresh_95 (Nat.le_of_ble_eq_true rfl) rfl ?_
          refine G_iload_n dX2_refresh_96 rfl ?_
          have take : ∀ mr : Int32, G ab_x0 mX2_refresh (d + 4) 0 0 (fun w' v => v = none ∧ ∃ (s2 : SS) (len2 : Int32) (D2 : Nat → Int32) (R : Nat) (F2 f1 f2 f3 E e1 e2 e3 : Nat → Int32) (ce : Int32) (o rk st : Nat → Nat) (cn : Nat), Hsh nb nt k F2 R ∧ grpOk F2 f1 f2 f3 nb o rk st cn ∧ (w' = mV 105 112 s2 len2 D2 ce E e1 e2 e3 nb nt 1 (nI R) K (nI cn) F2 f1 f2 f3 ∨ w' = mV 112 105 s2 len2 D2 (nI cn) F2 f1 f2 f3 nb nt 1 (nI R) K ce E e1 e2 e3)) 109 [some (.ref 100), some (.ref 110), some (.int (bi (decide (nb < 2)))), some (.int mr), some (.int (nI made))] [] (mV 112 105 s2 l2 D2 (nI cn2) F2 h1 h2 h3 nb nt 0 (nI made) K (nI cn) F f1 f2 f3) → G ab_x0 mX2_refresh (d + 4) 0 0 (fun w' v => v = none ∧ ∃ (s2 : SS) (len2 : Int32) (D2 : Nat → Int32) (R : Nat) (F2 f1 f2 f3 E e1 e2 e3 : Nat → Int32) (ce : Int32) (o rk st : Nat → Nat) (cn : Nat), Hsh nb nt k F2 R ∧ grpOk F2 f1 f2 f3 nb o rk st cn ∧ (w' = mV 105 112 s2 len2 D2 ce E e1 e2 e3 nb nt 1 (nI R) K (nI cn) F2 f1 f2 f3 ∨ w' = mV 112 105 s2 len2 D2 (nI cn) F2 f1 f2 f3 nb nt 1 (nI R) K ce E e1 e2 e3)) 104 [some (.ref 100), some (.ref 110), some (.int (bi (decide (nb < 2)))), some (.int mr), some (.int (nI made))] [] (mV 105 112 s2 l2 D2 (nI cn2) F2 h1 h2 h3 nb nt 0 (nI made) K (nI cn) F f1 f2 f3) := by
            intro mr kk
            refine G_aload_n dX2_refresh_104 rfl ?_
            refine G_aload_n dX2_refresh_105 rfl ?_
            refine G_V (is := [0, 10]) (fo := [101, 104, 112, 105, 111]) (as := [.ref 100, .ref 101]) (as' := [.ref 110]) (st := []) (k := 0) (n := 0) cX2_refresh_106 (con_takeRound (d + 3) 6 7 (.ref 4) (.ref 5) (.ref 8) (.int (nI nb)) (.int (nI nt)) (.int 0) (.int (nI made))) ab_pfx rfl (by decide) rfl rfl rfl rfl rfl rfl (Nat.le_of_ble_eq_true rfl) dX2_refresh_106 (fun w' v h => by rw [h.2]; exact (rfl : (2 : Nat) = 2)) (fun w2 v2 hq => ?_)
            obtain ⟨rfl, rfl⟩ := hq
            exact G_w (st' := []) (w' := (mV 112 105 s2 l2 D2 (nI cn2) F2 h1 h2 h3 nb nt 0 (nI made) K (nI cn) F f1 f2 f3)) rfl rfl kk
          by_cases hmore : cn < cn2
          · rw [decide_eq_true hmore]
            refine G_if_ne (tgt := 104) dX2_refresh_97 (by decide) (fun _ => ?_) (fun h => absurd h (by decide))
            refine take _ ?_
            refine G_aload_n dX2_refresh_109 rfl ?_
            refine G_dup dX2_refresh_110 rfl ?_
            refine G_get (f := 4) kc1 dX2_refresh_111 fX2_58 (by decide) rfl rfl ?_
            refine G_iconst (v := 1) dX2_refresh_114 (by decide) ?_
            refine G_iadd dX2_refresh_115 ?_
            refine G_topi (nI_1 made) ?_
            refine G_put (w' := [_, _, _, _, _, _, _, _, _, _, _, _, _, _, _, _, _]) (f := 4) kc1 dX2_refresh_116 fX2_58 (by decide) rfl rfl rfl rfl (Nat.le_of_ble_eq_true rfl) rfl ?_
            refine G_iinc (L' := [_, _, _, _, _]) (v := nI (made + 1)) dX2_refresh_119 rfl (nI_succ made).symm rfl ?_
            refine G_goto (tgt := 79) dX2_refresh_122 (by decide) ?_
            have hR2 : Rns nb nt k (made + 1) F2 cn2 := ⟨F, cn, hR, hrnd, hc2, hmore⟩
            have hnb0 : 0 < nb := by
              have := cnt_le hc2
              omega
            have hge := (Rns_ge hnb0 hR2).1
            have := cnt_le hc2
            exact (ih (8 - (made + 1)) (by omega) (made + 1) rfl (by omega)).2 s2 l2 D2 F2 h1 h2 h3 F f1 f2 f3 (nI cn) o2 rk2 st2 cn2 hR2 hg2
          · rw [decide_eq_false hmore]
            refine G_if_ne (tgt := 104) dX2_refresh_97 (by decide) (fun h => absurd rfl h) (fun _ => ?_)
            refine G_iload_n dX2_refresh_100 rfl ?_
            by_cases hl2 : nb < 2
            · have em : made = 0 := by
                rcases Nat.eq_zero_or_pos made with q | q
                · exact q
                · exfalso
                  rcases Nat.eq_zero_or_pos nb with r | r
                  · obtain ⟨m', rfl⟩ : ∃ m', made = m' + 1 := ⟨made - 1, by omega⟩
                    obtain ⟨_, _, _, _, _, r5⟩ := hR
                    omega
                  · have := (Rns_ge r hR).1
                    omega
              refine G_if_eq (tgt := 109) dX2_refresh_101 (by decide) (fun h => absurd h (by rw [decide_eq_true hl2]; decide)) (fun _ => ?_)
              refine take _ ?_
              refine G_aload_n dX2_refresh_109 rfl ?_
              refine G_dup dX2_refresh_110 rfl ?_
              refine G_get (f := 4) kc1 dX2_refresh_111 fX2_58 (by decide) rfl rfl ?_
              refine G_iconst (v := 1) dX2_refresh_114 (by decide) ?_
              refine G_iadd dX2_refresh_115 ?_
              refine G_topi (nI_1 made) ?_
              refine G_put (w' := [_, _, _, _, _, _, _, _, _, _, _, _, _, _, _, _, _]) (f := 4) kc1 dX2_refresh_116 fX2_58 (by decide) rfl rfl rfl rfl (Nat.le_of_ble_eq_true rfl) rfl ?_
              refine G_iinc (L' := [_, _, _, _, _]) (v := nI (made + 1)) dX2_refresh_119 rfl (nI_succ made).symm rfl ?_
              refine G_goto (tgt := 79) dX2_refresh_122 (by decide) ?_
              refine G_iload_n dX2_refresh_79 rfl ?_
              refine G_if_eq (tgt := 125) dX2_refresh_80 (by decide) (fun _ => ?_) (fun h => absurd rfl h)
              refine G_aload_n dX2_refresh_125 rfl ?_
              refine G_iconst (v := 1) dX2_refresh_126 (by decide) ?_
              refine G_put (w' := [_, _, _, _, _, _, _, _, _, _, _, _, _, _, _, _, _]) (f := 3) kc1 dX2_refresh_127 fX2_29 (by decide) rfl (by decide) (by decide) rfl (Nat.le_of_ble_eq_true rfl) rfl ?_
              subst em
              exact G_ret (v := none) ⟨dX2_refresh_130, rfl⟩ ⟨rfl, s2, l2, D2, 1, F2, h1, h2, h3, F, f1, f2, f3, nI cn, o2, rk2, st2, cn2, Or.inl ⟨hl2, rfl, F, hR.1, hrnd⟩, hg2, Or.inr rfl⟩
            · refine G_if_eq (tgt := 109) dX2_refresh_101 (by decide) (fun _ => ?_) (fun h => absurd (by rw [decide_eq_false hl2]; rfl) h)
              refine G_aload_n dX2_refresh_109 rfl ?_
              refine G_dup dX2_refresh_110 rfl ?_
              refine G_get (f := 4) kc1 dX2_refresh_111 fX2_58 (by decide) rfl rfl ?_
              refine G_iconst (v := 1) dX2_refresh_114 (by decide) ?_
              refine G_iadd dX2_refresh_115 ?_
              refine G_topi (nI_1 made) ?_
              refine G_put (w' := [_, _, _, _, _, _, _, _, _, _, _, _, _, _, _, _, _]) (f := 4) kc1 dX2_refresh_116 fX2_58 (by decide) rfl rfl rfl rfl (Nat.le_of_ble_eq_true rfl) rfl ?_
              refine G_iinc (L' := [_, _, _, _, _]) (v := nI (made + 1)) dX2_refresh_119 rfl (nI_succ made).symm rfl ?_
              refine G_goto (tgt := 79) dX2_refresh_122 (by decide) ?_
              refine G_iload_n dX2_refresh_79 rfl ?_
              refine G_if_eq (tgt := 125) dX2_refresh_80 (by decide) (fun _ => ?_) (fun h => absurd rfl h)
              refine G_aload_n dX2_refresh_125 rfl ?_
              refine G_iconst (v := 1) dX2_refresh_126 (by decide) ?_
              refine G_put (w' := [_, _, _, _, _, _, _, _, _, _, _, _, _, _, _, _, _]) (f := 3) kc1 dX2_refresh_127 fX2_29 (by decide) rfl (by decide) (by decide) rfl (Nat.le_of_ble_eq_true rfl) rfl ?_
              exact G_ret (v := none) ⟨dX2_refresh_130, rfl⟩ ⟨rfl, s2, l2, D2, made + 1, F, f1, f2, f3, F2, h1, h2, h3, nI cn2, o, rk, st, cn, Or.inr ⟨by omega, made, cn, rfl, hR, Or.inr ⟨F2, cn2, hrnd, hc2, by omega⟩⟩, hg, Or.inl rfl⟩
    next =>
        intro s1 l1 D1 F f1 f2 f3 E e1 e2 e3 ce o rk st cn hR hg
        have hcc : cntIs F nb cn := ⟨o, rk, st, hg.1⟩
        have hcl := cnt_le hcc
        refine G_iload_n dX2_refresh_79 rfl ?_
        refine G_if_eq (tgt := 125) dX2_refresh_80 (by decide) (fun h => absurd h (by decide)) (fun _ => ?_)
        refine G_iload dX2_refresh_83 rfl ?_
        refine G_bipush (v := 8) dX2_refresh_85 (by decide) ?_
        refine G_icmp_geN (tgt := 125) made 8 dX2_refresh_87 (by decide) rfl rfl (by omega) (by omega) (fun h => by omega) (fun hm8 => ?_)
        refine G_aload_n dX2_refresh_90 rfl ?_
        refine G_aload_n dX2_refresh_91 rfl ?_
        refine G_V (is := [0, 1, 2, 3, 4, 12, 13, 14, 15, 16, 10, 11, 5, 6, 7, 8, 9]) (fo := []) (as := [.ref 100, .ref 110]) (as' := [.ref 110]) (st := []) (k := 0) (n := 0) cX2_refresh_92 (con_makesMore d nb nt cn hnb hnt s1 l1 ce 0 (nI made) D1 E e1 e2 e3 K F f1 f2 f3 k o rk st hk hg) ab_pfx rfl (by decide) rfl rfl rfl rfl rfl rfl (Nat.le_of_ble_eq_true rfl) dX2_refresh_92 (fun w' v h => by rcases h with ⟨_, _, _, h⟩ | ⟨_, s2, len2, D2, F2, h1, h2, h3, o2, rk2, st2, cn2, h, _⟩ <;> rw [h] <;> exact (rfl : (17 : Nat) = 17)) (fun w2 v2 hq => ?_)
        rcases hq with ⟨h2b, hcn, rfl, rfl⟩ | ⟨hno, s2, l2, D2, F2, h1, h2, h3, o2, rk2, st2, cn2, rfl, hF2, hg2, rfl⟩
        · refine G_w (st' := [.int 0]) (w' := (mV 112 105 s1 l1 D1 (nI cn) F f1 f2 f3 nb nt 0 (nI made) K ce E e1 e2 e3)) rfl rfl ?_
          refine G_istore_n (L' := [_, _, _, _, _]) dX2_refresh_95 (Nat.le_of_ble_eq_true rfl) rfl ?_
          refine G_iload_n dX2_refresh_96 rfl ?_
          refine G_if_ne (tgt := 104) dX2_refresh_97 (by decide) (fun h => absurd rfl h) (fun _ => ?_)
          refine G_iload_n dX2_refresh_100 rfl ?_
          have elone : bi (decide (nb < 2)) = 0 := by rw [decide_eq_false (by omega)]; rfl
          refine G_if_eq (tgt := 109) dX2_refresh_101 (by decide) (fun _ => ?_) (fun h => absurd elone h)
          refine G_aload_n dX2_refresh_109 rfl ?_
          refine G_dup dX2_refresh_110 rfl ?_
          refine G_get (f := 4) kc1 dX2_refresh_111 fX2_58 (by decide) rfl rfl ?_
          refine G_iconst (v := 1) dX2_refresh_114 (by decide) ?_
          refine G_iadd dX2_refresh_115 ?_
          refine G_topi (nI_1 made) ?_
          refine G_put (w' := [_, _, _, _, _, _, _, _, _, _, _, _, _, _, _, _, _]) (f := 4) kc1 dX2_refresh_116 fX2_58 (by decide) rfl rfl rfl rfl (Nat.le_of_ble_eq_true rfl) rfl ?_
          refine G_iinc (L' := [_, _, _, _, _]) (v := nI (made + 1)) dX2_refresh_119 rfl (nI_succ made).symm rfl ?_
          refine G_goto (tgt := 79) dX2_refresh_122 (by decide) ?_
          refine G_iload_n dX2_refresh_79 rfl ?_
          refine G_if_eq (tgt := 125) dX2_refresh_80 (by decide) (fun _ => ?_) (fun h => absurd rfl h)
          refine G_aload_n dX2_refresh_125 rfl ?_
          refine G_iconst (v := 1) dX2_refresh_126 (by decide) ?_
          refine G_put (w' := [_, _, _, _, _, _, _, _, _, _, _, _, _, _, _, _, _]) (f := 3) kc1 dX2_refresh_127 fX2_29 (by decide) rfl (by decide) (by decide) rfl (Nat.le_of_ble_eq_true rfl) rfl ?_
          exact G_ret (v := none) ⟨dX2_refresh_130, rfl⟩ ⟨rfl, s1, l1, D1, made + 1, F, f1, f2, f3, E, e1, e2, e3, ce, o, rk, st, cn, Or.inr ⟨h2b, made, cn, rfl, hR, Or.inl hcn⟩, hg, Or.inr rfl⟩
        · have hc2 : cntIs F2 nb cn2 := ⟨o2, rk2, st2, hg2.1⟩
          have hrnd : Rnd nb nt k F F2 := ⟨o, rk, st, cn, hg.1, hF2⟩
          refine G_w (st' := [.int (bi (decide (cn < cn2)))]) (w' := (mV 112 105 s2 l2 D2 (nI cn) F f1 f2 f3 nb nt 0 (nI made) K (nI cn2) F2 h1 h2 h3)) rfl rfl ?_
          refine G_istore_n (L' := [_, _, _, _, _]) dX2_refresh_95 (Nat.le_of_ble_eq_true rfl) rfl ?_
          refine G_iload_n dX2_refresh_96 rfl ?_
          have take : ∀ mr : Int32, G ab_x0 mX2_refresh (d + 4) 0 0 (fun w' v => v = none ∧ ∃ (s2 : SS) (len2 : Int32) (D2 : Nat → Int32) (R : Nat) (F2 f1 f2 f3 E e1 e2 e3 : Nat → Int32) (ce : Int32) (o rk st : Nat → Nat) (cn : Nat), Hsh nb nt k F2 R ∧ grpOk F2 f1 f2 f3 nb o rk st cn ∧ (w' = mV 105 112 s2 len2 D2 ce E e1 e2 e3 nb nt 1 (nI R) K (nI cn) F2 f1 f2 f3 ∨ w' = mV 112 105 s2 len2 D2 (nI cn) F2 f1 f2 f3 nb nt 1 (nI R) K ce E e1 e2 e3)) 109 [some (.ref 100), some (.ref 110), some (.int (bi (decide (nb < 2)))), some (.int mr), some (.int (nI made))] [] (mV 105 112 s2 l2 D2 (nI cn) F f1 f2 f3 nb nt 0 (nI made) K (nI cn2) F2 h1 h2 h3) → G ab_x0 mX2_refresh (d + 4) 0 0 (fun w' v => v = none ∧ ∃ (s2 : SS) (len2 : Int32) (D2 : Nat → Int32) (R : Nat) (F2 f1 f2 f3 E e1 e2 e3 : Nat → Int32) (ce : Int32) (o rk st : Nat → Nat) (cn : Nat), Hsh nb nt k F2 R ∧ grpOk F2 f1 f2 f3 nb o rk st cn ∧ (w' = mV 105 112 s2 len2 D2 ce E e1 e2 e3 nb nt 1 (nI R) K (nI cn) F2 f1 f2 f3 ∨ w' = mV 112 105 s2 len2 D2 (nI cn) F2 f1 f2 f3 nb nt 1 (nI R) K ce E e1 e2 e3)) 104 [some (.ref 100), some (.ref 110), some (.int (bi (decide (nb < 2)))), some (.int mr), some (.int (nI made))] [] (mV 112 105 s2 l2 D2 (nI cn) F f1 f2 f3 nb nt 0 (nI made) K (nI cn2) F2 h1 h2 h3) := by
            intro mr kk
            refine G_aload_n dX2_refresh_104 rfl ?_
            refine G_aload_n dX2_refresh_105 rfl ?_
            refine G_V (is := [0, 10]) (fo := [101, 104, 105, 112, 111]) (as := [.ref 100, .ref 101]) (as' := [.ref 110]) (st := []) (k := 0) (n := 0) cX2_refresh_106 (con_takeRound (d + 3) 6 7 (.ref 4) (.ref 5) (.ref 8) (.int (nI nb)) (.int (nI nt)) (.int 0) (.int (nI made))) ab_pfx rfl (by decide) rfl rfl rfl rfl rfl rfl (Nat.le_of_ble_eq_true rfl) dX2_refresh_106 (fun w' v h => by rw [h.2]; exact (rfl : (2 : Nat) = 2)) (fun w2 v2 hq => ?_)
            obtain ⟨rfl, rfl⟩ := hq
            exact G_w (st' := []) (w' := (mV 105 112 s2 l2 D2 (nI cn) F f1 f2 f3 nb nt 0 (nI made) K (nI cn2) F2 h1 h2 h3)) rfl rfl kk
          by_cases hmore : cn < cn2
          · rw [decide_eq_true hmore]
            refine G_if_ne (tgt := 104) dX2_refresh_97 (by decide) (fun _ => ?_) (fun h => absurd h (by decide))
            refine take _ ?_
            refine G_aload_n dX2_refresh_109 rfl ?_
            refine G_dup dX2_refresh_110 rfl ?_
            refine G_get (f := 4) kc1 dX2_refresh_111 fX2_58 (by decide) rfl rfl ?_
            refine G_iconst (v := 1) dX2_refresh_114 (by decide) ?_
            refine G_iadd dX2_refresh_115 ?_
            refine G_topi (nI_1 made) ?_
            refine G_put (w' := [_, _, _, _, _, _, _, _, _, _, _, _, _, _, _, _, _]) (f := 4) kc1 dX2_refresh_116 fX2_58 (by decide) rfl rfl rfl rfl (Nat.le_of_ble_eq_true rfl) rfl ?_
            refine G_iinc (L' := [_, _, _, _, _]) (v := nI (made + 1)) dX2_refresh_119 rfl (nI_succ made).symm rfl ?_
            refine G_goto (tgt := 79) dX2_refresh_122 (by decide) ?_
            have hR2 : Rns nb nt k (made + 1) F2 cn2 := ⟨F, cn, hR, hrnd, hc2, hmore⟩
            have hnb0 : 0 < nb := by
              have := cnt_le hc2
              omega
            have hge := (Rns_ge hnb0 hR2).1
            have := cnt_le hc2
            exact (ih (8 - (made + 1)) (by omega) (made + 1) rfl (by omega)).1 s2 l2 D2 F2 h1 h2 h3 F f1 f2 f3 (nI cn) o2 rk2 st2 cn2 hR2 hg2
          · rw [decide_eq_false hmore]
            refine G_if_ne (tgt := 104) dX2_refresh_97 (by decide) (fun h => absurd rfl h) (fun _ => ?_)
            refine G_iload_n dX2_refresh_100 rfl ?_
            by_cases hl2 : nb < 2
            · have em : made = 0 := by
                rcases Nat.eq_zero_or_pos made with q | q
                · exact q
                · exfalso
                  rcases Nat.eq_zero_or_pos nb with r | r
                  · obtain ⟨m', rfl⟩ : ∃ m', made = m' + 1 := ⟨made - 1, by omega⟩
                    obtain ⟨_, _, _, _, _, r5⟩ := hR
                    omega
                  · have := (Rns_ge r hR).1
                    omega
              refine G_if_eq (tgt := 109) dX2_refresh_101 (by decide) (fun h => absurd h (by rw [decide_eq_true hl2]; decide)) (fun _ => ?_)
              refine take _ ?_
              refine G_aload_n dX2_refresh_109 rfl ?_
              refine G_dup dX2_refresh_110 rfl ?_
              refine G_get (f := 4) kc1 dX2_refresh_111 fX2_58 (by decide) rfl rfl ?_
              refine G_iconst (v := 1) dX2_refresh_114 (by decide) ?_
              refine G_iadd dX2_refresh_115 ?_
              refine G_topi (nI_1 made) ?_
              refine G_put (w' := [_, _, _, _, _, _, _, _, _, _, _, _, _, _, _, _, _]) (f := 4) kc1 dX2_refresh_116 fX2_58 (by decide) rfl rfl rfl rfl (Nat.le_of_ble_eq_true rfl) rfl ?_
              refine G_iinc (L' := [_, _, _, _, _]) (v := nI (made + 1)) dX2_refresh_119 rfl (nI_succ made).symm rfl ?_
              refine G_goto (tgt := 79) dX2_refresh_122 (by decide) ?_
              refine G_iload_n dX2_refresh_79 rfl ?_
              refine G_if_eq (tgt := 125) dX2_refresh_80 (by decide) (fun _ => ?_) (fun h => absurd rfl h)
              refine G_aload_n dX2_refresh_125 rfl ?_
              refine G_iconst (v := 1) dX2_refresh_126 (by decide) ?_
              refine G_put (w' := [_, _, _, _, _, _, _, _, _, _, _, _, _, _, _, _, _]) (f := 3) kc1 dX2_refresh_127 fX2_29 (by decide) rfl (by decide) (by decide) rfl (Nat.le_of_ble_eq_true rfl) rfl ?_
              subst em
              exact G_ret (v := none) ⟨dX2_refresh_130, rfl⟩ ⟨rfl, s2, l2, D2, 1, F2, h1, h2, h3, F, f1, f2, f3, nI cn, o2, rk2, st2, cn2, Or.inl ⟨hl2, rfl, F, hR.1, hrnd⟩, hg2, Or.inl rfl⟩
            · refine G_if_eq (tgt := 109) dX2_refresh_101 (by decide) (fun _ => ?_) (fun h => absurd (by rw [decide_eq_false hl2]; rfl) h)
              refine G_aload_n dX2_refresh_109 rfl ?_
              refine G_dup dX2_refresh_110 rfl ?_
              refine G_get (f := 4) kc1 dX2_refresh_111 fX2_58 (by decide) rfl rfl ?_
              refine G_iconst (v := 1) dX2_refresh_114 (by decide) ?_
              refine G_iadd dX2_refresh_115 ?_
              refine G_topi (nI_1 made) ?_
              refine G_put (w' := [_, _, _, _, _, _, _, _, _, _, _, _, _, _, _, _, _]) (f := 4) kc1 dX2_refresh_116 fX2_58 (by decide) rfl rfl rfl rfl (Nat.le_of_ble_eq_true rfl) rfl ?_
              refine G_iinc (L' := [_, _, _, _, _]) (v := nI (made + 1)) dX2_refresh_119 rfl (nI_succ made).symm rfl ?_
              refine G_goto (tgt := 79) dX2_refresh_122 (by decide) ?_
              refine G_iload_n dX2_refresh_79 rfl ?_
              refine G_if_eq (tgt := 125) dX2_refresh_80 (by decide) (fun _ => ?_) (fun h => absurd rfl h)
              refine G_aload_n dX2_refresh_125 rfl ?_
              refine G_iconst (v := 1) dX2_refresh_126 (by decide) ?_
              refine G_put (w' := [_, _, _, _, _, _, _, _, _, _, _, _, _, _, _, _, _]) (f := 3) kc1 dX2_refresh_127 fX2_29 (by decide) rfl (by decide) (by decide) rfl (Nat.le_of_ble_eq_true rfl) rfl ?_
              exact G_ret (v := none) ⟨dX2_refresh_130, rfl⟩ ⟨rfl, s2, l2, D2, made + 1, F, f1, f2, f3, F2, h1, h2, h3, nI cn2, o, rk, st, cn, Or.inr ⟨by omega, made, cn, rfl, hR, Or.inr ⟨F2, cn2, hrnd, hc2, by omega⟩⟩, hg, Or.inr rfl⟩
set_option maxRecDepth 20000 in
set_option maxHeartbeats 4000000 in
theorem con_refresh (d nb nt : Nat) (hnb : nb ≤ 8) (hnt : nt ≤ 40) (s : SS) (len ro cA cB : Int32) (D FA a1 a2 a3 K FB b1 b2 b3 : Nat → Int32) (k : Nat → Nat) (hk : keysOk K k nt nb) : Con mX2_refresh (d + 4) 0 0 (mV 105 112 s len D cA FA a1 a2 a3 nb nt 0 ro K cB FB b1 b2 b3) [.ref 100, .ref 110] (fun w' v => v = none ∧ ∃ (s2 : SS) (len2 : Int32) (D2 : Nat → Int32) (R : Nat) (F2 f1 f2 f3 E e1 e2 e3 : Nat → Int32) (ce : Int32) (o rk st : Nat → Nat) (cn : Nat), Hsh nb nt k F2 R ∧ grpOk F2 f1 f2 f3 nb o rk st cn ∧ (w' = mV 105 112 s2 len2 D2 ce E e1 e2 e3 nb nt 1 (nI R) K (nI cn) F2 f1 f2 f3 ∨ w' = mV 112 105 s2 len2 D2 (nI cn) F2 f1 f2 f3 nb nt 1 (nI R) K ce E e1 e2 e3)) := by
  refine Con.of (ab_okc rfl (by decide)) (Nat.le_of_ble_eq_true rfl) ?_
  show G ab_x0 mX2_refresh (d + 4) 0 0 _ 0 [some (.ref 100), some (.ref 110), none, none, none] [] _
  refine G_aload_n dX2_refresh_0 rfl ?_
  refine G_get (f := 3) kc1 dX2_refresh_1 fX2_29 (by decide) rfl rfl ?_
  refine G_if_eq (tgt := 8) dX2_refresh_4 (by decide) (fun _ => ?_) (fun h => absurd rfl h)
  refine G_iconst (v := 0) dX2_refresh_8 (by decide) ?_
  refine G_istore_n (L' := [_, _, _, _, _]) dX2_refresh_9 (Nat.le_of_ble_eq_true rfl) rfl ?_
  have fill : ∀ (b : Nat) (F : Nat → Int32), b ≤ nb → Rn0 b F → G ab_x0 mX2_refresh (d + 4) 0 0 (fun w' v => v = none ∧ ∃ (s2 : SS) (len2 : Int32) (D2 : Nat → Int32) (R : Nat) (F2 f1 f2 f3 E e1 e2 e3 : Nat → Int32) (ce : Int32) (o rk st : Nat → Nat) (cn : Nat), Hsh nb nt k F2 R ∧ grpOk F2 f1 f2 f3 nb o rk st cn ∧ (w' = mV 105 112 s2 len2 D2 ce E e1 e2 e3 nb nt 1 (nI R) K (nI cn) F2 f1 f2 f3 ∨ w' = mV 112 105 s2 len2 D2 (nI cn) F2 f1 f2 f3 nb nt 1 (nI R) K ce E e1 e2 e3)) 10 [some (.ref 100), some (.ref 110), some (.int (nI b)), none, none] [] (mV 105 112 s len D cA FA a1 a2 a3 nb nt 0 ro K cB F b1 b2 b3) := by
    intro b
    induction hm : nb - b using Nat.strongRecOn generalizing b with
    | ind m ih =>
      subst hm
      intro F hb hF
      refine G_iload_n dX2_refresh_10 rfl ?_
      refine G_aload_n dX2_refresh_11 rfl ?_
      refine G_get (f := 1) kc1 dX2_refresh_12 fX2_35 (by decide) rfl rfl ?_
      refine G_icmp_geN (tgt := 44) b nb dX2_refresh_15 (by decide) rfl rfl (by omega) (by omega) (fun hge => ?_) (fun hlt => ?_)
      · have e : b = nb := by omega
        subst e
        refine G_aload_n dX2_refresh_44 rfl ?_
        refine G_get (f := 5) kc1 dX2_refresh_45 fX2_42 (by decide) rfl rfl ?_
        refine G_aload_n dX2_refresh_48 rfl ?_
        refine G_get (f := 1) kc1 dX2_refresh_49 fX2_35 (by decide) rfl rfl ?_
        refine G_V (is := [12, 13, 14, 15, 16]) (fo := []) (as := [.ref 100, .int (nI b)]) (as' := [.int (nI b)]) (st := []) (k := 0) (n := 0) cX2_refresh_52 (con_arrange (d + 2) b hnb F b1 b2 b3 cB) ab_pfx rfl (by decide) rfl rfl rfl rfl rfl rfl (Nat.le_of_ble_eq_true rfl) dX2_refresh_52 (fun w' v h => by obtain ⟨_, g1, g2, g3, cnt, o, rk, st, h, _⟩ := h; rw [h]; exact (rfl : (5 : Nat) = 5)) (fun w2 v2 hq => ?_)
        obtain ⟨rfl, h1, h2, h3, cn, o, rk, st, rfl, hGP, ho1, ho2, ho3⟩ := hq
        refine G_w (st' := []) (w' := mV 105 112 s len D cA FA a1 a2 a3 b nt 0 ro K (nI cn) F h1 h2 h3) rfl rfl ?_
        refine G_aload_n dX2_refresh_55 rfl ?_
        refine G_get (f := 1) kc1 dX2_refresh_56 fX2_35 (by decide) rfl rfl ?_
        refine G_iconst (v := 2) dX2_refresh_59 (by decide) ?_
        have go : G ab_x0 mX2_refresh (d + 4) 0 0 (fun w' v => v = none ∧ ∃ (s2 : SS) (len2 : Int32) (D2 : Nat → Int32) (R : Nat) (F2 f1 f2 f3 E e1 e2 e3 : Nat → Int32) (ce : Int32) (o rk st : Nat → Nat) (cn : Nat), Hsh b nt k F2 R ∧ grpOk F2 f1 f2 f3 b o rk st cn ∧ (w' = mV 105 112 s2 len2 D2 ce E e1 e2 e3 b nt 1 (nI R) K (nI cn) F2 f1 f2 f3 ∨ w' = mV 112 105 s2 len2 D2 (nI cn) F2 f1 f2 f3 b nt 1 (nI R) K ce E e1 e2 e3)) 68 [some (.ref 100), some (.ref 110), some (.int (nI b)), none, none] [.int (bi (decide (b < 2)))] (mV 105 112 s len D cA FA a1 a2 a3 b nt 0 ro K (nI cn) F h1 h2 h3) := by
          refine G_istore_n (L' := [_, _, _, _, _]) dX2_refresh_68 (Nat.le_of_ble_eq_true rfl) rfl ?_
          refine G_iconst (v := 1) dX2_refresh_69 (by decide) ?_
          refine G_istore_n (L' := [_, _, _, _, _]) dX2_refresh_70 (Nat.le_of_ble_eq_true rfl) rfl ?_
          refine G_aload_n dX2_refresh_71 rfl ?_
          refine G_iconst (v := 0) dX2_refresh_72 (by decide) ?_
          refine G_put (w' := [_, _, _, _, _, _, _, _, _, _, _, _, _, _, _, _, _]) (f := 4) kc1 dX2_refresh_73 fX2_58 (by decide) rfl rfl rfl rfl (Nat.le_of_ble_eq_true rfl) rfl ?_
          refine G_iconst (v := 0) dX2_refresh_76 (by decide) ?_
          refine G_istore (L' := [_, _, _, _, _]) dX2_refresh_77 (Nat.le_of_ble_eq_true rfl) rfl ?_
          exact (refresh_loop d b nt hnb hnt K k hk 0 (by omega)).1 s len D F h1 h2 h3 FA a1 a2 a3 cA o rk st cn ⟨hF, o, rk, st, hGP⟩ ⟨hGP, ho1, ho2, ho3⟩
        refine G_icmp_geN (tgt := 67) b 2 dX2_refresh_60 (by decide) rfl rfl (by omega) (by omega) (fun h => ?_) (fun h => ?_)
        · refine G_iconst (v := 0) dX2_refresh_67 (by decide) ?_
          rw [decide_eq_false (by omega)] at go
          exact go
        · refine G_iconst (v := 1) dX2_refresh_63 (by decide) ?_
          refine G_goto (tgt := 68) dX2_refresh_64 (by decide) ?_
          rw [decide_eq_true h] at go
          exact go
      refine G_gets (j := 0) dX2_refresh_18 rfl fX2_39 ?_
      refine G_iconst (v := 0) dX2_refresh_21 (by decide) ?_
      refine G_aload_n dX2_refresh_22 rfl ?_
      refine G_get (f := 5) kc1 dX2_refresh_23 fX2_42 (by decide) rfl rfl ?_
      refine G_get (f := 0) kc2 dX2_refresh_26 fX2_45 (by decide) rfl rfl ?_
      refine G_iload_n dX2_refresh_29 rfl ?_
      refine G_bipush (v := 8) dX2_refresh_30 (by decide) ?_
      refine G_imul dX2_refresh_32 ?_
      refine G_topi (y := nI (b * 8)) (by rw [show (8 : Int32) = nI 8 from rfl, pk_mul]) ?_
      refine G_bipush (v := 8) dX2_refresh_33 (by decide) ?_
      have e1 : (nI (b * 8)).toNatClampNeg = b * 8 := nI_clamp (by omega)
      have e2 : (8 : Int32).toNatClampNeg = 8 := by decide
      have e0 : (0 : Int32).toNatClampNeg = 0 := by decide
      refine G_copyX (i := 0) (j1 := 13) (n0 := 8) (f := ab_l ab_noBytes) (w1 := [_, _, _, _, _, _, _, _, _, _, _, _, _, _, _, _, _]) dX2_refresh_35 uX2_48 rfl (Nat.le_of_ble_eq_true rfl) rfl rfl (by decide) (nI_pos (by omega)) (by decide) (by decide) (by rw [e1, e2]; omega) rfl ?_
      rw [e1, e2, e0]
      refine G_iinc (L' := [_, _, _, _, _]) (v := nI (b + 1)) dX2_refresh_38 rfl (nI_succ b).symm rfl ?_
      refine G_goto (tgt := 10) dX2_refresh_41 (by decide) ?_
      refine ih (nb - (b + 1)) (by omega) (b + 1) rfl _ (by omega) (fun c j hc hj => ?_)
      by_cases ec : c = b
      · subst ec
        rw [pk_cpy_in (by omega) (by omega), show 0 + (c * 8 + j - c * 8) = j by omega]
      · rw [pk_cpy_out (by omega)]
        exact hF c j (by omega) hj
  exact fill 0 FB (by omega) (fun b j hb => by omega)
set_option maxRecDepth 20000 in
theorem con_refresh1 (d : Nat) (hs : Int32) (h : hs ≠ 0) (v1 v2 v3 v4 v5 : Value) : Con mX2_refresh d 0 0 [.inr (1, [v1, v2, v3, .int hs, v4, v5])] [.ref 4, .ref 100] (fun w' v => v = none ∧ w' = [.inr (1, [v1, v2, v3, .int hs, v4, v5])]) := by
  refine Con.of (ab_okc rfl (by decide)) (Nat.le_of_ble_eq_true rfl) ?_
  show G ab_x0 mX2_refresh d 0 0 _ 0 [some (.ref 4), some (.ref 100), none, none, none] [] _
  refine G_aload_n dX2_refresh_0 rfl ?_
  refine G_get (f := 3) kc1 dX2_refresh_1 fX2_29 (by decide) rfl rfl ?_
  refine G_if_eq (tgt := 8) dX2_refresh_4 (by decide) (fun e => absurd e h) (fun _ => ?_)
  exact G_ret (v := none) ⟨dX2_refresh_7, rfl⟩ ⟨rfl, rfl⟩
