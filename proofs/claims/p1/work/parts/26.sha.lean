/-! Sha.begin, put, end. -/
abbrev SS : Type := (Nat → Int32) × (Nat → Int32) × Nat
/-- a byte more -/
def absorb (s : SS) (b : Int32) : SS :=
  if s.2.2 + 1 = 64 then (mixS s.1 (upd s.2.1 (s.2.2 / 4) (ls (s.2.1 (s.2.2 / 4)) 8 ||| b)), scN 48 (upd s.2.1 (s.2.2 / 4) (ls (s.2.1 (s.2.2 / 4)) 8 ||| b)), 0)
  else (s.1, upd s.2.1 (s.2.2 / 4) (ls (s.2.1 (s.2.2 / 4)) 8 ||| b), s.2.2 + 1)
def putF : Nat → Int32 → SS → SS
  | 0, _, s => s
  | k + 1, x, s => putF k x (absorb s (us x (8 * nI k) &&& 255))
theorem absorb_lt {s : SS} {b : Int32} (h : s.2.2 < 64) : (absorb s b).2.2 < 64 := by
  unfold absorb
  split
  · show 0 < 64; omega
  · show s.2.2 + 1 < 64; omega
theorem putF_lt : ∀ (k : Nat) (x : Int32) (s : SS), s.2.2 < 64 → (putF k x s).2.2 < 64
  | 0, _, _, h => h
  | k + 1, x, s, h => putF_lt k x _ (absorb_lt h)
abbrev cS (fl : Nat) (len : Int32) : ab_C := .inr (7, [.ref 101, .ref 102, .int (nI fl), .int len])
abbrev wS (s : SS) (len : Int32) : List ab_C := [cS s.2.2 len, cI 8 s.1, cI 64 s.2.1]
theorem nI_sub1 (x : Int32) : x + Int32.ofInt (-1) = x - 1 := by rw [Int32.sub_eq_add_neg]; rfl
set_option maxRecDepth 20000 in
theorem con_put (d k : Nat) (hk : k ≤ 4) (x len : Int32) (s : SS) (hs : s.2.2 < 64) : Con mX6_put (d + 1) 0 0 (wS s len) [.ref 100, .int x, .int (nI k)] (fun w' v => v = none ∧ w' = wS (putF k x s) (len + nI k)) := by
  refine Con.of (ab_okc rfl (by decide)) (Nat.le_of_ble_eq_true rfl) ?_
  show G ab_x0 mX6_put (d + 1) 0 0 _ 0 [some (.ref 100), some (.int x), some (.int (nI k)), none, none] [] _
  refine G_iload_n dX6_put_0 rfl ?_
  refine G_iconst (v := 1) dX6_put_1 (by decide) ?_
  refine G_isub dX6_put_2 ?_
  refine G_istore_n (L' := [_, _, _, _, _]) dX6_put_3 (Nat.le_of_ble_eq_true rfl) rfl ?_
  have loop : ∀ (j fl : Nat) (st ws : Nat → Int32) (z : Option Value), j ≤ 4 → fl < 64 → putF j x (st, ws, fl) = putF k x s → G ab_x0 mX6_put (d + 1) 0 0 (fun w' v => v = none ∧ w' = wS (putF k x s) (len + nI k)) 4 [some (.ref 100), some (.int x), some (.int (nI k)), some (.int (nI j - 1)), z] [] (wS (st, ws, fl) len) := by
    intro j
    induction j with
    | zero =>
      intro fl st ws z hj hfl he
      refine G_iload_n dX6_put_4 rfl ?_
      refine G_if_lt (tgt := 78) dX6_put_5 (by decide) (fun _ => ?_) (fun h => absurd (by decide) h)
      refine G_aload_n dX6_put_78 rfl ?_
      refine G_dup dX6_put_79 rfl ?_
      refine G_get (f := 3) kc7 dX6_put_80 fX6_22 (by decide) rfl rfl ?_
      refine G_iload_n dX6_put_83 rfl ?_
      refine G_iadd dX6_put_84 ?_
      refine G_put (w' := [_, _, _]) (f := 3) kc7 dX6_put_85 fX6_22 (by decide) rfl rfl rfl rfl (Nat.le_of_ble_eq_true rfl) rfl ?_
      exact G_ret (v := none) ⟨dX6_put_88, rfl⟩ ⟨rfl, by rw [← he]; rfl⟩
    | succ j ih =>
      intro fl st ws z hj hfl he
      rw [nI_pred j]
      refine G_iload_n dX6_put_4 rfl ?_
      refine G_if_lt (tgt := 78) dX6_put_5 (by decide) (fun h => absurd h (nI_pos (by omega))) (fun _ => ?_)
      refine G_aload_n dX6_put_8 rfl ?_
      refine G_get (f := 2) kc7 dX6_put_9 fX6_18 (by decide) rfl rfl ?_
      refine G_iconst (v := 2) dX6_put_12 (by decide) ?_
      refine G_ishr dX6_put_13 ?_
      refine G_topi (y := nI (fl / 4)) (pk_shrN (n := fl) (by omega) _ 2 (by decide)) ?_
      refine G_istore (L' := [_, _, _, _, _]) dX6_put_14 (Nat.le_of_ble_eq_true rfl) rfl ?_
      refine G_aload_n dX6_put_16 rfl ?_
      refine G_get (f := 1) kc7 dX6_put_17 fX6_15 (by decide) rfl rfl ?_
      refine G_iload dX6_put_20 rfl ?_
      refine G_aload_n dX6_put_22 rfl ?_
      refine G_get (f := 1) kc7 dX6_put_23 fX6_15 (by decide) rfl rfl ?_
      refine G_iload dX6_put_26 rfl ?_
      refine G_ialdN (fl / 4) dX6_put_28 rfl rfl (by omega) (by omega) ?_
      refine G_bipush (v := 8) dX6_put_29 (by decide) ?_
      refine G_ishl dX6_put_31 ?_
      refine G_iload_n dX6_put_32 rfl ?_
      refine G_bipush (v := 8) dX6_put_33 (by decide) ?_
      refine G_iload_n dX6_put_35 rfl ?_
      refine G_imul dX6_put_36 ?_
      refine G_iushr dX6_put_37 ?_
      refine G_sipush (v := 255) dX6_put_38 (by decide) ?_
      refine G_iand dX6_put_41 ?_
      refine G_ior dX6_put_42 ?_
      refine G_iastN (w' := [_, _, _]) (fl / 4) dX6_put_43 rfl rfl (by omega) (by omega) rfl ?_
      refine G_aload_n dX6_put_44 rfl ?_
      refine G_dup dX6_put_45 rfl ?_
      refine G_get (f := 2) kc7 dX6_put_46 fX6_18 (by decide) rfl rfl ?_
      refine G_iconst (v := 1) dX6_put_49 (by decide) ?_
      refine G_iadd dX6_put_50 ?_
      refine G_topi (nI_1 fl) ?_
      refine G_put (w' := [_, _, _]) (f := 2) kc7 dX6_put_51 fX6_18 (by decide) rfl rfl rfl rfl (Nat.le_of_ble_eq_true rfl) rfl ?_
      refine G_aload_n dX6_put_54 rfl ?_
      refine G_get (f := 2) kc7 dX6_put_55 fX6_18 (by decide) rfl rfl ?_
      refine G_bipush (v := 64) dX6_put_58 (by decide) ?_
      have tail : ∀ (s' : SS), s' = absorb (st, ws, fl) (us x (8 * nI j) &&& 255) → G ab_x0 mX6_put (d + 1) 0 0 (fun w' v => v = none ∧ w' = wS (putF k x s) (len + nI k)) 72 [some (.ref 100), some (.int x), some (.int (nI k)), some (.int (nI j)), some (.int (nI (fl / 4)))] [] (wS s' len) := by
        intro s' hs'
        refine G_iinc (L' := [_, _, _, _, _]) (v := nI j - 1) dX6_put_72 rfl (nI_sub1 _) rfl ?_
        refine G_goto (tgt := 4) dX6_put_75 (by decide) ?_
        obtain ⟨st', ws', fl'⟩ := s'
        refine ih fl' st' ws' _ (by omega) ?_ ?_
        · have := absorb_lt (s := (st, ws, fl)) (b := us x (8 * nI j) &&& 255) hfl
          rw [← hs'] at this
          exact this
        · rw [← he, hs']; rfl
      refine G_icmp_neN (tgt := 72) (fl + 1) 64 dX6_put_60 (by decide) rfl rfl (by omega) (by omega) (fun hne => ?_) (fun heq => ?_)
      · refine tail (st, _, fl + 1) ?_
        unfold absorb
        rw [if_neg (by exact hne)]
        rfl
      refine G_aload_n dX6_put_63 rfl ?_
      refine G_V (is := [0, 1, 2]) (fo := []) (as := [.ref 100]) (as' := []) (st := []) (k := 0) (n := 0) cX6_put_64 (con_mix d st _ (.int (nI (fl + 1))) (.int len)) ab_pfx rfl (by decide) rfl rfl rfl rfl rfl rfl (Nat.le_of_ble_eq_true rfl) dX6_put_64 (fun w' v h => by rw [h.2]; rfl) (fun w2 v2 hq => ?_)
      obtain ⟨rfl, rfl⟩ := hq
      refine G_aload_n dX6_put_67 rfl ?_
      refine G_iconst (v := 0) dX6_put_68 (by decide) ?_
      refine G_put (w' := [_, _, _]) (f := 2) kc7 dX6_put_69 fX6_18 (by decide) rfl rfl rfl rfl (Nat.le_of_ble_eq_true rfl) rfl ?_
      refine tail (mixS st _, scN 48 _, 0) ?_
      unfold absorb
      rw [if_pos (by exact heq)]
      rfl
  exact loop k s.2.2 s.1 s.2.1 _ hk hs rfl
set_option maxRecDepth 20000 in
theorem con_begin (d fl : Nat) (len : Int32) (st ws : Nat → Int32) : Con mX6_begin (d + 1) 0 0 [cS fl len, cI 8 st, cI 64 ws] [.ref 100] (fun w' v => v = none ∧ w' = wS (va_cpy (ab_l ab_start) st 0 0 8, ws, 0) 0) := by
  refine Con.of (ab_okc rfl (by decide)) (Nat.le_of_ble_eq_true rfl) ?_
  show G ab_x0 mX6_begin (d + 1) 0 0 _ 0 [some (.ref 100)] [] _
  refine G_gets (j := 1) dX6_begin_0 rfl fX6_25 ?_
  refine G_iconst (v := 0) dX6_begin_3 (by decide) ?_
  refine G_aload_n dX6_begin_4 rfl ?_
  refine G_get (f := 0) kc7 dX6_begin_5 fX6_9 (by decide) rfl rfl ?_
  refine G_iconst (v := 0) dX6_begin_8 (by decide) ?_
  refine G_bipush (v := 8) dX6_begin_9 (by decide) ?_
  refine G_copyX (i := 1) (n0 := 8) (f := ab_l ab_start) (w1 := [_, _, _]) dX6_begin_11 uX6_28 rfl (Nat.le_of_ble_eq_true rfl) rfl rfl (by decide) (by decide) (by decide) (by decide) (by decide) rfl ?_
  refine G_aload_n dX6_begin_14 rfl ?_
  refine G_iconst (v := 0) dX6_begin_15 (by decide) ?_
  refine G_put (w' := [_, _, _]) (f := 2) kc7 dX6_begin_16 fX6_18 (by decide) rfl rfl rfl rfl (Nat.le_of_ble_eq_true rfl) rfl ?_
  refine G_aload_n dX6_begin_19 rfl ?_
  refine G_iconst (v := 0) dX6_begin_20 (by decide) ?_
  refine G_put (w' := [_, _, _]) (f := 3) kc7 dX6_begin_21 fX6_22 (by decide) rfl rfl rfl rfl (Nat.le_of_ble_eq_true rfl) rfl ?_
  exact G_ret (v := none) ⟨dX6_begin_24, rfl⟩ ⟨rfl, rfl⟩
/-- noughts up to place 56 -/
def padF : Nat → SS → SS
  | 0, s => s
  | i + 1, s => if s.2.2 = 56 then s else padF i (putF 1 0 s)
def endF (s : SS) (len : Int32) : SS := putF 4 (8 * len) (putF 4 0 (padF 64 (putF 1 128 s)))
theorem padF_lt : ∀ (k : Nat) (s : SS), s.2.2 < 64 → (padF k s).2.2 < 64
  | 0, _, h => h
  | k + 1, s, h => by
    unfold padF
    split
    · exact h
    · exact padF_lt k _ (putF_lt 1 0 s h)
set_option maxRecDepth 20000 in
theorem con_end (d at_ N : Nat) (hN : at_ + 8 ≤ N) (hN2 : N < 2 ^ 31) (len : Int32) (s : SS) (hs : s.2.2 < 64) (g : Nat → Int32) : Con mX6_end (d + 2) 0 0 [cS s.2.2 len, cI 8 s.1, cI 64 s.2.1, cI N g] [.ref 100, .ref 103, .int (nI at_)] (fun w' v => v = none ∧ ∃ len', w' = [cS (endF s len).2.2 len', cI 8 (endF s len).1, cI 64 (endF s len).2.1, cI N (va_cpy (endF s len).1 g 0 at_ 8)]) := by
  refine Con.of (ab_okc rfl (by decide)) (Nat.le_of_ble_eq_true rfl) ?_
  show G ab_x0 mX6_end (d + 2) 0 0 _ 0 [some (.ref 100), some (.ref 103), some (.int (nI at_)), none, none] [] _
  refine G_bipush (v := 8) dX6_end_0 (by decide) ?_
  refine G_aload_n dX6_end_2 rfl ?_
  refine G_get (f := 3) kc7 dX6_end_3 fX6_22 (by decide) rfl rfl ?_
  refine G_imul dX6_end_6 ?_
  refine G_istore_n (L' := [_, _, _, _, _]) dX6_end_7 (Nat.le_of_ble_eq_true rfl) rfl ?_
  refine G_aload_n dX6_end_8 rfl ?_
  refine G_sipush (v := 128) dX6_end_9 (by decide) ?_
  refine G_iconst (v := 1) dX6_end_12 (by decide) ?_
  refine G_V (is := [0, 1, 2]) (fo := []) (as := [.ref 100, .int 128, .int (nI 1)]) (as' := [.int 128, .int (nI 1)]) (st := []) (k := 0) (n := 0) cX6_end_13 (con_put d 1 (by decide) 128 len s (by exact hs)) ab_pfx rfl (by decide) rfl rfl rfl rfl rfl rfl (Nat.le_of_ble_eq_true rfl) dX6_end_13 (fun w' v h => by rw [h.2]; rfl) (fun w2 v2 hq => ?_)
  obtain ⟨rfl, hw2⟩ := hq
  obtain ⟨s0, hs0⟩ : ∃ z, z = putF 1 128 s := ⟨_, rfl⟩
  have hs0l : s0.2.2 < 64 := by rw [hs0]; exact putF_lt 1 128 s hs
  rw [← hs0] at hw2
  subst hw2
  refine G_iconst (v := 0) dX6_end_16 (by decide) ?_
  refine G_istore (L' := [_, _, _, _, _]) dX6_end_17 (Nat.le_of_ble_eq_true rfl) rfl ?_
  have loop : ∀ (i : Nat) (s1 : SS) (l1 : Int32), i ≤ 64 → s1.2.2 < 64 → padF (64 - i) s1 = padF 64 s0 → G ab_x0 mX6_end (d + 2) 0 0 (fun w' v => v = none ∧ ∃ len', w' = [cS (endF s len).2.2 len', cI 8 (endF s len).1, cI 64 (endF s len).2.1, cI N (va_cpy (endF s len).1 g 0 at_ 8)]) 19 [some (.ref 100), some (.ref 103), some (.int (nI at_)), some (.int (8 * len)), some (.int (nI i))] [] [cS s1.2.2 l1, cI 8 s1.1, cI 64 s1.2.1, cI N g] := by
    intro i
    induction hm : 64 - i using Nat.strongRecOn generalizing i with
    | ind m ih =>
      subst hm
      intro s1 l1 hi hs1 hp
      have fin : padF 64 s0 = s1 → G ab_x0 mX6_end (d + 2) 0 0 (fun w' v => v = none ∧ ∃ len', w' = [cS (endF s len).2.2 len', cI 8 (endF s len).1, cI 64 (endF s len).2.1, cI N (va_cpy (endF s len).1 g 0 at_ 8)]) 47 [some (.ref 100), some (.ref 103), some (.int (nI at_)), some (.int (8 * len)), some (.int (nI i))] [] [cS s1.2.2 l1, cI 8 s1.1, cI 64 s1.2.1, cI N g] := by
        intro he
        refine G_aload_n dX6_end_47 rfl ?_
        refine G_iconst (v := 0) dX6_end_48 (by decide) ?_
        refine G_iconst (v := 4) dX6_end_49 (by decide) ?_
        refine G_V (is := [0, 1, 2]) (fo := []) (as := [.ref 100, .int 0, .int (nI 4)]) (as' := [.int 0, .int (nI 4)]) (st := []) (k := 0) (n := 0) cX6_end_50 (con_put d 4 (by decide) 0 l1 s1 (by exact hs1)) ab_pfx rfl (by decide) rfl rfl rfl rfl rfl rfl (Nat.le_of_ble_eq_true rfl) dX6_end_50 (fun w' v h => by rw [h.2]; rfl) (fun w2 v2 hq => ?_)
        obtain ⟨rfl, hw2⟩ := hq
        obtain ⟨s2, hs2⟩ : ∃ z, z = putF 4 0 s1 := ⟨_, rfl⟩
        have hs2l : s2.2.2 < 64 := by rw [hs2]; exact putF_lt 4 0 s1 hs1
        rw [← hs2] at hw2
        subst hw2
        refine G_aload_n dX6_end_53 rfl ?_
        refine G_iload_n dX6_end_54 rfl ?_
        refine G_iconst (v := 4) dX6_end_55 (by decide) ?_
        refine G_V (is := [0, 1, 2]) (fo := []) (as := [.ref 100, .int (8 * len), .int (nI 4)]) (as' := [.int (8 * len), .int (nI 4)]) (st := []) (k := 0) (n := 0) cX6_end_56 (con_put d 4 (by decide) (8 * len) (l1 + nI 4) s2 (by exact hs2l)) ab_pfx rfl (by decide) rfl rfl rfl rfl rfl rfl (Nat.le_of_ble_eq_true rfl) dX6_end_56 (fun w' v h => by rw [h.2]; rfl) (fun w2 v2 hq => ?_)
        obtain ⟨rfl, hw2⟩ := hq
        obtain ⟨s3, hs3⟩ : ∃ z, z = putF 4 (8 * len) s2 := ⟨_, rfl⟩
        rw [← hs3] at hw2
        subst hw2
        refine G_aload_n dX6_end_59 rfl ?_
        refine G_get (f := 0) kc7 dX6_end_60 fX6_9 (by decide) rfl rfl ?_
        refine G_iconst (v := 0) dX6_end_63 (by decide) ?_
        refine G_aload_n dX6_end_64 rfl ?_
        refine G_iload_n dX6_end_65 rfl ?_
        refine G_bipush (v := 8) dX6_end_66 (by decide) ?_
        have e1 : (nI at_).toNatClampNeg = at_ := nI_clamp (by omega)
        have e2 : (8 : Int32).toNatClampNeg = 8 := by decide
        have e0 : (0 : Int32).toNatClampNeg = 0 := by decide
        refine G_copy (j0 := 1) (j1 := 3) (w1 := [_, _, _, _]) dX6_end_68 uX6_28 rfl (Nat.le_of_ble_eq_true rfl) rfl rfl (by decide) (nI_pos (by omega)) (by decide) (by decide) (by rw [e1, e2]; exact hN) rfl ?_
        rw [e1, e2, e0]
        refine G_ret (v := none) ⟨dX6_end_71, rfl⟩ ⟨rfl, l1 + nI 4 + nI 4, ?_⟩
        have e9 : endF s len = s3 := by
          unfold endF
          rw [← hs0, he, ← hs2, ← hs3]
        rw [e9]
        rfl
      refine G_iload dX6_end_19 rfl ?_
      refine G_bipush (v := 64) dX6_end_21 (by decide) ?_
      refine G_icmp_geN (tgt := 47) i 64 dX6_end_23 (by decide) rfl rfl (by omega) (by omega) (fun hge => ?_) (fun hlt => ?_)
      · refine fin ?_
        rw [← hp, show 64 - i = 0 by omega]
        rfl
      refine G_aload_n dX6_end_26 rfl ?_
      refine G_get (f := 2) kc7 dX6_end_27 fX6_18 (by decide) rfl rfl ?_
      refine G_bipush (v := 56) dX6_end_30 (by decide) ?_
      refine G_icmp_eqN (tgt := 47) s1.2.2 56 dX6_end_32 (by decide) rfl rfl (by omega) (by omega) (fun heq => ?_) (fun hne => ?_)
      · refine fin ?_
        rw [← hp, show 64 - i = (63 - i) + 1 by omega, padF, if_pos heq]
      refine G_aload_n dX6_end_35 rfl ?_
      refine G_iconst (v := 0) dX6_end_36 (by decide) ?_
      refine G_iconst (v := 1) dX6_end_37 (by decide) ?_
      refine G_V (is := [0, 1, 2]) (fo := []) (as := [.ref 100, .int 0, .int (nI 1)]) (as' := [.int 0, .int (nI 1)]) (st := []) (k := 0) (n := 0) cX6_end_38 (con_put d 1 (by decide) 0 l1 s1 (by exact hs1)) ab_pfx rfl (by decide) rfl rfl rfl rfl rfl rfl (Nat.le_of_ble_eq_true rfl) dX6_end_38 (fun w' v h => by rw [h.2]; rfl) (fun w2 v2 hq => ?_)
      obtain ⟨rfl, hw2⟩ := hq
      obtain ⟨s2, hs2⟩ : ∃ z, z = putF 1 0 s1 := ⟨_, rfl⟩
      have hs2l : s2.2.2 < 64 := by rw [hs2]; exact putF_lt 1 0 s1 hs1
      rw [← hs2] at hw2
      subst hw2
      refine G_iinc (L' := [_, _, _, _, _]) (v := nI (i + 1)) dX6_end_41 rfl (nI_succ i).symm rfl ?_
      refine G_goto (tgt := 19) dX6_end_44 (by decide) ?_
      refine ih (64 - (i + 1)) (by omega) (i + 1) rfl s2 (l1 + nI 1) (by omega) hs2l ?_
      rw [← hp, show 64 - i = (64 - (i + 1)) + 1 by omega, padF, if_neg hne, hs2]
  exact loop 0 s0 _ (by omega) hs0l rfl
