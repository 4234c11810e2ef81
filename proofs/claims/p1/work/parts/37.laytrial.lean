/-! LeastRow.layTrial. -/
/-- the numbers for a bound: a blank that has none yet gets the greatest that it can -/
def lyP (p : Nat → Nat) (num T nb : Nat) (rk st : Nat → Nat) : Nat → Nat := fun b => if b < nb ∧ T.testBit b = false then min num (st (rk b + 1)) else p b
/-- pushed apart -/
def pshF (s : Nat → Nat) : Nat → Nat
  | 0 => s 0
  | i + 1 => max (s (i + 1)) (pshF s i + 1)
theorem pshF_le {s : Nat → Nat} {m : Nat} : ∀ {i : Nat}, (∀ j, j ≤ i → s j ≤ m) → pshF s i ≤ m + i
  | 0, h => h 0 (Nat.le_refl _)
  | i + 1, h => by
    have h1 := pshF_le (s := s) (m := m) (i := i) (fun j hj => h j (by omega))
    have h2 := h (i + 1) (Nat.le_refl _)
    show max _ _ ≤ _
    omega
/-- the row by numbers p, in order -/
def rowL (k : Nat → Nat) (nt : Nat) (p : Nat → Nat) : List Nat := srtN ((List.range nt).map (fun i => rnK p (k i)))
def rowF (k : Nat → Nat) (nt : Nat) (p : Nat → Nat) : Nat → Nat := fun j => (rowL k nt p).getD j 0
theorem rowL_len (k : Nat → Nat) (nt : Nat) (p : Nat → Nat) : (rowL k nt p).length = nt := by
  unfold rowL
  rw [(srtN_perm _).length_eq, List.length_map, List.length_range]
theorem rowF_lt (k : Nat → Nat) (nt : Nat) (p : Nat → Nat) (j : Nat) : rowF k nt p j < 2 ^ 30 := by
  unfold rowF
  rw [List.getD_eq_getElem?_getD]
  cases h : (rowL k nt p)[j]? with
  | none => show 0 < 2 ^ 30; omega
  | some x =>
    show x < 2 ^ 30
    have hm := (srtN_perm _).subset (List.mem_of_getElem? h)
    obtain ⟨i, _, e⟩ := List.mem_map.mp hm
    rw [← e]
    exact rnK_lt p _
set_option maxRecDepth 20000 in
set_option maxHeartbeats 4000000 in
theorem con_layTrial (d nb nt num T cnt : Nat) (hnb : nb ≤ 8) (hnt : nt ≤ 40) (hnum : num ≤ 8) (hT : T < 256) (hcn : cnt ≤ 8) (f tr K R S : Nat → Int32) (p k rk st : Nat → Nat) (hf : ∀ j, j < 8 → f j = nI (p j) ∧ p j ≤ 8) (hK : ∀ i, i < nt → K i = nI (k i) ∧ k i < 2 ^ 30) (hR : ∀ b, b < nb → R b = nI (rk b) ∧ rk b < cnt) (hS : ∀ g, g ≤ cnt → S g = nI (st g) ∧ st g ≤ 8) (fd hs ro cv : Int32) (t0 t1 t2 : Nat) : Con mX3_layTrial (d + 1) 0 0 [.inr (4, [.ref 101, .ref t0, .ref 102, .int fd]), cI 8 f, cI 40 tr, .inr (1, [.ref 104, .int (nI nb), .int (nI nt), .int hs, .int ro, .ref 105]), cI 40 K, .inr (2, [.ref t1, .ref t2, .ref 106, .ref 107, .int cv]), cI 8 R, cI 9 S] [.ref 100, .ref 103, .int (nI num), .int (nI T)] (fun w' v => v = none ∧ ∃ f2 tr2, w' = [.inr (4, [.ref 101, .ref t0, .ref 102, .int fd]), cI 8 f2, cI 40 tr2, .inr (1, [.ref 104, .int (nI nb), .int (nI nt), .int hs, .int ro, .ref 105]), cI 40 K, .inr (2, [.ref t1, .ref t2, .ref 106, .ref 107, .int cv]), cI 8 R, cI 9 S] ∧ (∀ j, j < 8 → f2 j = nI ((lyP p num T nb rk st) j) ∧ (lyP p num T nb rk st) j ≤ 8) ∧ ∀ j, j < nt → tr2 j = nI (pshF (rowF k nt (lyP p num T nb rk st)) j)) := by
  refine Con.of (ab_okc rfl (by decide)) (Nat.le_of_ble_eq_true rfl) ?_
  show G ab_x0 mX3_layTrial (d + 1) 0 0 _ 0 [some (.ref 100), some (.ref 103), some (.int (nI num)), some (.int (nI T)), none, none] [] _
  have third : ∀ (f2 : Nat → Int32), (∀ j, j < 8 → f2 j = nI ((lyP p num T nb rk st) j) ∧ (lyP p num T nb rk st) j ≤ 8) → ∀ (i : Nat) (tr1 : Nat → Int32), 1 ≤ i → i ≤ nt + 1 → (∀ j, j < nt → tr1 j = nI (if j < i then pshF (rowF k nt (lyP p num T nb rk st)) j else rowF k nt (lyP p num T nb rk st) j)) → G ab_x0 mX3_layTrial (d + 1) 0 0 (fun w' v => v = none ∧ ∃ f2 tr2, w' = [.inr (4, [.ref 101, .ref t0, .ref 102, .int fd]), cI 8 f2, cI 40 tr2, .inr (1, [.ref 104, .int (nI nb), .int (nI nt), .int hs, .int ro, .ref 105]), cI 40 K, .inr (2, [.ref t1, .ref t2, .ref 106, .ref 107, .int cv]), cI 8 R, cI 9 S] ∧ (∀ j, j < 8 → f2 j = nI ((lyP p num T nb rk st) j) ∧ (lyP p num T nb rk st) j ≤ 8) ∧ ∀ j, j < nt → tr2 j = nI (pshF (rowF k nt (lyP p num T nb rk st)) j)) 113 [some (.ref 100), some (.ref 103), some (.int (nI num)), some (.int (nI T)), some (.ref 105), some (.int (nI i))] [] [.inr (4, [.ref 101, .ref t0, .ref 102, .int fd]), cI 8 f2, cI 40 tr1, .inr (1, [.ref 104, .int (nI nb), .int (nI nt), .int hs, .int ro, .ref 105]), cI 40 K, .inr (2, [.ref t1, .ref t2, .ref 106, .ref 107, .int cv]), cI 8 R, cI 9 S] := by
    intro f2 hf2 i
    induction hm : nt - i using Nat.strongRecOn generalizing i with
    | ind m ih =>
      subst hm
      intro tr1 hi1 hi2 ht
      refine G_iload dX3_layTrial_113 rfl ?_
      refine G_aload_n dX3_layTrial_115 rfl ?_
      refine G_get (f := 2) kc1 dX3_layTrial_116 fX3_31 (by decide) rfl rfl ?_
      refine G_icmp_geN (tgt := 156) i nt dX3_layTrial_119 (by decide) rfl rfl (by omega) (by omega) (fun hge => ?_) (fun hlt => ?_)
      · exact G_ret (v := none) ⟨dX3_layTrial_156, rfl⟩ ⟨rfl, f2, tr1, rfl, hf2, fun j hj => by rw [ht j hj, if_pos (by omega)]⟩
      refine G_aload_n dX3_layTrial_122 rfl ?_
      refine G_get (f := 2) kc4 dX3_layTrial_123 fX3_18 (by decide) rfl rfl ?_
      refine G_iload dX3_layTrial_126 rfl ?_
      refine G_aload_n dX3_layTrial_128 rfl ?_
      refine G_get (f := 2) kc4 dX3_layTrial_129 fX3_18 (by decide) rfl rfl ?_
      refine G_iload dX3_layTrial_132 rfl ?_
      refine G_ialdN i dX3_layTrial_134 rfl rfl (by omega) (by omega) ?_
      rw [ht i hlt, if_neg (by omega)]
      refine G_aload_n dX3_layTrial_135 rfl ?_
      refine G_get (f := 2) kc4 dX3_layTrial_136 fX3_18 (by decide) rfl rfl ?_
      refine G_iload dX3_layTrial_139 rfl ?_
      refine G_iconst (v := 1) dX3_layTrial_141 (by decide) ?_
      refine G_isub dX3_layTrial_142 ?_
      refine G_ialdN (i - 1) dX3_layTrial_143 rfl (pk_sub (a := i) (b := 1) (by omega)) (by omega) (by omega) ?_
      rw [ht (i - 1) (by omega), if_pos (by omega)]
      refine G_iconst (v := 1) dX3_layTrial_144 (by decide) ?_
      refine G_iadd dX3_layTrial_145 ?_
      have b1 := rowF_lt k nt (lyP p num T nb rk st) i
      have b2 := pshF_le (s := rowF k nt (lyP p num T nb rk st)) (m := 2 ^ 30) (i := i - 1) (fun j _ => Nat.le_of_lt (rowF_lt k nt _ j))
      refine G_max dX3_layTrial_146 uX3_78 rfl (Nat.le_of_ble_eq_true rfl) ?_
      refine G_topi (y := nI (pshF (rowF k nt (lyP p num T nb rk st)) i)) ?_ ?_
      · rw [nI_1, show i = (i - 1) + 1 by omega]
        show _ = nI (max (rowF k nt _ (i - 1 + 1)) (pshF (rowF k nt _) (i - 1) + 1))
        rw [show i - 1 + 1 - 1 = i - 1 by omega]
        by_cases hc : rowF k nt (lyP p num T nb rk st) (i - 1 + 1) < pshF (rowF k nt (lyP p num T nb rk st)) (i - 1) + 1
        · rw [if_pos (nI_lt hc (by omega)), Nat.max_eq_right (by omega)]
        · rw [if_neg (nI_nlt (by omega) (by rw [show i - 1 + 1 = i by omega]; omega)), Nat.max_eq_left (by omega)]
      refine G_iastN (w' := [_, _, _, _, _, _, _, _]) i dX3_layTrial_149 rfl rfl (by omega) (by omega) rfl ?_
      refine G_iinc (L' := [_, _, _, _, _, _]) (v := nI (i + 1)) dX3_layTrial_150 rfl (nI_succ i).symm rfl ?_
      refine G_goto (tgt := 113) dX3_layTrial_153 (by decide) ?_
      refine ih (nt - (i + 1)) (by omega) (i + 1) rfl _ (by omega) (by omega) (fun j hj => ?_)
      by_cases e : j = i
      · rw [e, pk_us, if_pos (by omega)]
      · rw [pk_un e, ht j hj]
        by_cases e2 : j < i
        · rw [if_pos e2, if_pos (by omega)]
        · rw [if_neg e2, if_neg (by omega)]
  have second : ∀ (f2 : Nat → Int32), (∀ j, j < 8 → f2 j = nI ((lyP p num T nb rk st) j) ∧ (lyP p num T nb rk st) j ≤ 8) → ∀ (i : Nat) (tr1 : Nat → Int32), i ≤ nt → (∀ j, j < i → tr1 j = nI (rnK (lyP p num T nb rk st) (k j))) → G ab_x0 mX3_layTrial (d + 1) 0 0 (fun w' v => v = none ∧ ∃ f2 tr2, w' = [.inr (4, [.ref 101, .ref t0, .ref 102, .int fd]), cI 8 f2, cI 40 tr2, .inr (1, [.ref 104, .int (nI nb), .int (nI nt), .int hs, .int ro, .ref 105]), cI 40 K, .inr (2, [.ref t1, .ref t2, .ref 106, .ref 107, .int cv]), cI 8 R, cI 9 S] ∧ (∀ j, j < 8 → f2 j = nI ((lyP p num T nb rk st) j) ∧ (lyP p num T nb rk st) j ≤ 8) ∧ ∀ j, j < nt → tr2 j = nI (pshF (rowF k nt (lyP p num T nb rk st)) j)) 63 [some (.ref 100), some (.ref 103), some (.int (nI num)), some (.int (nI T)), some (.ref 105), some (.int (nI i))] [] [.inr (4, [.ref 101, .ref t0, .ref 102, .int fd]), cI 8 f2, cI 40 tr1, .inr (1, [.ref 104, .int (nI nb), .int (nI nt), .int hs, .int ro, .ref 105]), cI 40 K, .inr (2, [.ref t1, .ref t2, .ref 106, .ref 107, .int cv]), cI 8 R, cI 9 S] := by
    intro f2 hf2 i
    induction hm : nt - i using Nat.strongRecOn generalizing i with
    | ind m ih =>
      subst hm
      intro tr1 hi ht
      refine G_iload dX3_layTrial_63 rfl ?_
      refine G_aload_n dX3_layTrial_65 rfl ?_
      refine G_get (f := 2) kc1 dX3_layTrial_66 fX3_31 (by decide) rfl rfl ?_
      refine G_icmp_geN (tgt := 99) i nt dX3_layTrial_69 (by decide) rfl rfl (by omega) (by omega) (fun hge => ?_) (fun hlt => ?_)
      · have e : i = nt := by omega
        subst e
        refine G_aload_n dX3_layTrial_99 rfl ?_
        refine G_get (f := 2) kc4 dX3_layTrial_100 fX3_18 (by decide) rfl rfl ?_
        refine G_aload_n dX3_layTrial_103 rfl ?_
        refine G_get (f := 2) kc1 dX3_layTrial_104 fX3_31 (by decide) rfl rfl ?_
        refine G_SN (is := [2]) (fo := []) (as := [.ref 100, .int (nI i)]) (as' := [.ref 102, .int (nI i)]) (st := []) (k := 0) (n := 0) cX3_layTrial_107 (con_sort d tr1 40 i (by omega) (by decide)) ab_pfx rfl (by decide) rfl rfl rfl rfl (Nat.le_of_ble_eq_true rfl) dX3_layTrial_107 (fun w' v h => by obtain ⟨_, _, h, _⟩ := h; rw [h]; rfl) (fun w2 v2 hq => ?_)
        obtain ⟨rfl, tr3, rfl, hsrt⟩ := hq
        refine G_w (st' := []) (w' := [.inr (4, [.ref 101, .ref t0, .ref 102, .int fd]), cI 8 f2, cI 40 tr3, .inr (1, [.ref 104, .int (nI nb), .int (nI i), .int hs, .int ro, .ref 105]), cI 40 K, .inr (2, [.ref t1, .ref t2, .ref 106, .ref 107, .int cv]), cI 8 R, cI 9 S]) rfl rfl ?_
        have hl : ((List.range i).map (fun j => rnK (lyP p num T nb rk st) (k j))).length = i := by rw [List.length_map, List.length_range]
        have hsl := srt_list (l := (List.range i).map (fun j => rnK (lyP p num T nb rk st) (k j))) hl (fun j x hx => by
          rw [List.getElem?_map] at hx
          by_cases hj : j < i
          · rw [List.getElem?_range hj] at hx
            cases hx
            exact ht j hj
          · rw [List.getElem?_eq_none (by simp; omega)] at hx
            cases hx) (fun x hx => by
          obtain ⟨j, _, e⟩ := List.mem_map.mp hx
          rw [← e]
          have := rnK_lt (lyP p num T nb rk st) (k j)
          omega) hsrt
        refine G_iconst (v := 1) dX3_layTrial_110 (by decide) ?_
        refine G_istore (L' := [_, _, _, _, _, _]) dX3_layTrial_111 (Nat.le_of_ble_eq_true rfl) rfl ?_
        refine third f2 hf2 1 tr3 (by omega) (by omega) (fun j hj => ?_)
        obtain ⟨x, hx⟩ : ∃ x, (rowL k i (lyP p num T nb rk st))[j]? = some x := ⟨_, List.getElem?_eq_getElem (by rw [rowL_len]; exact hj)⟩
        have h1 := hsl j x hx
        have e1 : rowF k i (lyP p num T nb rk st) j = x := by
          unfold rowF
          rw [List.getD_eq_getElem?_getD, hx]
          rfl
        by_cases h0 : j < 1
        · have ej : j = 0 := by omega
          subst ej
          rw [if_pos h0, h1]
          show nI x = nI (rowF k i _ 0)
          rw [e1]
        · rw [if_neg h0, e1, h1]
      obtain ⟨hK1, hK2⟩ := hK i hlt
      refine G_aload_n dX3_layTrial_72 rfl ?_
      refine G_get (f := 2) kc4 dX3_layTrial_73 fX3_18 (by decide) rfl rfl ?_
      refine G_iload dX3_layTrial_76 rfl ?_
      refine G_aload_n dX3_layTrial_78 rfl ?_
      refine G_get (f := 0) kc1 dX3_layTrial_79 fX3_54 (by decide) rfl rfl ?_
      refine G_iload dX3_layTrial_82 rfl ?_
      refine G_ialdN i dX3_layTrial_84 rfl rfl (by omega) (by omega) ?_
      rw [hK1]
      refine G_aload_n dX3_layTrial_85 rfl ?_
      refine G_get (f := 0) kc4 dX3_layTrial_86 fX3_9 (by decide) rfl rfl ?_
      refine G_SN (is := [1]) (fo := []) (as := [.int (nI (k i)), .ref 100]) (as' := [.int (nI (k i)), .ref 101]) (st := [.int (nI i), .ref 102]) (k := 0) (n := 0) cX3_layTrial_89 (con_renum d (k i) f2 (lyP p num T nb rk st) hK2 hf2) ab_pfx rfl (by decide) rfl rfl rfl rfl (Nat.le_of_ble_eq_true rfl) dX3_layTrial_89 (fun w' v h => by rw [h.1]) (fun w2 v2 hq => ?_)
      obtain ⟨rfl, rfl⟩ := hq
      refine G_w (st' := [.int (nI (rnK (lyP p num T nb rk st) (k i))), .int (nI i), .ref 102]) (w' := [.inr (4, [.ref 101, .ref t0, .ref 102, .int fd]), cI 8 f2, cI 40 tr1, .inr (1, [.ref 104, .int (nI nb), .int (nI nt), .int hs, .int ro, .ref 105]), cI 40 K, .inr (2, [.ref t1, .ref t2, .ref 106, .ref 107, .int cv]), cI 8 R, cI 9 S]) rfl rfl ?_
      refine G_iastN (w' := [_, _, _, _, _, _, _, _]) i dX3_layTrial_92 rfl rfl (by omega) (by omega) rfl ?_
      refine G_iinc (L' := [_, _, _, _, _, _]) (v := nI (i + 1)) dX3_layTrial_93 rfl (nI_succ i).symm rfl ?_
      refine G_goto (tgt := 63) dX3_layTrial_96 (by decide) ?_
      refine ih (nt - (i + 1)) (by omega) (i + 1) rfl _ (by omega) (fun j hj => ?_)
      by_cases e : j = i
      · rw [e, pk_us]
      · rw [pk_un e]; exact ht j (by omega)
  refine G_aload_n dX3_layTrial_0 rfl ?_
  refine G_get (f := 5) kc1 dX3_layTrial_1 fX3_34 (by decide) rfl rfl ?_
  refine G_astore (L' := [_, _, _, _, _, _]) dX3_layTrial_4 (Nat.le_of_ble_eq_true rfl) rfl ?_
  refine G_iconst (v := 0) dX3_layTrial_6 (by decide) ?_
  refine G_istore (L' := [_, _, _, _, _, _]) dX3_layTrial_7 (Nat.le_of_ble_eq_true rfl) rfl ?_
  have first : ∀ (b : Nat) (f1 : Nat → Int32), b ≤ nb → (∀ j, j < 8 → f1 j = nI (if j < b then (lyP p num T nb rk st) j else p j)) → G ab_x0 mX3_layTrial (d + 1) 0 0 (fun w' v => v = none ∧ ∃ f2 tr2, w' = [.inr (4, [.ref 101, .ref t0, .ref 102, .int fd]), cI 8 f2, cI 40 tr2, .inr (1, [.ref 104, .int (nI nb), .int (nI nt), .int hs, .int ro, .ref 105]), cI 40 K, .inr (2, [.ref t1, .ref t2, .ref 106, .ref 107, .int cv]), cI 8 R, cI 9 S] ∧ (∀ j, j < 8 → f2 j = nI ((lyP p num T nb rk st) j) ∧ (lyP p num T nb rk st) j ≤ 8) ∧ ∀ j, j < nt → tr2 j = nI (pshF (rowF k nt (lyP p num T nb rk st)) j)) 9 [some (.ref 100), some (.ref 103), some (.int (nI num)), some (.int (nI T)), some (.ref 105), some (.int (nI b))] [] [.inr (4, [.ref 101, .ref t0, .ref 102, .int fd]), cI 8 f1, cI 40 tr, .inr (1, [.ref 104, .int (nI nb), .int (nI nt), .int hs, .int ro, .ref 105]), cI 40 K, .inr (2, [.ref t1, .ref t2, .ref 106, .ref 107, .int cv]), cI 8 R, cI 9 S] := by
    intro b
    induction hm : nb - b using Nat.strongRecOn generalizing b with
    | ind m ih =>
      subst hm
      intro f1 hb h1
      refine G_iload dX3_layTrial_9 rfl ?_
      refine G_aload_n dX3_layTrial_11 rfl ?_
      refine G_get (f := 1) kc1 dX3_layTrial_12 fX3_25 (by decide) rfl rfl ?_
      refine G_icmp_geN (tgt := 60) b nb dX3_layTrial_15 (by decide) rfl rfl (by omega) (by omega) (fun hge => ?_) (fun hlt => ?_)
      · have e : b = nb := by omega
        subst e
        refine G_iconst (v := 0) dX3_layTrial_60 (by decide) ?_
        refine G_istore (L' := [_, _, _, _, _, _]) dX3_layTrial_61 (Nat.le_of_ble_eq_true rfl) rfl ?_
        refine second f1 (fun j hj => ?_) 0 tr (by omega) (fun j hj => by omega)
        have hle : (lyP p num T b rk st) j ≤ 8 := by
          unfold lyP
          split
          · omega
          · exact (hf j hj).2
        refine ⟨?_, hle⟩
        rw [h1 j hj]
        by_cases hjb : j < b
        · rw [if_pos hjb]
        · rw [if_neg hjb]
          unfold lyP
          rw [if_neg (fun q => hjb q.1)]
      obtain ⟨r1, r2⟩ := hR b hlt
      obtain ⟨s1, s2⟩ := hS (rk b + 1) (by omega)
      have hbit := tk_bit T hT b (by omega)
      have nxt : ∀ f3 : Nat → Int32, (∀ j, j ≠ b → f3 j = f1 j) → f3 b = nI ((lyP p num T nb rk st) b) → G ab_x0 mX3_layTrial (d + 1) 0 0 (fun w' v => v = none ∧ ∃ f2 tr2, w' = [.inr (4, [.ref 101, .ref t0, .ref 102, .int fd]), cI 8 f2, cI 40 tr2, .inr (1, [.ref 104, .int (nI nb), .int (nI nt), .int hs, .int ro, .ref 105]), cI 40 K, .inr (2, [.ref t1, .ref t2, .ref 106, .ref 107, .int cv]), cI 8 R, cI 9 S] ∧ (∀ j, j < 8 → f2 j = nI ((lyP p num T nb rk st) j) ∧ (lyP p num T nb rk st) j ≤ 8) ∧ ∀ j, j < nt → tr2 j = nI (pshF (rowF k nt (lyP p num T nb rk st)) j)) 54 [some (.ref 100), some (.ref 103), some (.int (nI num)), some (.int (nI T)), some (.ref 105), some (.int (nI b))] [] [.inr (4, [.ref 101, .ref t0, .ref 102, .int fd]), cI 8 f3, cI 40 tr, .inr (1, [.ref 104, .int (nI nb), .int (nI nt), .int hs, .int ro, .ref 105]), cI 40 K, .inr (2, [.ref t1, .ref t2, .ref 106, .ref 107, .int cv]), cI 8 R, cI 9 S] := by
        intro f3 a1 a2
        refine G_iinc (L' := [_, _, _, _, _, _]) (v := nI (b + 1)) dX3_layTrial_54 rfl (nI_succ b).symm rfl ?_
        refine G_goto (tgt := 9) dX3_layTrial_57 (by decide) ?_
        refine ih (nb - (b + 1)) (by omega) (b + 1) rfl f3 (by omega) (fun j hj => ?_)
        by_cases e : j = b
        · rw [e, if_pos (by omega)]; exact a2
        · rw [a1 j e, h1 j hj]
          by_cases e2 : j < b
          · rw [if_pos e2, if_pos (by omega)]
          · rw [if_neg e2, if_neg (by omega)]
      refine G_iload_n dX3_layTrial_18 rfl ?_
      refine G_iload dX3_layTrial_19 rfl ?_
      refine G_ishr dX3_layTrial_21 ?_
      refine G_iconst (v := 1) dX3_layTrial_22 (by decide) ?_
      refine G_iand dX3_layTrial_23 ?_
      refine G_if_ne (tgt := 54) dX3_layTrial_24 (by decide) (fun h => ?_) (fun h => ?_)
      · refine nxt f1 (fun _ _ => rfl) ?_
        rw [h1 b (by omega), if_neg (by omega)]
        unfold lyP
        rw [if_neg (fun q => h (hbit.mpr q.2))]
      refine G_aload_n dX3_layTrial_27 rfl ?_
      refine G_get (f := 0) kc4 dX3_layTrial_28 fX3_9 (by decide) rfl rfl ?_
      refine G_iload dX3_layTrial_31 rfl ?_
      refine G_iload_n dX3_layTrial_33 rfl ?_
      refine G_aload dX3_layTrial_34 rfl ?_
      refine G_get (f := 3) kc2 dX3_layTrial_36 fX3_65 (by decide) rfl rfl ?_
      refine G_aload dX3_layTrial_39 rfl ?_
      refine G_get (f := 2) kc2 dX3_layTrial_41 fX3_38 (by decide) rfl rfl ?_
      refine G_iload dX3_layTrial_44 rfl ?_
      refine G_ialdN b dX3_layTrial_46 rfl rfl (by omega) (by omega) ?_
      rw [r1]
      refine G_iconst (v := 1) dX3_layTrial_47 (by decide) ?_
      refine G_iadd dX3_layTrial_48 ?_
      refine G_ialdN (rk b + 1) dX3_layTrial_49 rfl (nI_1 (rk b)) (by omega) (by omega) ?_
      rw [s1]
      refine G_min dX3_layTrial_50 uX3_84 rfl (Nat.le_of_ble_eq_true rfl) ?_
      refine G_topi (y := nI (min num (st (rk b + 1)))) ?_ ?_
      · by_cases hc : st (rk b + 1) < num
        · rw [if_pos (nI_lt hc (by omega)), Nat.min_eq_right (by omega)]
        · rw [if_neg (nI_nlt (by omega) (by omega)), Nat.min_eq_left (by omega)]
      refine G_iastN (w' := [_, _, _, _, _, _, _, _]) b dX3_layTrial_53 rfl rfl (by omega) (by omega) rfl ?_
      refine nxt _ (fun j hj => pk_un hj) ?_
      rw [pk_us]
      unfold lyP
      rw [if_pos ⟨hlt, hbit.mp h⟩]
  exact first 0 f (by omega) (fun j hj => by rw [if_neg (by omega)]; exact (hf j hj).1)
