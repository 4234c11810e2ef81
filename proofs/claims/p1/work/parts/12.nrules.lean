/-! G's rules once more, with natural numbers for the Int32 values: indices, comparisons. -/
section ABN
variable {xo : ab_XO} {M : ab_M} {d k n : Nat} {Q : List ab_C → Option Value → Prop} {pc : Nat} {L : List (Option Value)} {st : List Value} {w w' : List ab_C}
theorem G_topi {x y : Int32} (h : x = y) (kk : G xo M d k n Q pc L (.int y :: st) w) : G xo M d k n Q pc L (.int x :: st) w := h ▸ kk
theorem G_topl {x y : Int64} (h : x = y) (kk : G xo M d k n Q pc L (.long y :: st) w) : G xo M d k n Q pc L (.long x :: st) w := h ▸ kk
theorem G_to {pc' : Nat} {L' : List (Option Value)} {st' : List Value} {w' : List ab_C} (kk : G xo M d k n Q pc L st w) (h1 : pc = pc') (h2 : L = L') (h3 : st = st') (h4 : w = w') : G xo M d k n Q pc' L' st' w' := by subst h1; subst h2; subst h3; subst h4; exact kk
theorem G_ialdN {j N : Nat} {f : Nat → Int32} {i : Int32} (q : Nat) (hd : decode M.2.2.1 pc = .ok (.iaload, 1)) (hw : w[j]? = some (.inl (0, N, .inl f))) (hi : i = nI q) (hq : q < N) (hN : N < 2 ^ 31) (kk : G xo M d k n Q (pc + 1) L (.int (f q) :: st) w) : G xo M d k n Q pc L (.int i :: .ref (j + 100) :: st) w := by
  subst hi
  refine G_iald hd hw (vp_in_nI hq hN) ?_
  rw [nI_clamp (by omega)]
  exact kk
theorem G_laldN {j N : Nat} {f : Nat → Int64} {i : Int32} (q : Nat) (hd : decode M.2.2.1 pc = .ok (.laload, 1)) (hw : w[j]? = some (.inl (1, N, .inr (.inl f)))) (hi : i = nI q) (hq : q < N) (hN : N < 2 ^ 31) (kk : G xo M d k n Q (pc + 1) L (.long (f q) :: st) w) : G xo M d k n Q pc L (.int i :: .ref (j + 100) :: st) w := by
  subst hi
  refine G_lald hd hw (vp_in_nI hq hN) ?_
  rw [nI_clamp (by omega)]
  exact kk
theorem G_baldN {j N : Nat} {f : Nat → Int32} {i : Int32} (q : Nat) (hd : decode M.2.2.1 pc = .ok (.baload, 1)) (hw : w[j]? = some (.inl (2, N, .inl f))) (hi : i = nI q) (hq : q < N) (hN : N < 2 ^ 31) (kk : G xo M d k n Q (pc + 1) L (.int (f q) :: st) w) : G xo M d k n Q pc L (.int i :: .ref (j + 100) :: st) w := by
  subst hi
  refine G_bald hd hw (vp_in_nI hq hN) ?_
  rw [nI_clamp (by omega)]
  exact kk
theorem G_zaldN {j N : Nat} {f : Nat → Int32} {i : Int32} (q : Nat) (hd : decode M.2.2.1 pc = .ok (.baload, 1)) (hw : w[j]? = some (.inl (3, N, .inl f))) (hi : i = nI q) (hq : q < N) (hN : N < 2 ^ 31) (kk : G xo M d k n Q (pc + 1) L (.int (f q) :: st) w) : G xo M d k n Q pc L (.int i :: .ref (j + 100) :: st) w := by
  subst hi
  refine G_zald hd hw (vp_in_nI hq hN) ?_
  rw [nI_clamp (by omega)]
  exact kk
theorem G_iastN {j N : Nat} {f : Nat → Int32} {i : Int32} {x : Int32} (q : Nat) (hd : decode M.2.2.1 pc = .ok (.iastore, 1)) (hw : w[j]? = some (.inl (0, N, .inl f))) (hi : i = nI q) (hq : q < N) (hN : N < 2 ^ 31) (hw' : w.set j (.inl (0, N, .inl (upd f q x))) = w') (kk : G xo M d k n Q (pc + 1) L st w') : G xo M d k n Q pc L (.int x :: .int i :: .ref (j + 100) :: st) w := by
  subst hi
  refine G_iast hd hw (vp_in_nI hq hN) ?_ kk
  rw [nI_clamp (by omega)]
  exact hw'
theorem G_lastN {j N : Nat} {f : Nat → Int64} {i : Int32} {x : Int64} (q : Nat) (hd : decode M.2.2.1 pc = .ok (.lastore, 1)) (hw : w[j]? = some (.inl (1, N, .inr (.inl f)))) (hi : i = nI q) (hq : q < N) (hN : N < 2 ^ 31) (hw' : w.set j (.inl (1, N, .inr (.inl (vp_updL f q x)))) = w') (kk : G xo M d k n Q (pc + 1) L st w') : G xo M d k n Q pc L (.long x :: .int i :: .ref (j + 100) :: st) w := by
  subst hi
  refine G_last hd hw (vp_in_nI hq hN) ?_ kk
  rw [nI_clamp (by omega)]
  exact hw'
theorem G_bastN {j N : Nat} {f : Nat → Int32} {i : Int32} {x : Int32} (q : Nat) (hd : decode M.2.2.1 pc = .ok (.bastore, 1)) (hw : w[j]? = some (.inl (2, N, .inl f))) (hi : i = nI q) (hq : q < N) (hN : N < 2 ^ 31) (hw' : w.set j (.inl (2, N, .inl (upd f q (vp_nar .byte x)))) = w') (kk : G xo M d k n Q (pc + 1) L st w') : G xo M d k n Q pc L (.int x :: .int i :: .ref (j + 100) :: st) w := by
  subst hi
  refine G_bast hd hw (vp_in_nI hq hN) ?_ kk
  rw [nI_clamp (by omega)]
  exact hw'
theorem G_zastN {j N : Nat} {f : Nat → Int32} {i : Int32} {x : Int32} (q : Nat) (hd : decode M.2.2.1 pc = .ok (.bastore, 1)) (hw : w[j]? = some (.inl (3, N, .inl f))) (hi : i = nI q) (hq : q < N) (hN : N < 2 ^ 31) (hw' : w.set j (.inl (3, N, .inl (upd f q (vp_nar .boolean x)))) = w') (kk : G xo M d k n Q (pc + 1) L st w') : G xo M d k n Q pc L (.int x :: .int i :: .ref (j + 100) :: st) w := by
  subst hi
  refine G_zast hd hw (vp_in_nI hq hN) ?_ kk
  rw [nI_clamp (by omega)]
  exact hw'
theorem G_xaldN {j N : Nat} {f : Nat → Int32} {i : Int32} (q : Nat) (hd : decode M.2.2.1 pc = .ok (.iaload, 1)) (hx : xo[j]? = some (N, f)) (hi : i = nI q) (hq : q < N) (hN : N < 2 ^ 31) (kk : G xo M d k n Q (pc + 1) L (.int (f q) :: st) w) : G xo M d k n Q pc L (.int i :: .ref j :: st) w := by
  subst hi
  refine G_xald hd hx (vp_in_nI hq hN) ?_
  rw [nI_clamp (by omega)]
  exact kk
theorem G_icmp_eqN {x y : Int32} {off : Int} {tgt : Nat} (a b : Nat) (hd : decode M.2.2.1 pc = .ok (.if_icmp .eq off, 3)) (ht : (pc : Int) + off = (tgt : Int)) (hx : x = nI a) (hy : y = nI b) (ha : a < 2 ^ 31) (hb : b < 2 ^ 31) (kt : a = b → G xo M d k n Q tgt L st w) (kf : a ≠ b → G xo M d k n Q (pc + 3) L st w) : G xo M d k n Q pc L (.int y :: .int x :: st) w := by
  subst hx
  subst hy
  exact G_icmp_eq hd ht (fun h => kt ((nI_eq ha hb).mp h)) (fun h => kf (fun q => h ((nI_eq ha hb).mpr q)))
theorem G_icmp_neN {x y : Int32} {off : Int} {tgt : Nat} (a b : Nat) (hd : decode M.2.2.1 pc = .ok (.if_icmp .ne off, 3)) (ht : (pc : Int) + off = (tgt : Int)) (hx : x = nI a) (hy : y = nI b) (ha : a < 2 ^ 31) (hb : b < 2 ^ 31) (kt : a ≠ b → G xo M d k n Q tgt L st w) (kf : a = b → G xo M d k n Q (pc + 3) L st w) : G xo M d k n Q pc L (.int y :: .int x :: st) w := by
  subst hx
  subst hy
  exact G_icmp_ne hd ht (fun h => kt (fun q => h ((nI_eq ha hb).mpr q))) (fun h => kf ((nI_eq ha hb).mp h))
theorem G_icmp_ltN {x y : Int32} {off : Int} {tgt : Nat} (a b : Nat) (hd : decode M.2.2.1 pc = .ok (.if_icmp .lt off, 3)) (ht : (pc : Int) + off = (tgt : Int)) (hx : x = nI a) (hy : y = nI b) (ha : a < 2 ^ 31) (hb : b < 2 ^ 31) (kt : a < b → G xo M d k n Q tgt L st w) (kf : b ≤ a → G xo M d k n Q (pc + 3) L st w) : G xo M d k n Q pc L (.int y :: .int x :: st) w := by
  subst hx
  subst hy
  exact G_icmp_lt hd ht (fun h => kt ((nI_ltI ha hb).mp h)) (fun h => kf (by have := mt (nI_ltI ha hb).mpr h; omega))
theorem G_icmp_geN {x y : Int32} {off : Int} {tgt : Nat} (a b : Nat) (hd : decode M.2.2.1 pc = .ok (.if_icmp .ge off, 3)) (ht : (pc : Int) + off = (tgt : Int)) (hx : x = nI a) (hy : y = nI b) (ha : a < 2 ^ 31) (hb : b < 2 ^ 31) (kt : b ≤ a → G xo M d k n Q tgt L st w) (kf : a < b → G xo M d k n Q (pc + 3) L st w) : G xo M d k n Q pc L (.int y :: .int x :: st) w := by
  subst hx
  subst hy
  exact G_icmp_ge hd ht (fun h => kt ((nI_leI hb ha).mp h)) (fun h => kf (by have := mt (nI_leI hb ha).mpr h; omega))
theorem G_icmp_gtN {x y : Int32} {off : Int} {tgt : Nat} (a b : Nat) (hd : decode M.2.2.1 pc = .ok (.if_icmp .gt off, 3)) (ht : (pc : Int) + off = (tgt : Int)) (hx : x = nI a) (hy : y = nI b) (ha : a < 2 ^ 31) (hb : b < 2 ^ 31) (kt : b < a → G xo M d k n Q tgt L st w) (kf : a ≤ b → G xo M d k n Q (pc + 3) L st w) : G xo M d k n Q pc L (.int y :: .int x :: st) w := by
  subst hx
  subst hy
  exact G_icmp_gt hd ht (fun h => kt ((nI_ltI hb ha).mp h)) (fun h => kf (by have := mt (nI_ltI hb ha).mpr h; omega))
theorem G_icmp_leN {x y : Int32} {off : Int} {tgt : Nat} (a b : Nat) (hd : decode M.2.2.1 pc = .ok (.if_icmp .le off, 3)) (ht : (pc : Int) + off = (tgt : Int)) (hx : x = nI a) (hy : y = nI b) (ha : a < 2 ^ 31) (hb : b < 2 ^ 31) (kt : a ≤ b → G xo M d k n Q tgt L st w) (kf : b < a → G xo M d k n Q (pc + 3) L st w) : G xo M d k n Q pc L (.int y :: .int x :: st) w := by
  subst hx
  subst hy
  exact G_icmp_le hd ht (fun h => kt ((nI_leI ha hb).mp h)) (fun h => kf (by have := mt (nI_leI ha hb).mpr h; omega))
end ABN
