/-! THE REFERENCE (X8): its object and its 18 rows are one world, w8 r. -/
/-- an int's bits as a long without sign -/
def zx (x : Int32) : Int64 := lN (uw x)
def kC (j : Nat) : Int64 := zx (ab_l ab_steps j)
abbrev R8 : Type := ((((((Nat → Int32) × (Nat → Int32)) × ((Nat → Int32) × (Nat → Int64))) × (((Nat → Int64) × (Nat → Int32)) × (Nat → Int32))) × ((((Nat → Int32) × (Nat → Int32)) × (Nat → Int32)) × (((Nat → Int32) × (Nat → Int32)) × (Nat → Int32)))) × (((((Nat → Int32) × (Nat → Int64)) × ((Nat → Int64) × (Nat → Int32))) × ((Int32 × Int32) × Int32)) × (((Int32 × Int32) × Int32) × ((Int32 × Int32) × Int32))))
abbrev R8.bl (r : R8) : Nat → Int32 := r.1.1.1.1.1
abbrev R8.co (r : R8) : Nat → Int32 := r.1.1.1.1.2
abbrev R8.po (r : R8) : Nat → Int32 := r.1.1.1.2.1
abbrev R8.ha (r : R8) : Nat → Int64 := r.1.1.1.2.2
abbrev R8.nw (r : R8) : Nat → Int64 := r.1.1.2.1.1
abbrev R8.gr (r : R8) : Nat → Int32 := r.1.1.2.1.2
abbrev R8.go (r : R8) : Nat → Int32 := r.1.1.2.2
abbrev R8.tr (r : R8) : Nat → Int32 := r.1.2.1.1.1
abbrev R8.rw (r : R8) : Nat → Int32 := r.1.2.1.1.2
abbrev R8.nm (r : R8) : Nat → Int32 := r.1.2.1.2
abbrev R8.fm (r : R8) : Nat → Int32 := r.1.2.2.1.1
abbrev R8.oc (r : R8) : Nat → Int32 := r.1.2.2.1.2
abbrev R8.ds (r : R8) : Nat → Int32 := r.1.2.2.2
abbrev R8.ms (r : R8) : Nat → Int32 := r.2.1.1.1.1
abbrev R8.wd (r : R8) : Nat → Int64 := r.2.1.1.1.2
abbrev R8.sc (r : R8) : Nat → Int64 := r.2.1.1.2.1
abbrev R8.sd (r : R8) : Nat → Int32 := r.2.1.1.2.2
abbrev R8.ke (r : R8) : Int32 := r.2.1.2.1.1
abbrev R8.ro (r : R8) : Int32 := r.2.1.2.1.2
abbrev R8.hs (r : R8) : Int32 := r.2.1.2.2
abbrev R8.gc (r : R8) : Int32 := r.2.2.1.1.1
abbrev R8.nb (r : R8) : Int32 := r.2.2.1.1.2
abbrev R8.fc (r : R8) : Int32 := r.2.2.1.2
abbrev R8.de (r : R8) : Int32 := r.2.2.2.1.1
abbrev R8.si (r : R8) : Int32 := r.2.2.2.1.2
abbrev R8.th (r : R8) : Int32 := r.2.2.2.2
abbrev cL (N : Nat) (f : Nat → Int64) : ab_C := .inl (1, N, .inr (.inl f))
abbrev cB (N : Nat) (f : Nat → Int32) : ab_C := .inl (2, N, .inl f)
abbrev cZ (N : Nat) (f : Nat → Int32) : ab_C := .inl (3, N, .inl f)
abbrev w8 (r : R8) : List ab_C :=
  [.inr (9, [.ref 101, .ref 102, .ref 103, .ref 104, .int r.ke, .ref 105, .ref 106, .int r.ro, .int r.hs, .ref 107, .ref 108, .int r.gc, .ref 109, .ref 110, .ref 111, .int r.nb, .ref 112, .int r.fc, .ref 113, .ref 114, .int r.de, .ref 115, .int r.si, .ref 116, .ref 117, .int r.th, .ref 118]),
   cL 64 kC, cI 9 r.bl, cI 9 r.co, cI 1080 r.po, cL 72 r.ha, cL 72 r.nw, cI 9 r.gr, cI 9 r.go, cI 10 r.tr, cI 120 r.rw, cI 9 r.nm, cI 120 r.fm, cB 32 r.oc, cI 5120 r.ds, cB 4400 r.ms, cL 8 r.wd, cL 64 r.sc, cZ 40 r.sd]
theorem ab_put_all : ∀ (cs pre w tl : List ab_C), w.length = cs.length → ab_put (pre ++ (w ++ tl)) (List.range' pre.length cs.length) cs = pre ++ (cs ++ tl)
  | [], pre, w, tl, h => by
    rw [List.length_eq_zero_iff.mp h]
    rfl
  | c :: cs, pre, [], tl, h => by simp at h
  | c :: cs, pre, a :: w, tl, h => by
    have e1 : (pre ++ (a :: w ++ tl)).set pre.length c = (pre ++ [c]) ++ (w ++ tl) := by
      rw [List.set_append_right _ _ (Nat.le_refl _), Nat.sub_self, List.append_assoc]
      rfl
    have e2 := ab_put_all cs (pre ++ [c]) w tl (by simpa using h)
    rw [List.length_cons, List.range'_succ]
    show ab_put ((pre ++ (a :: w ++ tl)).set pre.length c) (List.range' (pre.length + 1) cs.length) cs = _
    rw [e1]
    rw [show (pre ++ [c]).length = pre.length + 1 by simp] at e2
    rw [e2, List.append_assoc]
    rfl
theorem rc8 (r : R8) (n : Nat) : (w8 r).map (ab_rc (ab_rho [0, 1, 2, 3, 4, 5, 6, 7, 8, 9, 10, 11, 12, 13, 14, 15, 16, 17, 18] [] n)) = w8 r := rfl
theorem put8 (r r' : R8) (n : Nat) : ab_put (w8 r) [0, 1, 2, 3, 4, 5, 6, 7, 8, 9, 10, 11, 12, 13, 14, 15, 16, 17, 18] ((w8 r').map (ab_rc (ab_rho [0, 1, 2, 3, 4, 5, 6, 7, 8, 9, 10, 11, 12, 13, 14, 15, 16, 17, 18] [] n))) = w8 r' := by
  rw [rc8]
  exact ab_put_all (w8 r') [] (w8 r) [] rfl
theorem G_V8 {M N : ab_M} {d k n : Nat} {Q : List ab_C → Option Value → Prop} {pc : Nat} {L : List (Option Value)} {stk st as : List Value} {idx na : Nat} {r : R8} {Qc : R8 → Option Value → Prop} (hl : ab_V M N idx na) (hC : Con N d 0 0 (w8 r) (.ref 100 :: as) (fun w' v => ∃ r', w' = w8 r' ∧ Qc r' v)) (hcl : RX8 = N.2.1.cls) (has : as.map (ab_v (ab_rho [0, 1, 2, 3, 4, 5, 6, 7, 8, 9, 10, 11, 12, 13, 14, 15, 16, 17, 18] [] (w8 r).length)) = as) (hstk : as.reverse ++ .ref 100 :: st = stk) (hna : as.length + 1 = na + 1) (hLl : L.length = M.2.2.2.1) (hsum : (st.map fun v => v.category).sum ≤ 8) (hd : decode M.2.2.1 pc = .ok (.invokevirtual idx, 3))
    (kk : ∀ r' v, Qc r' v → G ab_x0 M (d + 1) k n Q (pc + 3) L ((v.map (ab_v (ab_rho [0, 1, 2, 3, 4, 5, 6, 7, 8, 9, 10, 11, 12, 13, 14, 15, 16, 17, 18] [] (w8 r).length))).toList ++ st) (w8 r')) : G ab_x0 M (d + 1) k n Q pc L stk (w8 r) := by
  have hcl' : vwCl[9]? = some (N.2.1.cls, TX8, 27) := by rw [← hcl]; rfl
  have hf : ab_fits [0, 1, 2, 3, 4, 5, 6, 7, 8, 9, 10, 11, 12, 13, 14, 15, 16, 17, 18] [] (w8 r) (w8 r) := rfl
  refine G_V (is := [0, 1, 2, 3, 4, 5, 6, 7, 8, 9, 10, 11, 12, 13, 14, 15, 16, 17, 18]) (fo := []) (as := .ref 100 :: as) (as' := as) (st := st) (k := k) (n := n) hl hC ab_pfx hf (by decide) ?_ rfl hcl' hstk hna hLl hsum hd ?_ ?_
  · rw [List.map_cons, has]
    rfl
  · rintro w' v ⟨_, h, _⟩
    rw [h]
    exact (rfl : (19 : Nat) = 19)
  · rintro w2 v2 ⟨r', rfl, hq⟩
    refine G_w (st' := (v2.map (ab_v (ab_rho [0, 1, 2, 3, 4, 5, 6, 7, 8, 9, 10, 11, 12, 13, 14, 15, 16, 17, 18] [] (w8 r).length))).toList ++ st) (w' := w8 r') rfl (put8 r r' _) (kk r' v2 hq)
