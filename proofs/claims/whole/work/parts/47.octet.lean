/-! CanonNames.octet where it answers -/
set_option maxRecDepth 20000 in
theorem con_refreshDigestU (d nt : Nat) (hn : nt ≤ 40) (K D : Nat → Int32) (k : Nat → Nat) (hK : ∀ i, i < nt → K i = nI (k i) ∧ k i < 2 ^ 30) (s : SS) (len bv hs ro dg : Int32) (hdg : dg = 0 ∨ (dg = 1 ∧ ∀ j, j < 8 → D j = dig (fmB k nt) j)) (t1 t2 : Nat) : Con mX5_refreshDigest (d + 3) 0 0 [.inr (6, [.ref 101, .ref t1, .ref 103, .int dg]), .inr (1, [.ref 102, .int bv, .int (nI nt), .int hs, .int ro, .ref t2]), cI 40 K, cI 8 D, .inr (7, [.ref 105, .ref 106, .int (nI s.2.2), .int len]), cI 8 s.1, cI 64 s.2.1] [.ref 100, .ref 104] (fun w' v => v = none ∧ ∃ (D2 : Nat → Int32) (s2 : SS) (l2 : Int32), w' = [.inr (6, [.ref 101, .ref t1, .ref 103, .int 1]), .inr (1, [.ref 102, .int bv, .int (nI nt), .int hs, .int ro, .ref t2]), cI 40 K, cI 8 D2, .inr (7, [.ref 105, .ref 106, .int (nI s2.2.2), .int l2]), cI 8 s2.1, cI 64 s2.2.1] ∧ ∀ j, j < 8 → D2 j = dig (fmB k nt) j) := by
  rcases hdg with rfl | ⟨rfl, h⟩
  · exact con_refreshDigest d nt hn K D k hK s len bv hs ro t1 t2
  · refine Con.of (ab_okc rfl (by decide)) (Nat.le_of_ble_eq_true rfl) ?_
    show G ab_x0 mX5_refreshDigest (d + 3) 0 0 _ 0 [some (.ref 100), some (.ref 104), none, none] [] _
    refine G_aload_n dX5_refreshDigest_0 rfl ?_
    refine G_get (f := 3) kc6 dX5_refreshDigest_1 fX5_25 (by decide) rfl rfl ?_
    refine G_if_eq (tgt := 8) dX5_refreshDigest_4 (by decide) (fun e => absurd e (by decide)) (fun _ => ?_)
    exact G_ret (v := none) ⟨dX5_refreshDigest_7, rfl⟩ ⟨rfl, D, s, len, rfl, h⟩
/-- an octet of a word -/
def obv (x : Int32) (n : Nat) : Int32 := ((x.toUInt32 >>> ((24 - 8 * (nI n &&& 3)).toUInt32 &&& Int32.toUInt32 31)).toInt32).toInt8.toInt32
set_option maxRecDepth 20000 in
set_option maxHeartbeats 2000000 in
theorem con_octet (d nt : Nat) (hn : nt ≤ 40) (K D : Nat → Int32) (k : Nat → Nat) (hK : ∀ i, i < nt → K i = nI (k i) ∧ k i < 2 ^ 30) (s : SS) (len bv hs ro dg kc : Int32) (hdg : dg = 0 ∨ (dg = 1 ∧ ∀ j, j < 8 → D j = dig (fmB k nt) j)) (a2 a3 a5 ag t1 t2 t3 t4 n : Nat) (hn32 : n < 32) : Con mX7_octet (d + 4) 0 0 [c7 0 108 a2 a3 101 a5 kc ag, .inr (6, [.ref 102, .ref t1, .ref 104, .int dg]), .inr (1, [.ref 103, .int bv, .int (nI nt), .int hs, .int ro, .ref t2]), cI 40 K, cI 8 D, .inr (7, [.ref 106, .ref 107, .int (nI s.2.2), .int len]), cI 8 s.1, cI 64 s.2.1, .inr (3, [.ref 105, .ref t3, .ref t4])] [.ref 100, .int (nI n)] (fun w' v => ∃ (D2 : Nat → Int32) (s2 : SS) (l2 : Int32), w' = [c7 0 108 a2 a3 101 a5 kc ag, .inr (6, [.ref 102, .ref t1, .ref 104, .int 1]), .inr (1, [.ref 103, .int bv, .int (nI nt), .int hs, .int ro, .ref t2]), cI 40 K, cI 8 D2, .inr (7, [.ref 106, .ref 107, .int (nI s2.2.2), .int l2]), cI 8 s2.1, cI 64 s2.2.1, .inr (3, [.ref 105, .ref t3, .ref t4])] ∧ (∀ j, j < 8 → D2 j = dig (fmB k nt) j) ∧ v = some (.int (obv (dig (fmB k nt) (n / 4)) n))) := by
  refine Con.of (ab_okc rfl (by decide)) (Nat.le_of_ble_eq_true rfl) ?_
  show G ab_x0 mX7_octet (d + 3 + 1) 0 0 _ 0 [some (.ref 100), some (.int (nI n))] [] _
  refine G_iload_n dX7_octet_0 rfl ?_
  refine G_if_lt (tgt := 10) dX7_octet_1 (by decide) (fun h => absurd h (nI_pos (by omega))) (fun _ => ?_)
  refine G_iload_n dX7_octet_4 rfl ?_
  refine G_bipush (v := 32) dX7_octet_5 (by decide) ?_
  refine G_icmp_ltN (tgt := 20) n 32 dX7_octet_7 (by decide) rfl rfl (by omega) (by omega) (fun _ => ?_) (fun h => by omega)
  refine G_aload_n dX7_octet_20 rfl ?_
  refine G_get (f := 3) kc8 dX7_octet_21 fX7_33 (by decide) rfl rfl ?_
  refine G_aload_n dX7_octet_24 rfl ?_
  refine G_get (f := 0) kc8 dX7_octet_25 fX7_10 (by decide) rfl rfl ?_
  refine G_get (f := 0) kc3 dX7_octet_28 fX7_135 (by decide) rfl rfl ?_
  refine G_V (is := [1, 2, 3, 4, 5, 6, 7]) (fo := [t1, t2]) (as := [.ref 100, .ref 104]) (as' := [.ref 105]) (st := []) (k := 0) (n := 0) cX7_octet_31 (con_refreshDigestU d nt hn K D k hK s len bv hs ro dg hdg 4 5) ab_pfx rfl (by decide) rfl rfl rfl rfl rfl rfl (Nat.le_of_ble_eq_true rfl) dX7_octet_31 (fun w' v h => by obtain ⟨_, _, _, _, h, _⟩ := h; rw [h]; exact (rfl : (7 : Nat) = 7)) (fun w2 v2 hq => ?_)
  obtain ⟨rfl, D2, s2, l2, rfl, hD⟩ := hq
  refine G_w (st' := []) (w' := [c7 0 108 a2 a3 101 a5 kc ag, .inr (6, [.ref 102, .ref t1, .ref 104, .int 1]), .inr (1, [.ref 103, .int bv, .int (nI nt), .int hs, .int ro, .ref t2]), cI 40 K, cI 8 D2, .inr (7, [.ref 106, .ref 107, .int (nI s2.2.2), .int l2]), cI 8 s2.1, cI 64 s2.2.1, .inr (3, [.ref 105, .ref t3, .ref t4])]) rfl rfl ?_
  refine G_aload_n dX7_octet_34 rfl ?_
  refine G_get (f := 3) kc8 dX7_octet_35 fX7_33 (by decide) rfl rfl ?_
  refine G_get (f := 2) kc6 dX7_octet_38 fX7_143 (by decide) rfl rfl ?_
  refine G_iload_n dX7_octet_41 rfl ?_
  refine G_iconst (v := 2) dX7_octet_42 (by decide) ?_
  refine G_ishr dX7_octet_43 ?_
  refine G_ialdN (n / 4) dX7_octet_44 rfl (by rw [pk_shrN (by omega) _ 2 (by decide)]) (by omega) (by omega) ?_
  rw [hD (n / 4) (by omega)]
  refine G_bipush (v := 24) dX7_octet_45 (by decide) ?_
  refine G_bipush (v := 8) dX7_octet_47 (by decide) ?_
  refine G_iload_n dX7_octet_49 rfl ?_
  refine G_iconst (v := 3) dX7_octet_50 (by decide) ?_
  refine G_iand dX7_octet_51 ?_
  refine G_imul dX7_octet_52 ?_
  refine G_isub dX7_octet_53 ?_
  refine G_iushr dX7_octet_54 ?_
  refine G_i2b dX7_octet_55 ?_
  refine G_ret (v := some (.int _)) ⟨dX7_octet_56, _, rfl, ?_⟩ ⟨D2, s2, l2, rfl, hD, rfl⟩
  show Value.int (Int8.toInt32 (Int32.toInt8 (Int8.toInt32 _))) = _
  simp
