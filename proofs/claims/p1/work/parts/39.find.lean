/-! LeastRow.find -/
set_option maxRecDepth 20000 in
set_option maxHeartbeats 4000000 in
theorem con_find (d nb nt cnt : Nat) (hnb : nb ≤ 8) (hnt : nt ≤ 40) (hcn : cnt ≤ 8) (hs ro cv hs' ro' cv' : Int32) (K O R S : Nat → Int32) (k o rk st : Nat → Nat) (hK : ∀ i, i < nt → K i = nI (k i) ∧ k i < 2 ^ 30) (hO : ∀ j, j < nb → O j = nI (o j) ∧ o j < nb) (hR : ∀ b, b < nb → R b = nI (rk b) ∧ rk b < cnt) (hS : ∀ g, g ≤ cnt → S g = nI (st g) ∧ st g ≤ 8) (hSn : ∀ g, g < cnt → st (g + 1) ≤ nb)
    (fd fb ft : Int32) (f g tr Kf RF : Nat → Int32) (p q : Nat → Nat) (hf : ∀ j, j < 8 → f j = nI (p j) ∧ p j ≤ 8) (hg : ∀ j, j < 8 → g j = nI (q j) ∧ q j ≤ 8) (t1 t2 t3 t4 : Nat) :
    Con mX3_find (d + 3 + nb + 1) 0 0 [.inr (4, [.ref 101, .ref 102, .ref 103, .int fd]), cI 8 f, cI 8 g, cI 40 tr, .inr (1, [.ref 105, .int (nI nb), .int (nI nt), .int hs, .int ro, .ref 106]), cI 40 K, .inr (2, [.ref t1, .ref 107, .ref 108, .ref 109, .int cv]), cI 8 O, cI 8 R, cI 9 S, .inr (1, [.ref 111, .int fb, .int ft, .int hs', .int ro', .ref 112]), cI 40 Kf, .inr (2, [.ref t2, .ref t3, .ref 113, .ref t4, .int cv']), cI 8 RF] [.ref 100, .ref 104, .ref 110] (fun w' v => v = none ∧ ∃ (fd2 : Int32) (f2 g2 tr2 Kf2 RF2 : Nat → Int32), w' = (sW fd2 f2 g2 tr2 nb nt hs ro K cv O R S hs' ro' Kf2 cv' RF2 t1 t2 t3 t4) ∧ RepX nt (srch k nt nb o rk st nb 0 ((p, false, q, fun _ => 0) : SX)).1 fd2 f2 g2 Kf2 ∧ (∀ j, j < nb → RF2 j = nI (rk (o j)))) := by
  refine Con.of (ab_okc rfl (by decide)) (Nat.le_of_ble_eq_true rfl) ?_
  show G ab_x0 mX3_find (d + 3 + nb + 1) 0 0 _ 0 [some (.ref 100), some (.ref 104), some (.ref 110), none] [] _
  refine G_aload_n dX3_find_0 rfl ?_
  refine G_aload_n dX3_find_1 rfl ?_
  refine G_get (f := 1) kc1 dX3_find_2 fX3_25 (by decide) rfl rfl ?_
  refine G_put (w' := [_, _, _, _, _, _, _, _, _, _, _, _, _, _]) (f := 1) kc1 dX3_find_5 fX3_25 (by decide) rfl rfl rfl rfl (Nat.le_of_ble_eq_true rfl) rfl ?_
  refine G_aload_n dX3_find_8 rfl ?_
  refine G_aload_n dX3_find_9 rfl ?_
  refine G_get (f := 2) kc1 dX3_find_10 fX3_31 (by decide) rfl rfl ?_
  refine G_put (w' := [_, _, _, _, _, _, _, _, _, _, _, _, _, _]) (f := 2) kc1 dX3_find_13 fX3_31 (by decide) rfl rfl rfl rfl (Nat.le_of_ble_eq_true rfl) rfl ?_
  refine G_iconst (v := 0) dX3_find_16 (by decide) ?_
  refine G_istore_n (L' := [_, _, _, _]) dX3_find_17 (Nat.le_of_ble_eq_true rfl) rfl ?_
  have loop : ∀ (i : Nat) (RF1 : Nat → Int32), i ≤ nb → (∀ j, j < i → RF1 j = nI (rk (o j))) → G ab_x0 mX3_find (d + 3 + nb + 1) 0 0 (fun w' v => v = none ∧ ∃ (fd2 : Int32) (f2 g2 tr2 Kf2 RF2 : Nat → Int32), w' = (sW fd2 f2 g2 tr2 nb nt hs ro K cv O R S hs' ro' Kf2 cv' RF2 t1 t2 t3 t4) ∧ RepX nt (srch k nt nb o rk st nb 0 ((p, false, q, fun _ => 0) : SX)).1 fd2 f2 g2 Kf2 ∧ (∀ j, j < nb → RF2 j = nI (rk (o j)))) 18 [some (.ref 100), some (.ref 104), some (.ref 110), some (.int (nI i))] [] [.inr (4, [.ref 101, .ref 102, .ref 103, .int fd]), cI 8 f, cI 8 g, cI 40 tr, .inr (1, [.ref 105, .int (nI nb), .int (nI nt), .int hs, .int ro, .ref 106]), cI 40 K, .inr (2, [.ref t1, .ref 107, .ref 108, .ref 109, .int cv]), cI 8 O, cI 8 R, cI 9 S, .inr (1, [.ref 111, .int (nI nb), .int (nI nt), .int hs', .int ro', .ref 112]), cI 40 Kf, .inr (2, [.ref t2, .ref t3, .ref 113, .ref t4, .int cv']), cI 8 RF1] := by
    intro i
    induction hm : nb - i using Nat.strongRecOn generalizing i with
    | ind m ih =>
      subst hm
      intro RF1 hi h1
      refine G_iload_n dX3_find_18 rfl ?_
      refine G_aload_n dX3_find_19 rfl ?_
      refine G_get (f := 1) kc1 dX3_find_20 fX3_25 (by decide) rfl rfl ?_
      refine G_icmp_geN (tgt := 58) i nb dX3_find_23 (by decide) rfl rfl (by omega) (by omega) (fun hge => ?_) (fun hlt => ?_)
      · have hin : i = nb := by omega
        subst hin
        refine G_aload_n dX3_find_58 rfl ?_
        refine G_iconst (v := 0) dX3_find_59 (by decide) ?_
        refine G_put (w' := [_, _, _, _, _, _, _, _, _, _, _, _, _, _]) (f := 3) kc4 dX3_find_60 fX3_21 (by decide) rfl (by decide) (by decide) rfl (Nat.le_of_ble_eq_true rfl) rfl ?_
        refine G_aload_n dX3_find_63 rfl ?_
        refine G_aload_n dX3_find_64 rfl ?_
        refine G_aload_n dX3_find_65 rfl ?_
        refine G_aload_n dX3_find_66 rfl ?_
        refine G_get (f := 1) kc1 dX3_find_67 fX3_25 (by decide) rfl rfl ?_
        refine G_iconst (v := 0) dX3_find_70 (by decide) ?_
        have hx : RepX nt ((p, false, q, fun _ => 0) : SX) 0 f g Kf := ⟨hf, hg, fun h => absurd (show false = true from h) (by decide), rfl⟩
        refine G_w (st' := [.int (nI 0), .int (nI i), .ref 110, .ref 104, .ref 100]) (w' := (sW 0 f g tr i nt hs ro K cv O R S hs' ro' Kf cv' RF1 t1 t2 t3 t4)) rfl rfl ?_
        refine G_V (is := [0, 1, 2, 3, 4, 5, 6, 7, 8, 9, 10, 11, 12, 13]) (fo := [t1, t2, t3, t4]) (as := [.ref 100, .ref 104, .ref 110, .int (nI i), .int (nI 0)]) (as' := [.ref 104, .ref 110, .int (nI i), .int (nI 0)]) (st := []) (k := 0) (n := 0) cX3_find_71 (con_search d i nt cnt hnb hnt hcn hs ro cv hs' ro' cv' K O R S RF1 k o rk st hK hO hR hS hSn h1 i 0 ((p, false, q, fun _ => 0) : SX) 0 f g tr Kf 4 5 6 7 (by omega) (by decide) hx) ab_pfx rfl (by decide) rfl rfl rfl rfl rfl rfl (Nat.le_of_ble_eq_true rfl) dX3_find_71 (fun w' v h => by obtain ⟨_, _, _, _, _, h, _⟩ := h; rw [h]; exact (rfl : (14 : Nat) = 14)) (fun w2 v2 hq => ?_)
        obtain ⟨fd3, f3, g3, tr3, Kf3, rfl, hrep, rfl, hb8⟩ := hq
        generalize hres : srch k nt i o rk st i 0 ((p, false, q, fun _ => 0) : SX) = res at hrep hb8 ⊢
        refine G_w (st' := [.int (nI res.2)]) (w' := (sW fd3 f3 g3 tr3 i nt hs ro K cv O R S hs' ro' Kf3 cv' RF1 t1 t2 t3 t4)) rfl rfl ?_
        refine G_pop dX3_find_74 rfl ?_
        refine G_ret (v := none) ⟨dX3_find_75, rfl⟩ ⟨rfl, fd3, f3, g3, tr3, Kf3, RF1, rfl, hrep, h1⟩
      obtain ⟨o1, o2⟩ := hO i hlt
      obtain ⟨r1, r2⟩ := hR (o i) o2
      refine G_aload_n dX3_find_26 rfl ?_
      refine G_get (f := 5) kc1 dX3_find_27 fX3_34 (by decide) rfl rfl ?_
      refine G_get (f := 2) kc2 dX3_find_30 fX3_38 (by decide) rfl rfl ?_
      refine G_iload_n dX3_find_33 rfl ?_
      refine G_aload_n dX3_find_34 rfl ?_
      refine G_get (f := 5) kc1 dX3_find_35 fX3_34 (by decide) rfl rfl ?_
      refine G_get (f := 2) kc2 dX3_find_38 fX3_38 (by decide) rfl rfl ?_
      refine G_aload_n dX3_find_41 rfl ?_
      refine G_get (f := 5) kc1 dX3_find_42 fX3_34 (by decide) rfl rfl ?_
      refine G_get (f := 1) kc2 dX3_find_45 fX3_43 (by decide) rfl rfl ?_
      refine G_iload_n dX3_find_48 rfl ?_
      refine G_ialdN i dX3_find_49 rfl rfl (by omega) (by omega) ?_
      rw [o1]
      refine G_ialdN (o i) dX3_find_50 rfl rfl (by omega) (by omega) ?_
      rw [r1]
      refine G_iastN (w' := [.inr (4, [.ref 101, .ref 102, .ref 103, .int fd]), cI 8 f, cI 8 g, cI 40 tr, .inr (1, [.ref 105, .int (nI nb), .int (nI nt), .int hs, .int ro, .ref 106]), cI 40 K, .inr (2, [.ref t1, .ref 107, .ref 108, .ref 109, .int cv]), cI 8 O, cI 8 R, cI 9 S, .inr (1, [.ref 111, .int (nI nb), .int (nI nt), .int hs', .int ro', .ref 112]), cI 40 Kf, .inr (2, [.ref t2, .ref t3, .ref 113, .ref t4, .int cv']), cI 8 (upd RF1 i (nI (rk (o i))))]) i dX3_find_51 rfl rfl (by omega) (by omega) rfl ?_
      refine G_iinc (L' := [_, _, _, _]) (v := nI (i + 1)) dX3_find_52 rfl (nI_succ i).symm rfl ?_
      refine G_goto (tgt := 18) dX3_find_55 (by decide) ?_
      refine ih (nb - (i + 1)) (by omega) (i + 1) rfl _ (by omega) (fun j hj => ?_)
      by_cases e : j = i
      · rw [e, pk_us]
      · rw [pk_un e]; exact h1 j (by omega)
  exact loop 0 RF (by omega) (fun j hj => by omega)
