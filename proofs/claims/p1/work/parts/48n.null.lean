/-! a null in a local -/
theorem G_aload_nN {xo : ab_XO} {M : ab_M} {d k n : Nat} {Q : List ab_C → Option Value → Prop} {pc : Nat} {L : List (Option Value)} {st : List Value} {w : List ab_C} {i : Fin 4} (hd : decode M.2.2.1 pc = .ok (.aload_n i, 1)) (hl : L[(i : Nat)]? = some (some .null)) (kk : G xo M d k n Q (pc + 1) L (.null :: st) w) : G xo M d k n Q pc L st w := by
  intro p l e R s m args below meth c Z D tc ad A H locs cells slots ls X hR hL hc hs fin
  exact lv_aload_nN X.1.1 X.1.2.1 hd rfl (hL.2.2 _ _ hl) (kk p l e R s m args below meth c Z D tc ad A H locs cells slots ls X hR hL hc hs fin)
theorem G_astore_nN {xo : ab_XO} {M : ab_M} {d k n : Nat} {Q : List ab_C → Option Value → Prop} {pc : Nat} {L L' : List (Option Value)} {st : List Value} {w : List ab_C} {i : Fin 4} (hd : decode M.2.2.1 pc = .ok (.astore_n i, 1)) (hi : (i : Nat) < L.length) (hL' : ab_s1 L i .null = L') (kk : G xo M d k n Q (pc + 1) L' st w) : G xo M d k n Q pc L (.null :: st) w := by
  intro p l e R s m args below meth c Z D tc ad A H locs cells slots ls X hR hL hc hs fin
  exact lv_astore_nN X.1.1 X.1.2.1 hd rfl hL.has hi rfl (fun ls' hl => kk p l e R s m args below meth c Z D tc ad A H locs cells slots ls' X hR (hL' ▸ ab_L.st1 (v := .null) hl) hc hs fin)
