section AB
variable {xo : ab_XO} {M : ab_M} {d k n : Nat} {Q : List ab_C → Option Value → Prop} {pc : Nat} {L L' : List (Option Value)} {st : List Value} {w : List ab_C}
theorem G_iadd {x y : Int32} (hd : decode M.2.2.1 pc = .ok (.iadd, 1)) (kk : G xo M d k n Q (pc + 1) L (.int (x + y) :: st) w) : G xo M d k n Q pc L (.int y :: .int x :: st) w := by
  intro p l e R s m args below meth c Z D tc ad A H locs cells slots ls X hR hL hc hs fin
  exact lv_iadd X.1.1 X.1.2.1 hd  (kk p l e R s m args below meth c Z D tc ad A H locs cells slots ls X hR hL hc hs fin)
theorem G_isub {x y : Int32} (hd : decode M.2.2.1 pc = .ok (.isub, 1)) (kk : G xo M d k n Q (pc + 1) L (.int (x - y) :: st) w) : G xo M d k n Q pc L (.int y :: .int x :: st) w := by
  intro p l e R s m args below meth c Z D tc ad A H locs cells slots ls X hR hL hc hs fin
  exact lv_isub X.1.1 X.1.2.1 hd  (kk p l e R s m args below meth c Z D tc ad A H locs cells slots ls X hR hL hc hs fin)
theorem G_imul {x y : Int32} (hd : decode M.2.2.1 pc = .ok (.imul, 1)) (kk : G xo M d k n Q (pc + 1) L (.int (x * y) :: st) w) : G xo M d k n Q pc L (.int y :: .int x :: st) w := by
  intro p l e R s m args below meth c Z D tc ad A H locs cells slots ls X hR hL hc hs fin
  exact lv_imul X.1.1 X.1.2.1 hd  (kk p l e R s m args below meth c Z D tc ad A H locs cells slots ls X hR hL hc hs fin)
theorem G_iand {x y : Int32} (hd : decode M.2.2.1 pc = .ok (.iand, 1)) (kk : G xo M d k n Q (pc + 1) L (.int (x &&& y) :: st) w) : G xo M d k n Q pc L (.int y :: .int x :: st) w := by
  intro p l e R s m args below meth c Z D tc ad A H locs cells slots ls X hR hL hc hs fin
  exact lv_iand X.1.1 X.1.2.1 hd  (kk p l e R s m args below meth c Z D tc ad A H locs cells slots ls X hR hL hc hs fin)
theorem G_ior {x y : Int32} (hd : decode M.2.2.1 pc = .ok (.ior, 1)) (kk : G xo M d k n Q (pc + 1) L (.int (x ||| y) :: st) w) : G xo M d k n Q pc L (.int y :: .int x :: st) w := by
  intro p l e R s m args below meth c Z D tc ad A H locs cells slots ls X hR hL hc hs fin
  exact lv_ior X.1.1 X.1.2.1 hd  (kk p l e R s m args below meth c Z D tc ad A H locs cells slots ls X hR hL hc hs fin)
theorem G_ixor {x y : Int32} (hd : decode M.2.2.1 pc = .ok (.ixor, 1)) (kk : G xo M d k n Q (pc + 1) L (.int (x ^^^ y) :: st) w) : G xo M d k n Q pc L (.int y :: .int x :: st) w := by
  intro p l e R s m args below meth c Z D tc ad A H locs cells slots ls X hR hL hc hs fin
  exact lv_ixor X.1.1 X.1.2.1 hd  (kk p l e R s m args below meth c Z D tc ad A H locs cells slots ls X hR hL hc hs fin)
theorem G_ishl {x y : Int32} (hd : decode M.2.2.1 pc = .ok (.ishl, 1)) (kk : G xo M d k n Q (pc + 1) L (.int (x <<< (y &&& 31)) :: st) w) : G xo M d k n Q pc L (.int y :: .int x :: st) w := by
  intro p l e R s m args below meth c Z D tc ad A H locs cells slots ls X hR hL hc hs fin
  exact lv_ishl X.1.1 X.1.2.1 hd  (kk p l e R s m args below meth c Z D tc ad A H locs cells slots ls X hR hL hc hs fin)
theorem G_ishr {x y : Int32} (hd : decode M.2.2.1 pc = .ok (.ishr, 1)) (kk : G xo M d k n Q (pc + 1) L (.int (x >>> (y &&& 31)) :: st) w) : G xo M d k n Q pc L (.int y :: .int x :: st) w := by
  intro p l e R s m args below meth c Z D tc ad A H locs cells slots ls X hR hL hc hs fin
  exact lv_ishr X.1.1 X.1.2.1 hd  (kk p l e R s m args below meth c Z D tc ad A H locs cells slots ls X hR hL hc hs fin)
theorem G_idiv {x y : Int32} (hd : decode M.2.2.1 pc = .ok (.idiv, 1)) (hne : ¬ y = 0) (kk : G xo M d k n Q (pc + 1) L (.int (x / y) :: st) w) : G xo M d k n Q pc L (.int y :: .int x :: st) w := by
  intro p l e R s m args below meth c Z D tc ad A H locs cells slots ls X hR hL hc hs fin
  exact lv_idiv X.1.1 X.1.2.1 hd hne (kk p l e R s m args below meth c Z D tc ad A H locs cells slots ls X hR hL hc hs fin)
theorem G_irem {x y : Int32} (hd : decode M.2.2.1 pc = .ok (.irem, 1)) (hne : ¬ y = 0) (kk : G xo M d k n Q (pc + 1) L (.int (x - x / y * y) :: st) w) : G xo M d k n Q pc L (.int y :: .int x :: st) w := by
  intro p l e R s m args below meth c Z D tc ad A H locs cells slots ls X hR hL hc hs fin
  exact lv_irem X.1.1 X.1.2.1 hd hne (kk p l e R s m args below meth c Z D tc ad A H locs cells slots ls X hR hL hc hs fin)
theorem G_iushr {x y : Int32} (hd : decode M.2.2.1 pc = .ok (.iushr, 1)) (kk : G xo M d k n Q (pc + 1) L (.int (x.toUInt32 >>> (y.toUInt32 &&& Int32.toUInt32 31)).toInt32 :: st) w) : G xo M d k n Q pc L (.int y :: .int x :: st) w := by
  intro p l e R s m args below meth c Z D tc ad A H locs cells slots ls X hR hL hc hs fin
  exact lv_iushr X.1.1 X.1.2.1 hd rfl (kk p l e R s m args below meth c Z D tc ad A H locs cells slots ls X hR hL hc hs fin)
theorem G_ineg {x : Int32} (hd : decode M.2.2.1 pc = .ok (.ineg, 1)) (kk : G xo M d k n Q (pc + 1) L (.int (-x) :: st) w) : G xo M d k n Q pc L (.int x :: st) w := by
  intro p l e R s m args below meth c Z D tc ad A H locs cells slots ls X hR hL hc hs fin
  exact lv_ineg X.1.1 X.1.2.1 hd  (kk p l e R s m args below meth c Z D tc ad A H locs cells slots ls X hR hL hc hs fin)
theorem G_ladd {x y : Int64} (hd : decode M.2.2.1 pc = .ok (.ladd, 1)) (kk : G xo M d k n Q (pc + 1) L (.long (x + y) :: st) w) : G xo M d k n Q pc L (.long y :: .long x :: st) w := by
  intro p l e R s m args below meth c Z D tc ad A H locs cells slots ls X hR hL hc hs fin
  exact lv_ladd X.1.1 X.1.2.1 hd  (kk p l e R s m args below meth c Z D tc ad A H locs cells slots ls X hR hL hc hs fin)
theorem G_lsub {x y : Int64} (hd : decode M.2.2.1 pc = .ok (.lsub, 1)) (kk : G xo M d k n Q (pc + 1) L (.long (x - y) :: st) w) : G xo M d k n Q pc L (.long y :: .long x :: st) w := by
  intro p l e R s m args below meth c Z D tc ad A H locs cells slots ls X hR hL hc hs fin
  exact lv_lsub X.1.1 X.1.2.1 hd  (kk p l e R s m args below meth c Z D tc ad A H locs cells slots ls X hR hL hc hs fin)
theorem G_lmul {x y : Int64} (hd : decode M.2.2.1 pc = .ok (.lmul, 1)) (kk : G xo M d k n Q (pc + 1) L (.long (x * y) :: st) w) : G xo M d k n Q pc L (.long y :: .long x :: st) w := by
  intro p l e R s m args below meth c Z D tc ad A H locs cells slots ls X hR hL hc hs fin
  exact lv_lmul X.1.1 X.1.2.1 hd  (kk p l e R s m args below meth c Z D tc ad A H locs cells slots ls X hR hL hc hs fin)
theorem G_land {x y : Int64} (hd : decode M.2.2.1 pc = .ok (.land, 1)) (kk : G xo M d k n Q (pc + 1) L (.long (x &&& y) :: st) w) : G xo M d k n Q pc L (.long y :: .long x :: st) w := by
  intro p l e R s m args below meth c Z D tc ad A H locs cells slots ls X hR hL hc hs fin
  exact lv_land X.1.1 X.1.2.1 hd  (kk p l e R s m args below meth c Z D tc ad A H locs cells slots ls X hR hL hc hs fin)
theorem G_lor {x y : Int64} (hd : decode M.2.2.1 pc = .ok (.lor, 1)) (kk : G xo M d k n Q (pc + 1) L (.long (x ||| y) :: st) w) : G xo M d k n Q pc L (.long y :: .long x :: st) w := by
  intro p l e R s m args below meth c Z D tc ad A H locs cells slots ls X hR hL hc hs fin
  exact lv_lor X.1.1 X.1.2.1 hd  (kk p l e R s m args below meth c Z D tc ad A H locs cells slots ls X hR hL hc hs fin)
theorem G_lxor {x y : Int64} (hd : decode M.2.2.1 pc = .ok (.lxor, 1)) (kk : G xo M d k n Q (pc + 1) L (.long (x ^^^ y) :: st) w) : G xo M d k n Q pc L (.long y :: .long x :: st) w := by
  intro p l e R s m args below meth c Z D tc ad A H locs cells slots ls X hR hL hc hs fin
  exact lv_lxor X.1.1 X.1.2.1 hd  (kk p l e R s m args below meth c Z D tc ad A H locs cells slots ls X hR hL hc hs fin)
theorem G_lshl {x : Int64} {y : Int32} (hd : decode M.2.2.1 pc = .ok (.lshl, 1)) (kk : G xo M d k n Q (pc + 1) L (.long (x <<< (y.toInt64 &&& 63)) :: st) w) : G xo M d k n Q pc L (.int y :: .long x :: st) w := by
  intro p l e R s m args below meth c Z D tc ad A H locs cells slots ls X hR hL hc hs fin
  exact lv_lshl X.1.1 X.1.2.1 hd rfl (kk p l e R s m args below meth c Z D tc ad A H locs cells slots ls X hR hL hc hs fin)
theorem G_lshr {x : Int64} {y : Int32} (hd : decode M.2.2.1 pc = .ok (.lshr, 1)) (kk : G xo M d k n Q (pc + 1) L (.long (x >>> (y.toInt64 &&& 63)) :: st) w) : G xo M d k n Q pc L (.int y :: .long x :: st) w := by
  intro p l e R s m args below meth c Z D tc ad A H locs cells slots ls X hR hL hc hs fin
  exact lv_lshr X.1.1 X.1.2.1 hd rfl (kk p l e R s m args below meth c Z D tc ad A H locs cells slots ls X hR hL hc hs fin)
theorem G_i2l {x : Int32} (hd : decode M.2.2.1 pc = .ok (.i2l, 1)) (kk : G xo M d k n Q (pc + 1) L (.long x.toInt64 :: st) w) : G xo M d k n Q pc L (.int x :: st) w := by
  intro p l e R s m args below meth c Z D tc ad A H locs cells slots ls X hR hL hc hs fin
  exact lv_i2l X.1.1 X.1.2.1 hd rfl (kk p l e R s m args below meth c Z D tc ad A H locs cells slots ls X hR hL hc hs fin)
theorem G_l2i {x : Int64} (hd : decode M.2.2.1 pc = .ok (.l2i, 1)) (kk : G xo M d k n Q (pc + 1) L (.int x.toInt32 :: st) w) : G xo M d k n Q pc L (.long x :: st) w := by
  intro p l e R s m args below meth c Z D tc ad A H locs cells slots ls X hR hL hc hs fin
  exact lv_l2i X.1.1 X.1.2.1 hd rfl (kk p l e R s m args below meth c Z D tc ad A H locs cells slots ls X hR hL hc hs fin)
theorem G_i2b {x : Int32} (hd : decode M.2.2.1 pc = .ok (.i2b, 1)) (kk : G xo M d k n Q (pc + 1) L (.int x.toInt8.toInt32 :: st) w) : G xo M d k n Q pc L (.int x :: st) w := by
  intro p l e R s m args below meth c Z D tc ad A H locs cells slots ls X hR hL hc hs fin
  exact lv_i2b X.1.1 X.1.2.1 hd rfl (kk p l e R s m args below meth c Z D tc ad A H locs cells slots ls X hR hL hc hs fin)
theorem G_lcmp {x y : Int64} (hd : decode M.2.2.1 pc = .ok (.lcmp, 1)) (kk : G xo M d k n Q (pc + 1) L (.int (lg_cmp x y) :: st) w) : G xo M d k n Q pc L (.long y :: .long x :: st) w := by
  intro p l e R s m args below meth c Z D tc ad A H locs cells slots ls X hR hL hc hs fin
  exact W.lcmp X.1.1 X.1.2.1 hd  (kk p l e R s m args below meth c Z D tc ad A H locs cells slots ls X hR hL hc hs fin)
theorem G_iconst {i : Int} {v : Int32} (hd : decode M.2.2.1 pc = .ok (.iconst i, 1)) (hv : Int32.ofInt i = v) (kk : G xo M d k n Q (pc + 1) L (.int v :: st) w) : G xo M d k n Q pc L (st) w := by
  intro p l e R s m args below meth c Z D tc ad A H locs cells slots ls X hR hL hc hs fin
  exact lv_iconst X.1.1 X.1.2.1 hd hv (kk p l e R s m args below meth c Z D tc ad A H locs cells slots ls X hR hL hc hs fin)
theorem G_bipush {i : Int} {v : Int32} (hd : decode M.2.2.1 pc = .ok (.bipush i, 2)) (hv : (Int8.ofInt i).toInt32 = v) (kk : G xo M d k n Q (pc + 2) L (.int v :: st) w) : G xo M d k n Q pc L (st) w := by
  intro p l e R s m args below meth c Z D tc ad A H locs cells slots ls X hR hL hc hs fin
  exact lv_bipush X.1.1 X.1.2.1 hd hv (kk p l e R s m args below meth c Z D tc ad A H locs cells slots ls X hR hL hc hs fin)
theorem G_sipush {i : Int} {v : Int32} (hd : decode M.2.2.1 pc = .ok (.sipush i, 3)) (hv : (Int16.ofInt i).toInt32 = v) (kk : G xo M d k n Q (pc + 3) L (.int v :: st) w) : G xo M d k n Q pc L (st) w := by
  intro p l e R s m args below meth c Z D tc ad A H locs cells slots ls X hR hL hc hs fin
  exact lv_sipush X.1.1 X.1.2.1 hd hv (kk p l e R s m args below meth c Z D tc ad A H locs cells slots ls X hR hL hc hs fin)
theorem G_lconst {i : Fin 2} {v : Int64} (hd : decode M.2.2.1 pc = .ok (.lconst i, 1)) (hv : Int64.ofNat (i : Nat) = v) (kk : G xo M d k n Q (pc + 1) L (.long v :: st) w) : G xo M d k n Q pc L (st) w := by
  intro p l e R s m args below meth c Z D tc ad A H locs cells slots ls X hR hL hc hs fin
  exact lv_lconst X.1.1 X.1.2.1 hd hv (kk p l e R s m args below meth c Z D tc ad A H locs cells slots ls X hR hL hc hs fin)
theorem G_null  (hd : decode M.2.2.1 pc = .ok (.aconst_null, 1)) (kk : G xo M d k n Q (pc + 1) L (.null :: st) w) : G xo M d k n Q pc L (st) w := by
  intro p l e R s m args below meth c Z D tc ad A H locs cells slots ls X hR hL hc hs fin
  exact lv_null X.1.1 X.1.2.1 hd  (kk p l e R s m args below meth c Z D tc ad A H locs cells slots ls X hR hL hc hs fin)
theorem G_ldc {i : Nat} {v : Int32} (hd : decode M.2.2.1 pc = .ok (.ldc i, 2)) (hw : Jvm.Cond.constant M.1 i v ∈ ab_U) (kk : G xo M d k n Q (pc + 2) L (.int v :: st) w) : G xo M d k n Q pc L st w := by
  intro p l e R s m args below meth c Z D tc ad A H locs cells slots ls X hR hL hc hs fin
  exact lv_ldc X.1.1 X.1.2.1 X.1.2.2.2 (X.2.2.1 _ hw) hd (kk p l e R s m args below meth c Z D tc ad A H locs cells slots ls X hR hL hc hs fin)
theorem G_ldc2 {i : Nat} {v : Int64} (hd : decode M.2.2.1 pc = .ok (.ldc2_w i, 3)) (hw : Jvm.Cond.constantLong M.1 i v ∈ ab_U) (kk : G xo M d k n Q (pc + 3) L (.long v :: st) w) : G xo M d k n Q pc L st w := by
  intro p l e R s m args below meth c Z D tc ad A H locs cells slots ls X hR hL hc hs fin
  exact lv_ldc2 X.1.1 X.1.2.1 X.1.2.2.2 (X.2.2.1 _ hw) hd (kk p l e R s m args below meth c Z D tc ad A H locs cells slots ls X hR hL hc hs fin)
theorem ab_cat (ad : Nat → Nat) (v : Value) : (ab_v ad v).category = v.category := by cases v <;> rfl
theorem G_dup {v : Value} (hd : decode M.2.2.1 pc = .ok (.dup, 1)) (hv : v.category = 1) (kk : G xo M d k n Q (pc + 1) L (v :: v :: st) w) : G xo M d k n Q pc L (v :: st) w := by
  intro p l e R s m args below meth c Z D tc ad A H locs cells slots ls X hR hL hc hs fin
  exact lv_dup X.1.1 X.1.2.1 hd ((ab_cat ad v).trans hv) (kk p l e R s m args below meth c Z D tc ad A H locs cells slots ls X hR hL hc hs fin)
theorem G_dup2 {v u : Value} (hd : decode M.2.2.1 pc = .ok (.dup2, 1)) (hv : v.category = 1) (hu : u.category = 1) (kk : G xo M d k n Q (pc + 1) L (v :: u :: v :: u :: st) w) : G xo M d k n Q pc L (v :: u :: st) w := by
  intro p l e R s m args below meth c Z D tc ad A H locs cells slots ls X hR hL hc hs fin
  exact lv_dup2_11 X.1.1 X.1.2.1 hd ((ab_cat ad v).trans hv) ((ab_cat ad u).trans hu) (kk p l e R s m args below meth c Z D tc ad A H locs cells slots ls X hR hL hc hs fin)
theorem G_pop {v : Value} (hd : decode M.2.2.1 pc = .ok (.pop, 1)) (hv : v.category = 1) (kk : G xo M d k n Q (pc + 1) L st w) : G xo M d k n Q pc L (v :: st) w := by
  intro p l e R s m args below meth c Z D tc ad A H locs cells slots ls X hR hL hc hs fin
  exact lv_pop X.1.1 X.1.2.1 hd ((ab_cat ad v).trans hv) (kk p l e R s m args below meth c Z D tc ad A H locs cells slots ls X hR hL hc hs fin)
theorem G_iload {i : Nat} {x : Int32} (hd : decode M.2.2.1 pc = .ok (.iload i, 2)) (hl : L[i]? = some (some (.int x))) (kk : G xo M d k n Q (pc + 2) L (.int x :: st) w) : G xo M d k n Q pc L st w := by
  intro p l e R s m args below meth c Z D tc ad A H locs cells slots ls X hR hL hc hs fin
  exact lv_iload X.1.1 X.1.2.1 hd (hL.2.2 _ _ hl) (kk p l e R s m args below meth c Z D tc ad A H locs cells slots ls X hR hL hc hs fin)
theorem G_iload_n {i : Fin 4} {x : Int32} (hd : decode M.2.2.1 pc = .ok (.iload_n i, 1)) (hl : L[(i : Nat)]? = some (some (.int x))) (kk : G xo M d k n Q (pc + 1) L (.int x :: st) w) : G xo M d k n Q pc L st w := by
  intro p l e R s m args below meth c Z D tc ad A H locs cells slots ls X hR hL hc hs fin
  exact lv_iload_n X.1.1 X.1.2.1 hd rfl (hL.2.2 _ _ hl) (kk p l e R s m args below meth c Z D tc ad A H locs cells slots ls X hR hL hc hs fin)
theorem G_lload {i : Nat} {x : Int64} (hd : decode M.2.2.1 pc = .ok (.lload i, 2)) (hl : L[i]? = some (some (.long x))) (kk : G xo M d k n Q (pc + 2) L (.long x :: st) w) : G xo M d k n Q pc L st w := by
  intro p l e R s m args below meth c Z D tc ad A H locs cells slots ls X hR hL hc hs fin
  exact lv_lload X.1.1 X.1.2.1 hd (hL.2.2 _ _ hl) (kk p l e R s m args below meth c Z D tc ad A H locs cells slots ls X hR hL hc hs fin)
theorem G_lload_n {i : Fin 4} {x : Int64} (hd : decode M.2.2.1 pc = .ok (.lload_n i, 1)) (hl : L[(i : Nat)]? = some (some (.long x))) (kk : G xo M d k n Q (pc + 1) L (.long x :: st) w) : G xo M d k n Q pc L st w := by
  intro p l e R s m args below meth c Z D tc ad A H locs cells slots ls X hR hL hc hs fin
  exact lv_lload_n X.1.1 X.1.2.1 hd rfl (hL.2.2 _ _ hl) (kk p l e R s m args below meth c Z D tc ad A H locs cells slots ls X hR hL hc hs fin)
theorem G_aload {i : Nat} {x : Nat} (hd : decode M.2.2.1 pc = .ok (.aload i, 2)) (hl : L[i]? = some (some (.ref x))) (kk : G xo M d k n Q (pc + 2) L (.ref x :: st) w) : G xo M d k n Q pc L st w := by
  intro p l e R s m args below meth c Z D tc ad A H locs cells slots ls X hR hL hc hs fin
  exact lv_aload X.1.1 X.1.2.1 hd (hL.2.2 _ _ hl) (kk p l e R s m args below meth c Z D tc ad A H locs cells slots ls X hR hL hc hs fin)
theorem G_aload_n {i : Fin 4} {x : Nat} (hd : decode M.2.2.1 pc = .ok (.aload_n i, 1)) (hl : L[(i : Nat)]? = some (some (.ref x))) (kk : G xo M d k n Q (pc + 1) L (.ref x :: st) w) : G xo M d k n Q pc L st w := by
  intro p l e R s m args below meth c Z D tc ad A H locs cells slots ls X hR hL hc hs fin
  exact lv_aload_n X.1.1 X.1.2.1 hd rfl (hL.2.2 _ _ hl) (kk p l e R s m args below meth c Z D tc ad A H locs cells slots ls X hR hL hc hs fin)
/-- the locals behind a store: the slot before it is cleared where a long stood there -/
def ab_cl (L : List (Option Value)) (i : Nat) : List (Option Value) := match i with
  | 0 => L
  | j + 1 => match L[j]? with
    | some (some (.long _)) => L.set j none
    | some (some (.double _)) => L.set j none
    | _ => L
def ab_s1 (L : List (Option Value)) (i : Nat) (v : Value) : List (Option Value) := (ab_cl L i).set i (some v)
def ab_s2 (L : List (Option Value)) (i : Nat) (v : Value) : List (Option Value) := ((ab_cl L i).set i (some v)).set (i + 1) none
theorem ab_cl_len (L : List (Option Value)) (i : Nat) : (ab_cl L i).length = L.length := by
  unfold ab_cl
  split
  · rfl
  · split <;> simp
theorem ab_cl_at {L : List (Option Value)} {i j : Nat} {v : Value} (h : (ab_cl L i)[j]? = some (some v)) : L[j]? = some (some v) ∧ ¬ (j + 1 = i ∧ v.category = 2) := by
  unfold ab_cl at h
  split at h
  · exact ⟨h, fun q => by omega⟩
  · rename_i i' a
    have key : ∀ u : Value, u.category = 2 → L[a]? = some (some u) → (L.set a none)[j]? = some (some v) → L[j]? = some (some v) ∧ ¬ (j + 1 = a + 1 ∧ v.category = 2) := by
      intro u hu h1 h2
      rw [List.getElem?_set] at h2
      by_cases e : a = j
      · subst e
        rw [if_pos rfl] at h2
        split at h2 <;> simp at h2
      · rw [if_neg e] at h2
        exact ⟨h2, fun q => e (by omega)⟩
    split at h
    · rename_i u hu
      exact key _ rfl hu h
    · rename_i u hu
      exact key _ rfl hu h
    · rename_i n1 n2
      refine ⟨h, fun q => ?_⟩
      have e : j = a := by omega
      subst e
      cases v <;> simp [Value.category] at q
      · exact n1 _ h
      · exact n2 _ h
/-- the locals as the kit lists them -/
def ab_al (ad : Nat → Nat) (L : List (Option Value)) : List (Nat × Value) := (List.range L.length).filterMap (fun i => match L[i]? with
  | some (some v) => some (i, ab_v ad v)
  | _ => none)
theorem ab_al_mem {ad : Nat → Nat} {L : List (Option Value)} {q : Nat × Value} : q ∈ ab_al ad L ↔ ∃ v, L[q.1]? = some (some v) ∧ q.2 = ab_v ad v := by
  unfold ab_al
  rw [List.mem_filterMap]
  constructor
  · rintro ⟨i, -, h⟩
    split at h
    · rename_i v hv
      cases h
      exact ⟨v, hv, rfl⟩
    · cases h
  · rintro ⟨v, hv, e⟩
    refine ⟨q.1, List.mem_range.mpr (List.getElem?_eq_some_iff.mp hv).1, ?_⟩
    rw [hv]
    show some (q.1, ab_v ad v) = some q
    rw [← e]
theorem ab_L.has {ad : Nat → Nat} {ls : Array Slot} {L : List (Option Value)} (h : ab_L ad ls L) : lv_has ls L.length (ab_al ad L) :=
  ⟨h.1, h.2.1, fun q hq => by
    obtain ⟨v, h1, h2⟩ := ab_al_mem.mp hq
    rw [h2]
    exact h.2.2 _ _ h1⟩
theorem ab_L.st1 {ad : Nat → Nat} {ls' : Array Slot} {L : List (Option Value)} {i : Nat} {v : Value} (h : lv_has ls' L.length ((i, ab_v ad v) :: (ab_al ad L).filter (fun q => !(q.1 == i) && !(q.1 + 1 == i && q.2.category == 2)))) : ab_L ad ls' (ab_s1 L i v) := by
  refine ⟨h.1.trans (by rw [ab_s1, List.length_set, ab_cl_len]), h.2.1, fun j u hj => ?_⟩
  rw [ab_s1, List.getElem?_set] at hj
  by_cases e : i = j
  · subst e
    rw [if_pos rfl] at hj
    split at hj
    · cases hj
      exact h.2.2 (i, ab_v ad v) List.mem_cons_self
    · cases hj
  · rw [if_neg e] at hj
    obtain ⟨h1, h2⟩ := ab_cl_at hj
    refine h.2.2 (j, ab_v ad u) (List.mem_cons_of_mem _ (List.mem_filter.mpr ⟨ab_al_mem.mpr ⟨u, h1, rfl⟩, ?_⟩))
    have e2 : ¬ j = i := fun q => e q.symm
    simp only [Bool.and_eq_true, Bool.not_eq_true', beq_eq_false_iff_ne, ne_eq, Bool.and_eq_false_iff, ab_cat]
    refine ⟨e2, ?_⟩
    by_cases q : j + 1 = i
    · exact Or.inr (fun q2 => h2 ⟨q, q2⟩)
    · exact Or.inl q
theorem ab_L.st2 {ad : Nat → Nat} {ls' : Array Slot} {L : List (Option Value)} {i : Nat} {v : Value} (h : lv_has ls' L.length ((i, ab_v ad v) :: (ab_al ad L).filter (fun q => !(q.1 == i) && (!(q.1 == i + 1) && !(q.1 + 1 == i && q.2.category == 2))))) : ab_L ad ls' (ab_s2 L i v) := by
  refine ⟨h.1.trans (by rw [ab_s2, List.length_set, List.length_set, ab_cl_len]), h.2.1, fun j u hj => ?_⟩
  rw [ab_s2, List.getElem?_set] at hj
  by_cases e1 : i + 1 = j
  · rw [if_pos e1] at hj
    split at hj <;> simp at hj
  rw [if_neg e1, List.getElem?_set] at hj
  by_cases e : i = j
  · subst e
    rw [if_pos rfl] at hj
    split at hj
    · cases hj
      exact h.2.2 (i, ab_v ad v) List.mem_cons_self
    · cases hj
  · rw [if_neg e] at hj
    obtain ⟨h1, h2⟩ := ab_cl_at hj
    refine h.2.2 (j, ab_v ad u) (List.mem_cons_of_mem _ (List.mem_filter.mpr ⟨ab_al_mem.mpr ⟨u, h1, rfl⟩, ?_⟩))
    have e2 : ¬ j = i := fun q => e q.symm
    have e3 : ¬ j = i + 1 := fun q => e1 q.symm
    simp only [Bool.and_eq_true, Bool.not_eq_true', beq_eq_false_iff_ne, ne_eq, Bool.and_eq_false_iff, ab_cat]
    refine ⟨e2, e3, ?_⟩
    by_cases q : j + 1 = i
    · exact Or.inr (fun q2 => h2 ⟨q, q2⟩)
    · exact Or.inl q
theorem G_istore {i : Nat} {x : Int32} (hd : decode M.2.2.1 pc = .ok (.istore i, 2)) (hi : i < L.length) (hL' : ab_s1 L i (.int x) = L') (kk : G xo M d k n Q (pc + 2) L' st w) : G xo M d k n Q pc L (.int x :: st) w := by
  intro p l e R s m args below meth c Z D tc ad A H locs cells slots ls X hR hL hc hs fin
  exact lv_istore X.1.1 X.1.2.1 hd hL.has hi rfl (fun ls' hl => kk p l e R s m args below meth c Z D tc ad A H locs cells slots ls' X hR (hL' ▸ ab_L.st1 (v := .int x) hl) hc hs fin)
theorem G_istore_n {i : Fin 4} {x : Int32} (hd : decode M.2.2.1 pc = .ok (.istore_n i, 1)) (hi : (i : Nat) < L.length) (hL' : ab_s1 L i (.int x) = L') (kk : G xo M d k n Q (pc + 1) L' st w) : G xo M d k n Q pc L (.int x :: st) w := by
  intro p l e R s m args below meth c Z D tc ad A H locs cells slots ls X hR hL hc hs fin
  exact lv_istore_n X.1.1 X.1.2.1 hd rfl hL.has hi rfl (fun ls' hl => kk p l e R s m args below meth c Z D tc ad A H locs cells slots ls' X hR (hL' ▸ ab_L.st1 (v := .int x) hl) hc hs fin)
theorem G_lstore {i : Nat} {x : Int64} (hd : decode M.2.2.1 pc = .ok (.lstore i, 2)) (hi : i + 1 < L.length) (hL' : ab_s2 L i (.long x) = L') (kk : G xo M d k n Q (pc + 2) L' st w) : G xo M d k n Q pc L (.long x :: st) w := by
  intro p l e R s m args below meth c Z D tc ad A H locs cells slots ls X hR hL hc hs fin
  exact lv_lstore X.1.1 X.1.2.1 hd hL.has hi rfl (fun ls' hl => kk p l e R s m args below meth c Z D tc ad A H locs cells slots ls' X hR (hL' ▸ ab_L.st2 (v := .long x) hl) hc hs fin)
theorem G_lstore_n {i : Fin 4} {x : Int64} (hd : decode M.2.2.1 pc = .ok (.lstore_n i, 1)) (hi : (i : Nat) + 1 < L.length) (hL' : ab_s2 L i (.long x) = L') (kk : G xo M d k n Q (pc + 1) L' st w) : G xo M d k n Q pc L (.long x :: st) w := by
  intro p l e R s m args below meth c Z D tc ad A H locs cells slots ls X hR hL hc hs fin
  exact lv_lstore_n X.1.1 X.1.2.1 hd rfl hL.has hi rfl (fun ls' hl => kk p l e R s m args below meth c Z D tc ad A H locs cells slots ls' X hR (hL' ▸ ab_L.st2 (v := .long x) hl) hc hs fin)
theorem G_astore {i : Nat} {x : Nat} (hd : decode M.2.2.1 pc = .ok (.astore i, 2)) (hi : i < L.length) (hL' : ab_s1 L i (.ref x) = L') (kk : G xo M d k n Q (pc + 2) L' st w) : G xo M d k n Q pc L (.ref x :: st) w := by
  intro p l e R s m args below meth c Z D tc ad A H locs cells slots ls X hR hL hc hs fin
  exact lv_astore X.1.1 X.1.2.1 hd hL.has hi rfl (fun ls' hl => kk p l e R s m args below meth c Z D tc ad A H locs cells slots ls' X hR (hL' ▸ ab_L.st1 (v := .ref x) hl) hc hs fin)
theorem G_astore_n {i : Fin 4} {x : Nat} (hd : decode M.2.2.1 pc = .ok (.astore_n i, 1)) (hi : (i : Nat) < L.length) (hL' : ab_s1 L i (.ref x) = L') (kk : G xo M d k n Q (pc + 1) L' st w) : G xo M d k n Q pc L (.ref x :: st) w := by
  intro p l e R s m args below meth c Z D tc ad A H locs cells slots ls X hR hL hc hs fin
  exact lv_astore_n X.1.1 X.1.2.1 hd rfl hL.has hi rfl (fun ls' hl => kk p l e R s m args below meth c Z D tc ad A H locs cells slots ls' X hR (hL' ▸ ab_L.st1 (v := .ref x) hl) hc hs fin)
theorem G_iinc {i : Nat} {z : Int} {x v : Int32} (hd : decode M.2.2.1 pc = .ok (.iinc i z, 3)) (hl : L[i]? = some (some (.int x))) (hv : x + Int32.ofInt z = v) (hL' : ab_s1 L i (.int v) = L') (kk : G xo M d k n Q (pc + 3) L' st w) : G xo M d k n Q pc L st w := by
  intro p l e R s m args below meth c Z D tc ad A H locs cells slots ls X hR hL hc hs fin
  have hm : (i, Value.int x) ∈ ab_al ad L := ab_al_mem.mpr ⟨_, hl, rfl⟩
  obtain ⟨j, hj⟩ := List.getElem?_of_mem hm
  exact lv_iinc X.1.1 X.1.2.1 hd hL.has hj hv (List.getElem?_eq_some_iff.mp hl).1 rfl (fun ls' hl => kk p l e R s m args below meth c Z D tc ad A H locs cells slots ls' X hR (hL' ▸ ab_L.st1 (v := .int v) hl) hc hs fin)
theorem G_if_eq {x : Int32} {off : Int} {tgt : Nat} (hd : decode M.2.2.1 pc = .ok (.ifCond .eq off, 3)) (ht : (pc : Int) + off = (tgt : Int)) (kt : x = 0 → G xo M d k n Q tgt L st w) (kf : ¬ x = 0 → G xo M d k n Q (pc + 3) L st w) : G xo M d k n Q pc L (.int x :: st) w := by
  intro p l e R s m args below meth c Z D tc ad A H locs cells slots ls X hR hL hc hs fin
  exact lv_if_eq X.1.1 X.1.2.1 hd ht (fun h => kt h p l e R s m args below meth c Z D tc ad A H locs cells slots ls X hR hL hc hs fin) (fun h => kf h p l e R s m args below meth c Z D tc ad A H locs cells slots ls X hR hL hc hs fin)
theorem G_icmp_eq {x y : Int32} {off : Int} {tgt : Nat} (hd : decode M.2.2.1 pc = .ok (.if_icmp .eq off, 3)) (ht : (pc : Int) + off = (tgt : Int)) (kt : x = y → G xo M d k n Q tgt L st w) (kf : ¬ x = y → G xo M d k n Q (pc + 3) L st w) : G xo M d k n Q pc L (.int y :: .int x :: st) w := by
  intro p l e R s m args below meth c Z D tc ad A H locs cells slots ls X hR hL hc hs fin
  exact lv_icmp_eq X.1.1 X.1.2.1 hd ht (fun h => kt h p l e R s m args below meth c Z D tc ad A H locs cells slots ls X hR hL hc hs fin) (fun h => kf h p l e R s m args below meth c Z D tc ad A H locs cells slots ls X hR hL hc hs fin)
theorem G_if_ne {x : Int32} {off : Int} {tgt : Nat} (hd : decode M.2.2.1 pc = .ok (.ifCond .ne off, 3)) (ht : (pc : Int) + off = (tgt : Int)) (kt : ¬ x = 0 → G xo M d k n Q tgt L st w) (kf : x = 0 → G xo M d k n Q (pc + 3) L st w) : G xo M d k n Q pc L (.int x :: st) w := by
  intro p l e R s m args below meth c Z D tc ad A H locs cells slots ls X hR hL hc hs fin
  exact lv_if_ne X.1.1 X.1.2.1 hd ht (fun h => kt h p l e R s m args below meth c Z D tc ad A H locs cells slots ls X hR hL hc hs fin) (fun h => kf h p l e R s m args below meth c Z D tc ad A H locs cells slots ls X hR hL hc hs fin)
theorem G_icmp_ne {x y : Int32} {off : Int} {tgt : Nat} (hd : decode M.2.2.1 pc = .ok (.if_icmp .ne off, 3)) (ht : (pc : Int) + off = (tgt : Int)) (kt : ¬ x = y → G xo M d k n Q tgt L st w) (kf : x = y → G xo M d k n Q (pc + 3) L st w) : G xo M d k n Q pc L (.int y :: .int x :: st) w := by
  intro p l e R s m args below meth c Z D tc ad A H locs cells slots ls X hR hL hc hs fin
  exact lv_icmp_ne X.1.1 X.1.2.1 hd ht (fun h => kt h p l e R s m args below meth c Z D tc ad A H locs cells slots ls X hR hL hc hs fin) (fun h => kf h p l e R s m args below meth c Z D tc ad A H locs cells slots ls X hR hL hc hs fin)
theorem G_if_lt {x : Int32} {off : Int} {tgt : Nat} (hd : decode M.2.2.1 pc = .ok (.ifCond .lt off, 3)) (ht : (pc : Int) + off = (tgt : Int)) (kt : x < 0 → G xo M d k n Q tgt L st w) (kf : ¬ x < 0 → G xo M d k n Q (pc + 3) L st w) : G xo M d k n Q pc L (.int x :: st) w := by
  intro p l e R s m args below meth c Z D tc ad A H locs cells slots ls X hR hL hc hs fin
  exact lv_if_lt X.1.1 X.1.2.1 hd ht (fun h => kt h p l e R s m args below meth c Z D tc ad A H locs cells slots ls X hR hL hc hs fin) (fun h => kf h p l e R s m args below meth c Z D tc ad A H locs cells slots ls X hR hL hc hs fin)
theorem G_icmp_lt {x y : Int32} {off : Int} {tgt : Nat} (hd : decode M.2.2.1 pc = .ok (.if_icmp .lt off, 3)) (ht : (pc : Int) + off = (tgt : Int)) (kt : x < y → G xo M d k n Q tgt L st w) (kf : ¬ x < y → G xo M d k n Q (pc + 3) L st w) : G xo M d k n Q pc L (.int y :: .int x :: st) w := by
  intro p l e R s m args below meth c Z D tc ad A H locs cells slots ls X hR hL hc hs fin
  exact lv_icmp_lt X.1.1 X.1.2.1 hd ht (fun h => kt h p l e R s m args below meth c Z D tc ad A H locs cells slots ls X hR hL hc hs fin) (fun h => kf h p l e R s m args below meth c Z D tc ad A H locs cells slots ls X hR hL hc hs fin)
theorem G_if_ge {x : Int32} {off : Int} {tgt : Nat} (hd : decode M.2.2.1 pc = .ok (.ifCond .ge off, 3)) (ht : (pc : Int) + off = (tgt : Int)) (kt : 0 ≤ x → G xo M d k n Q tgt L st w) (kf : ¬ 0 ≤ x → G xo M d k n Q (pc + 3) L st w) : G xo M d k n Q pc L (.int x :: st) w := by
  intro p l e R s m args below meth c Z D tc ad A H locs cells slots ls X hR hL hc hs fin
  exact lv_if_ge X.1.1 X.1.2.1 hd ht (fun h => kt h p l e R s m args below meth c Z D tc ad A H locs cells slots ls X hR hL hc hs fin) (fun h => kf h p l e R s m args below meth c Z D tc ad A H locs cells slots ls X hR hL hc hs fin)
theorem G_icmp_ge {x y : Int32} {off : Int} {tgt : Nat} (hd : decode M.2.2.1 pc = .ok (.if_icmp .ge off, 3)) (ht : (pc : Int) + off = (tgt : Int)) (kt : y ≤ x → G xo M d k n Q tgt L st w) (kf : ¬ y ≤ x → G xo M d k n Q (pc + 3) L st w) : G xo M d k n Q pc L (.int y :: .int x :: st) w := by
  intro p l e R s m args below meth c Z D tc ad A H locs cells slots ls X hR hL hc hs fin
  exact lv_icmp_ge X.1.1 X.1.2.1 hd ht (fun h => kt h p l e R s m args below meth c Z D tc ad A H locs cells slots ls X hR hL hc hs fin) (fun h => kf h p l e R s m args below meth c Z D tc ad A H locs cells slots ls X hR hL hc hs fin)
theorem G_if_gt {x : Int32} {off : Int} {tgt : Nat} (hd : decode M.2.2.1 pc = .ok (.ifCond .gt off, 3)) (ht : (pc : Int) + off = (tgt : Int)) (kt : 0 < x → G xo M d k n Q tgt L st w) (kf : ¬ 0 < x → G xo M d k n Q (pc + 3) L st w) : G xo M d k n Q pc L (.int x :: st) w := by
  intro p l e R s m args below meth c Z D tc ad A H locs cells slots ls X hR hL hc hs fin
  exact lv_if_gt X.1.1 X.1.2.1 hd ht (fun h => kt h p l e R s m args below meth c Z D tc ad A H locs cells slots ls X hR hL hc hs fin) (fun h => kf h p l e R s m args below meth c Z D tc ad A H locs cells slots ls X hR hL hc hs fin)
theorem G_icmp_gt {x y : Int32} {off : Int} {tgt : Nat} (hd : decode M.2.2.1 pc = .ok (.if_icmp .gt off, 3)) (ht : (pc : Int) + off = (tgt : Int)) (kt : y < x → G xo M d k n Q tgt L st w) (kf : ¬ y < x → G xo M d k n Q (pc + 3) L st w) : G xo M d k n Q pc L (.int y :: .int x :: st) w := by
  intro p l e R s m args below meth c Z D tc ad A H locs cells slots ls X hR hL hc hs fin
  exact lv_icmp_gt X.1.1 X.1.2.1 hd ht (fun h => kt h p l e R s m args below meth c Z D tc ad A H locs cells slots ls X hR hL hc hs fin) (fun h => kf h p l e R s m args below meth c Z D tc ad A H locs cells slots ls X hR hL hc hs fin)
theorem G_if_le {x : Int32} {off : Int} {tgt : Nat} (hd : decode M.2.2.1 pc = .ok (.ifCond .le off, 3)) (ht : (pc : Int) + off = (tgt : Int)) (kt : x ≤ 0 → G xo M d k n Q tgt L st w) (kf : ¬ x ≤ 0 → G xo M d k n Q (pc + 3) L st w) : G xo M d k n Q pc L (.int x :: st) w := by
  intro p l e R s m args below meth c Z D tc ad A H locs cells slots ls X hR hL hc hs fin
  exact lv_if_le X.1.1 X.1.2.1 hd ht (fun h => kt h p l e R s m args below meth c Z D tc ad A H locs cells slots ls X hR hL hc hs fin) (fun h => kf h p l e R s m args below meth c Z D tc ad A H locs cells slots ls X hR hL hc hs fin)
theorem G_icmp_le {x y : Int32} {off : Int} {tgt : Nat} (hd : decode M.2.2.1 pc = .ok (.if_icmp .le off, 3)) (ht : (pc : Int) + off = (tgt : Int)) (kt : x ≤ y → G xo M d k n Q tgt L st w) (kf : ¬ x ≤ y → G xo M d k n Q (pc + 3) L st w) : G xo M d k n Q pc L (.int y :: .int x :: st) w := by
  intro p l e R s m args below meth c Z D tc ad A H locs cells slots ls X hR hL hc hs fin
  exact lv_icmp_le X.1.1 X.1.2.1 hd ht (fun h => kt h p l e R s m args below meth c Z D tc ad A H locs cells slots ls X hR hL hc hs fin) (fun h => kf h p l e R s m args below meth c Z D tc ad A H locs cells slots ls X hR hL hc hs fin)
theorem G_goto {off : Int} {tgt : Nat} (hd : decode M.2.2.1 pc = .ok (.goto off, 3)) (ht : (pc : Int) + off = (tgt : Int)) (kk : G xo M d k n Q tgt L st w) : G xo M d k n Q pc L st w := by
  intro p l e R s m args below meth c Z D tc ad A H locs cells slots ls X hR hL hc hs fin
  exact lv_goto X.1.1 X.1.2.1 hd ht (kk p l e R s m args below meth c Z D tc ad A H locs cells slots ls X hR hL hc hs fin)
theorem G_ifnn {x : Nat} {off : Int} {tgt : Nat} (hd : decode M.2.2.1 pc = .ok (.ifnonnull off, 3)) (ht : (pc : Int) + off = (tgt : Int)) (kk : G xo M d k n Q tgt L st w) : G xo M d k n Q pc L (.ref x :: st) w := by
  intro p l e R s m args below meth c Z D tc ad A H locs cells slots ls X hR hL hc hs fin
  exact lv_ifnonnull X.1.1 X.1.2.1 hd ht (kk p l e R s m args below meth c Z D tc ad A H locs cells slots ls X hR hL hc hs fin)
theorem G_ifnnN {off : Int} (hd : decode M.2.2.1 pc = .ok (.ifnonnull off, 3)) (kk : G xo M d k n Q (pc + 3) L st w) : G xo M d k n Q pc L (.null :: st) w := by
  intro p l e R s m args below meth c Z D tc ad A H locs cells slots ls X hR hL hc hs fin
  exact lv_ifnonnullN X.1.1 X.1.2.1 hd (kk p l e R s m args below meth c Z D tc ad A H locs cells slots ls X hR hL hc hs fin)
/-- a return -/
theorem G_ret {v : Option Value} (hr : ab_ret M pc v) (hq : Q w v) : G xo M d k n Q pc L v.toList w := by
  intro p l e R s m args below meth c Z D tc ad A H locs cells slots ls X hR hL hc hs fin
  exact fin pc ad H locs cells slots ls w v hr ⟨fun _ _ => rfl, Nat.le_refl _, fun _ => rfl⟩ hR (Nat.le_add_right _ _) (Nat.le_add_right _ _) hq
theorem G_mono {Q' : List ab_C → Option Value → Prop} {k' n' : Nat} (h : G xo M d k n Q pc L st w) (hk : k ≤ k') (hn : n ≤ n') (hQ : ∀ w' v, Q w' v → Q' w' v) : G xo M d k' n' Q' pc L st w := by
  intro p l e R s m args below meth c Z D tc ad A H locs cells slots ls X hR hL hc hs fin
  exact h p l e R s m args below meth c Z D tc ad A H locs cells slots ls X hR hL (by omega) (by omega) (fun pc' ad' H' locs' cells' slots' ls' w' v h1 h2 h4 h5 h6 h7 => fin pc' ad' H' locs' cells' slots' ls' w' v h1 h2 h4 (by omega) (by omega) (hQ _ _ h7))
end AB
