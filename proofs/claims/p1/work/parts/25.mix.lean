/-! Sha.mix: the schedule and the sixty-four steps, in the class's own words. -/
def us (x k : Int32) : Int32 := (x.toUInt32 >>> (k.toUInt32 &&& Int32.toUInt32 31)).toInt32
def ls (x k : Int32) : Int32 := x <<< (k &&& 31)
def rr (x a b : Int32) : Int32 := us x a ||| ls x b
def q0 (x : Int32) : Int32 := rr x 7 25 ^^^ rr x 18 14 ^^^ us x 3
def q1 (x : Int32) : Int32 := rr x 17 15 ^^^ rr x 19 13 ^^^ us x 10
def p1 (x : Int32) : Int32 := rr x 6 26 ^^^ rr x 11 21 ^^^ rr x 25 7
def p0 (x : Int32) : Int32 := rr x 2 30 ^^^ rr x 13 19 ^^^ rr x 22 10
def cho (e f g : Int32) : Int32 := (e &&& f) ^^^ ((e ^^^ (-1)) &&& g)
def maj (a b c : Int32) : Int32 := (a &&& b) ^^^ (a &&& c) ^^^ (b &&& c)
def sc1 (g : Nat → Int32) (i : Nat) : Int32 := g (i - 16) + q0 (g (i - 15)) + g (i - 7) + q1 (g (i - 2))
def scN : Nat → (Nat → Int32) → Nat → Int32
  | 0, g => g
  | n + 1, g => upd (scN n g) (16 + n) (sc1 (scN n g) (16 + n))
abbrev S8 : Type := Int32 × Int32 × Int32 × Int32 × Int32 × Int32 × Int32 × Int32
def rd (k w : Int32) (s : S8) : S8 := match s with
  | (a, b, c, d, e, f, g, h) => (h + p1 e + cho e f g + k + w + (p0 a + maj a b c), a, b, c, d + (h + p1 e + cho e f g + k + w), e, f, g)
def rdN : Nat → (Nat → Int32) → S8 → S8
  | 0, _, s => s
  | n + 1, w, s => rd (ab_l ab_steps n) (w n) (rdN n w s)
def ini (st : Nat → Int32) : S8 := (st 0, st 1, st 2, st 3, st 4, st 5, st 6, st 7)
def add8 (st : Nat → Int32) (s : S8) : Nat → Int32 := match s with
  | (a, b, c, d, e, f, g, h) =>
    let t0 := upd st 0 (st 0 + a)
    let t1 := upd t0 1 (t0 1 + b)
    let t2 := upd t1 2 (t1 2 + c)
    let t3 := upd t2 3 (t2 3 + d)
    let t4 := upd t3 4 (t3 4 + e)
    let t5 := upd t4 5 (t4 5 + f)
    let t6 := upd t5 6 (t5 6 + g)
    upd t6 7 (t6 7 + h)
def mixS (st ws : Nat → Int32) : Nat → Int32 := add8 st (rdN 64 (scN 48 ws) (ini st))
set_option maxRecDepth 20000 in
set_option maxHeartbeats 4000000 in
theorem con_mix (d : Nat) (st ws : Nat → Int32) (fv lv : Value) : Con mX6_mix d 0 0 [.inr (7, [.ref 101, .ref 102, fv, lv]), cI 8 st, cI 64 ws] [.ref 100] (fun w' v => v = none ∧ w' = [.inr (7, [.ref 101, .ref 102, fv, lv]), cI 8 (mixS st ws), cI 64 (scN 48 ws)]) := by
  refine Con.of (ab_okc rfl (by decide)) (Nat.le_of_ble_eq_true rfl) ?_
  show G ab_x0 mX6_mix d 0 0 _ 0 [some (.ref 100), none, none, none, none, none, none, none, none, none, none, none, none] [] _
  have rounds : ∀ (i : Nat) (a b c e f g h j : Int32) (z10 z11 z12 : Option Value), i ≤ 64 → rdN i (scN 48 ws) (ini st) = (a, b, c, e, f, g, h, j) → G ab_x0 mX6_mix d 0 0 (fun w' v => v = none ∧ w' = [.inr (7, [.ref 101, .ref 102, fv, lv]), cI 8 (mixS st ws), cI 64 (scN 48 ws)]) 182 [some (.ref 100), some (.int a), some (.int b), some (.int c), some (.int e), some (.int f), some (.int g), some (.int h), some (.int j), some (.int (nI i)), z10, z11, z12] [] [.inr (7, [.ref 101, .ref 102, fv, lv]), cI 8 st, cI 64 (scN 48 ws)] := by
    intro i
    induction hm : 64 - i using Nat.strongRecOn generalizing i with
    | ind m ih =>
      subst hm
      intro a b c e f g h j z10 z11 z12 hi hr
      refine G_iload dX6_mix_182 rfl ?_
      refine G_bipush (v := 64) dX6_mix_184 (by decide) ?_
      refine G_icmp_geN (tgt := 346) i 64 dX6_mix_186 (by decide) rfl rfl (by omega) (by omega) (fun hge => ?_) (fun hlt => ?_)
      · have e64 : i = 64 := by omega
        subst e64
        refine G_aload_n dX6_mix_346 rfl ?_
        refine G_get (f := 0) kc7 dX6_mix_347 fX6_9 (by decide) rfl rfl ?_
        refine G_iconst (v := 0) dX6_mix_350 (by decide) ?_
        refine G_dup2 dX6_mix_351 rfl rfl ?_
        refine G_ialdN 0 dX6_mix_352 rfl rfl (by decide) (by decide) ?_
        refine G_iload_n dX6_mix_353 rfl ?_
        refine G_iadd dX6_mix_354 ?_
        refine G_iastN (w' := [_, _, _]) 0 dX6_mix_355 rfl rfl (by decide) (by decide) rfl ?_
        refine G_aload_n dX6_mix_356 rfl ?_
        refine G_get (f := 0) kc7 dX6_mix_357 fX6_9 (by decide) rfl rfl ?_
        refine G_iconst (v := 1) dX6_mix_360 (by decide) ?_
        refine G_dup2 dX6_mix_361 rfl rfl ?_
        refine G_ialdN 1 dX6_mix_362 rfl rfl (by decide) (by decide) ?_
        refine G_iload_n dX6_mix_363 rfl ?_
        refine G_iadd dX6_mix_364 ?_
        refine G_iastN (w' := [_, _, _]) 1 dX6_mix_365 rfl rfl (by decide) (by decide) rfl ?_
        refine G_aload_n dX6_mix_366 rfl ?_
        refine G_get (f := 0) kc7 dX6_mix_367 fX6_9 (by decide) rfl rfl ?_
        refine G_iconst (v := 2) dX6_mix_370 (by decide) ?_
        refine G_dup2 dX6_mix_371 rfl rfl ?_
        refine G_ialdN 2 dX6_mix_372 rfl rfl (by decide) (by decide) ?_
        refine G_iload_n dX6_mix_373 rfl ?_
        refine G_iadd dX6_mix_374 ?_
        refine G_iastN (w' := [_, _, _]) 2 dX6_mix_375 rfl rfl (by decide) (by decide) rfl ?_
        refine G_aload_n dX6_mix_376 rfl ?_
        refine G_get (f := 0) kc7 dX6_mix_377 fX6_9 (by decide) rfl rfl ?_
        refine G_iconst (v := 3) dX6_mix_380 (by decide) ?_
        refine G_dup2 dX6_mix_381 rfl rfl ?_
        refine G_ialdN 3 dX6_mix_382 rfl rfl (by decide) (by decide) ?_
        refine G_iload dX6_mix_383 rfl ?_
        refine G_iadd dX6_mix_385 ?_
        refine G_iastN (w' := [_, _, _]) 3 dX6_mix_386 rfl rfl (by decide) (by decide) rfl ?_
        refine G_aload_n dX6_mix_387 rfl ?_
        refine G_get (f := 0) kc7 dX6_mix_388 fX6_9 (by decide) rfl rfl ?_
        refine G_iconst (v := 4) dX6_mix_391 (by decide) ?_
        refine G_dup2 dX6_mix_392 rfl rfl ?_
        refine G_ialdN 4 dX6_mix_393 rfl rfl (by decide) (by decide) ?_
        refine G_iload dX6_mix_394 rfl ?_
        refine G_iadd dX6_mix_396 ?_
        refine G_iastN (w' := [_, _, _]) 4 dX6_mix_397 rfl rfl (by decide) (by decide) rfl ?_
        refine G_aload_n dX6_mix_398 rfl ?_
        refine G_get (f := 0) kc7 dX6_mix_399 fX6_9 (by decide) rfl rfl ?_
        refine G_iconst (v := 5) dX6_mix_402 (by decide) ?_
        refine G_dup2 dX6_mix_403 rfl rfl ?_
        refine G_ialdN 5 dX6_mix_404 rfl rfl (by decide) (by decide) ?_
        refine G_iload dX6_mix_405 rfl ?_
        refine G_iadd dX6_mix_407 ?_
        refine G_iastN (w' := [_, _, _]) 5 dX6_mix_408 rfl rfl (by decide) (by decide) rfl ?_
        refine G_aload_n dX6_mix_409 rfl ?_
        refine G_get (f := 0) kc7 dX6_mix_410 fX6_9 (by decide) rfl rfl ?_
        refine G_bipush (v := 6) dX6_mix_413 (by decide) ?_
        refine G_dup2 dX6_mix_415 rfl rfl ?_
        refine G_ialdN 6 dX6_mix_416 rfl rfl (by decide) (by decide) ?_
        refine G_iload dX6_mix_417 rfl ?_
        refine G_iadd dX6_mix_419 ?_
        refine G_iastN (w' := [_, _, _]) 6 dX6_mix_420 rfl rfl (by decide) (by decide) rfl ?_
        refine G_aload_n dX6_mix_421 rfl ?_
        refine G_get (f := 0) kc7 dX6_mix_422 fX6_9 (by decide) rfl rfl ?_
        refine G_bipush (v := 7) dX6_mix_425 (by decide) ?_
        refine G_dup2 dX6_mix_427 rfl rfl ?_
        refine G_ialdN 7 dX6_mix_428 rfl rfl (by decide) (by decide) ?_
        refine G_iload dX6_mix_429 rfl ?_
        refine G_iadd dX6_mix_431 ?_
        refine G_iastN (w' := [_, _, _]) 7 dX6_mix_432 rfl rfl (by decide) (by decide) rfl ?_
        refine G_ret (v := none) ⟨dX6_mix_433, rfl⟩ ⟨rfl, ?_⟩
        have e9 : mixS st ws = add8 st (a, b, c, e, f, g, h, j) := by
          unfold mixS
          rw [hr]
        rw [e9]
        rfl
      refine G_iload dX6_mix_189 rfl ?_
      refine G_bipush (v := 6) dX6_mix_191 (by decide) ?_
      refine G_iushr dX6_mix_193 ?_
      refine G_iload dX6_mix_194 rfl ?_
      refine G_bipush (v := 26) dX6_mix_196 (by decide) ?_
      refine G_ishl dX6_mix_198 ?_
      refine G_ior dX6_mix_199 ?_
      refine G_iload dX6_mix_200 rfl ?_
      refine G_bipush (v := 11) dX6_mix_202 (by decide) ?_
      refine G_iushr dX6_mix_204 ?_
      refine G_iload dX6_mix_205 rfl ?_
      refine G_bipush (v := 21) dX6_mix_207 (by decide) ?_
      refine G_ishl dX6_mix_209 ?_
      refine G_ior dX6_mix_210 ?_
      refine G_ixor dX6_mix_211 ?_
      refine G_iload dX6_mix_212 rfl ?_
      refine G_bipush (v := 25) dX6_mix_214 (by decide) ?_
      refine G_iushr dX6_mix_216 ?_
      refine G_iload dX6_mix_217 rfl ?_
      refine G_bipush (v := 7) dX6_mix_219 (by decide) ?_
      refine G_ishl dX6_mix_221 ?_
      refine G_ior dX6_mix_222 ?_
      refine G_ixor dX6_mix_223 ?_
      refine G_istore (L' := [_, _, _, _, _, _, _, _, _, _, _, _, _]) dX6_mix_224 (Nat.le_of_ble_eq_true rfl) rfl ?_
      refine G_iload dX6_mix_226 rfl ?_
      refine G_iload dX6_mix_228 rfl ?_
      refine G_iadd dX6_mix_230 ?_
      refine G_iload dX6_mix_231 rfl ?_
      refine G_iload dX6_mix_233 rfl ?_
      refine G_iand dX6_mix_235 ?_
      refine G_iload dX6_mix_236 rfl ?_
      refine G_iconst (v := (-1)) dX6_mix_238 (by decide) ?_
      refine G_ixor dX6_mix_239 ?_
      refine G_iload dX6_mix_240 rfl ?_
      refine G_iand dX6_mix_242 ?_
      refine G_ixor dX6_mix_243 ?_
      refine G_iadd dX6_mix_244 ?_
      refine G_gets (j := 2) dX6_mix_245 rfl fX6_41 ?_
      refine G_iload dX6_mix_248 rfl ?_
      refine G_xaldN (N := 64) (f := ab_l ab_steps) i dX6_mix_250 rfl rfl (by omega) (by omega) ?_
      refine G_iadd dX6_mix_251 ?_
      refine G_aload_n dX6_mix_252 rfl ?_
      refine G_get (f := 1) kc7 dX6_mix_253 fX6_15 (by decide) rfl rfl ?_
      refine G_iload dX6_mix_256 rfl ?_
      refine G_ialdN i dX6_mix_258 rfl rfl (by omega) (by omega) ?_
      refine G_iadd dX6_mix_259 ?_
      refine G_istore (L' := [_, _, _, _, _, _, _, _, _, _, _, _, _]) dX6_mix_260 (Nat.le_of_ble_eq_true rfl) rfl ?_
      refine G_iload_n dX6_mix_262 rfl ?_
      refine G_iconst (v := 2) dX6_mix_263 (by decide) ?_
      refine G_iushr dX6_mix_264 ?_
      refine G_iload_n dX6_mix_265 rfl ?_
      refine G_bipush (v := 30) dX6_mix_266 (by decide) ?_
      refine G_ishl dX6_mix_268 ?_
      refine G_ior dX6_mix_269 ?_
      refine G_iload_n dX6_mix_270 rfl ?_
      refine G_bipush (v := 13) dX6_mix_271 (by decide) ?_
      refine G_iushr dX6_mix_273 ?_
      refine G_iload_n dX6_mix_274 rfl ?_
      refine G_bipush (v := 19) dX6_mix_275 (by decide) ?_
      refine G_ishl dX6_mix_277 ?_
      refine G_ior dX6_mix_278 ?_
      refine G_ixor dX6_mix_279 ?_
      refine G_iload_n dX6_mix_280 rfl ?_
      refine G_bipush (v := 22) dX6_mix_281 (by decide) ?_
      refine G_iushr dX6_mix_283 ?_
      refine G_iload_n dX6_mix_284 rfl ?_
      refine G_bipush (v := 10) dX6_mix_285 (by decide) ?_
      refine G_ishl dX6_mix_287 ?_
      refine G_ior dX6_mix_288 ?_
      refine G_ixor dX6_mix_289 ?_
      refine G_istore (L' := [_, _, _, _, _, _, _, _, _, _, _, _, _]) dX6_mix_290 (Nat.le_of_ble_eq_true rfl) rfl ?_
      refine G_iload dX6_mix_292 rfl ?_
      refine G_iload_n dX6_mix_294 rfl ?_
      refine G_iload_n dX6_mix_295 rfl ?_
      refine G_iand dX6_mix_296 ?_
      refine G_iload_n dX6_mix_297 rfl ?_
      refine G_iload_n dX6_mix_298 rfl ?_
      refine G_iand dX6_mix_299 ?_
      refine G_ixor dX6_mix_300 ?_
      refine G_iload_n dX6_mix_301 rfl ?_
      refine G_iload_n dX6_mix_302 rfl ?_
      refine G_iand dX6_mix_303 ?_
      refine G_ixor dX6_mix_304 ?_
      refine G_iadd dX6_mix_305 ?_
      refine G_istore (L' := [_, _, _, _, _, _, _, _, _, _, _, _, _]) dX6_mix_306 (Nat.le_of_ble_eq_true rfl) rfl ?_
      refine G_iload dX6_mix_308 rfl ?_
      refine G_istore (L' := [_, _, _, _, _, _, _, _, _, _, _, _, _]) dX6_mix_310 (Nat.le_of_ble_eq_true rfl) rfl ?_
      refine G_iload dX6_mix_312 rfl ?_
      refine G_istore (L' := [_, _, _, _, _, _, _, _, _, _, _, _, _]) dX6_mix_314 (Nat.le_of_ble_eq_true rfl) rfl ?_
      refine G_iload dX6_mix_316 rfl ?_
      refine G_istore (L' := [_, _, _, _, _, _, _, _, _, _, _, _, _]) dX6_mix_318 (Nat.le_of_ble_eq_true rfl) rfl ?_
      refine G_iload dX6_mix_320 rfl ?_
      refine G_iload dX6_mix_322 rfl ?_
      refine G_iadd dX6_mix_324 ?_
      refine G_istore (L' := [_, _, _, _, _, _, _, _, _, _, _, _, _]) dX6_mix_325 (Nat.le_of_ble_eq_true rfl) rfl ?_
      refine G_iload_n dX6_mix_327 rfl ?_
      refine G_istore (L' := [_, _, _, _, _, _, _, _, _, _, _, _, _]) dX6_mix_328 (Nat.le_of_ble_eq_true rfl) rfl ?_
      refine G_iload_n dX6_mix_330 rfl ?_
      refine G_istore_n (L' := [_, _, _, _, _, _, _, _, _, _, _, _, _]) dX6_mix_331 (Nat.le_of_ble_eq_true rfl) rfl ?_
      refine G_iload_n dX6_mix_332 rfl ?_
      refine G_istore_n (L' := [_, _, _, _, _, _, _, _, _, _, _, _, _]) dX6_mix_333 (Nat.le_of_ble_eq_true rfl) rfl ?_
      refine G_iload dX6_mix_334 rfl ?_
      refine G_iload dX6_mix_336 rfl ?_
      refine G_iadd dX6_mix_338 ?_
      refine G_istore_n (L' := [_, _, _, _, _, _, _, _, _, _, _, _, _]) dX6_mix_339 (Nat.le_of_ble_eq_true rfl) rfl ?_
      refine G_iinc (L' := [_, _, _, _, _, _, _, _, _, _, _, _, _]) (v := nI (i + 1)) dX6_mix_340 rfl (nI_succ i).symm rfl ?_
      refine G_goto (tgt := 182) dX6_mix_343 (by decide) ?_
      refine ih (64 - (i + 1)) (by omega) (i + 1) rfl _ _ _ _ _ _ _ _ _ _ _ (by omega) ?_
      show rd (ab_l ab_steps i) (scN 48 ws i) (rdN i (scN 48 ws) (ini st)) = _
      rw [hr]
      rfl
  refine G_bipush (v := 16) dX6_mix_0 (by decide) ?_
  refine G_istore_n (L' := [_, _, _, _, _, _, _, _, _, _, _, _, _]) dX6_mix_2 (Nat.le_of_ble_eq_true rfl) rfl ?_
  have sched : ∀ (n : Nat) (z2 z3 z4 z5 z6 z7 z8 z9 z10 z11 z12 : Option Value), n ≤ 48 → G ab_x0 mX6_mix d 0 0 (fun w' v => v = none ∧ w' = [.inr (7, [.ref 101, .ref 102, fv, lv]), cI 8 (mixS st ws), cI 64 (scN 48 ws)]) 3 [some (.ref 100), some (.int (nI (16 + n))), z2, z3, z4, z5, z6, z7, z8, z9, z10, z11, z12] [] [.inr (7, [.ref 101, .ref 102, fv, lv]), cI 8 st, cI 64 (scN n ws)] := by
    intro n
    induction hm : 48 - n using Nat.strongRecOn generalizing n with
    | ind m ih =>
      subst hm
      intro z2 z3 z4 z5 z6 z7 z8 z9 z10 z11 z12 hn
      generalize hi : 16 + n = i
      refine G_iload_n dX6_mix_3 rfl ?_
      refine G_bipush (v := 64) dX6_mix_4 (by decide) ?_
      refine G_icmp_geN (tgt := 116) i 64 dX6_mix_6 (by decide) rfl rfl (by omega) (by omega) (fun hge => ?_) (fun hlt => ?_)
      · have e48 : n = 48 := by omega
        subst e48
        refine G_aload_n dX6_mix_116 rfl ?_
        refine G_get (f := 0) kc7 dX6_mix_117 fX6_9 (by decide) rfl rfl ?_
        refine G_iconst (v := 0) dX6_mix_120 (by decide) ?_
        refine G_ialdN 0 dX6_mix_121 rfl rfl (by decide) (by decide) ?_
        refine G_istore_n (L' := [_, _, _, _, _, _, _, _, _, _, _, _, _]) dX6_mix_122 (Nat.le_of_ble_eq_true rfl) rfl ?_
        refine G_aload_n dX6_mix_123 rfl ?_
        refine G_get (f := 0) kc7 dX6_mix_124 fX6_9 (by decide) rfl rfl ?_
        refine G_iconst (v := 1) dX6_mix_127 (by decide) ?_
        refine G_ialdN 1 dX6_mix_128 rfl rfl (by decide) (by decide) ?_
        refine G_istore_n (L' := [_, _, _, _, _, _, _, _, _, _, _, _, _]) dX6_mix_129 (Nat.le_of_ble_eq_true rfl) rfl ?_
        refine G_aload_n dX6_mix_130 rfl ?_
        refine G_get (f := 0) kc7 dX6_mix_131 fX6_9 (by decide) rfl rfl ?_
        refine G_iconst (v := 2) dX6_mix_134 (by decide) ?_
        refine G_ialdN 2 dX6_mix_135 rfl rfl (by decide) (by decide) ?_
        refine G_istore_n (L' := [_, _, _, _, _, _, _, _, _, _, _, _, _]) dX6_mix_136 (Nat.le_of_ble_eq_true rfl) rfl ?_
        refine G_aload_n dX6_mix_137 rfl ?_
        refine G_get (f := 0) kc7 dX6_mix_138 fX6_9 (by decide) rfl rfl ?_
        refine G_iconst (v := 3) dX6_mix_141 (by decide) ?_
        refine G_ialdN 3 dX6_mix_142 rfl rfl (by decide) (by decide) ?_
        refine G_istore (L' := [_, _, _, _, _, _, _, _, _, _, _, _, _]) dX6_mix_143 (Nat.le_of_ble_eq_true rfl) rfl ?_
        refine G_aload_n dX6_mix_145 rfl ?_
        refine G_get (f := 0) kc7 dX6_mix_146 fX6_9 (by decide) rfl rfl ?_
        refine G_iconst (v := 4) dX6_mix_149 (by decide) ?_
        refine G_ialdN 4 dX6_mix_150 rfl rfl (by decide) (by decide) ?_
        refine G_istore (L' := [_, _, _, _, _, _, _, _, _, _, _, _, _]) dX6_mix_151 (Nat.le_of_ble_eq_true rfl) rfl ?_
        refine G_aload_n dX6_mix_153 rfl ?_
        refine G_get (f := 0) kc7 dX6_mix_154 fX6_9 (by decide) rfl rfl ?_
        refine G_iconst (v := 5) dX6_mix_157 (by decide) ?_
        refine G_ialdN 5 dX6_mix_158 rfl rfl (by decide) (by decide) ?_
        refine G_istore (L' := [_, _, _, _, _, _, _, _, _, _, _, _, _]) dX6_mix_159 (Nat.le_of_ble_eq_true rfl) rfl ?_
        refine G_aload_n dX6_mix_161 rfl ?_
        refine G_get (f := 0) kc7 dX6_mix_162 fX6_9 (by decide) rfl rfl ?_
        refine G_bipush (v := 6) dX6_mix_165 (by decide) ?_
        refine G_ialdN 6 dX6_mix_167 rfl rfl (by decide) (by decide) ?_
        refine G_istore (L' := [_, _, _, _, _, _, _, _, _, _, _, _, _]) dX6_mix_168 (Nat.le_of_ble_eq_true rfl) rfl ?_
        refine G_aload_n dX6_mix_170 rfl ?_
        refine G_get (f := 0) kc7 dX6_mix_171 fX6_9 (by decide) rfl rfl ?_
        refine G_bipush (v := 7) dX6_mix_174 (by decide) ?_
        refine G_ialdN 7 dX6_mix_176 rfl rfl (by decide) (by decide) ?_
        refine G_istore (L' := [_, _, _, _, _, _, _, _, _, _, _, _, _]) dX6_mix_177 (Nat.le_of_ble_eq_true rfl) rfl ?_
        refine G_iconst (v := 0) dX6_mix_179 (by decide) ?_
        refine G_istore (L' := [_, _, _, _, _, _, _, _, _, _, _, _, _]) dX6_mix_180 (Nat.le_of_ble_eq_true rfl) rfl ?_
        exact rounds 0 _ _ _ _ _ _ _ _ _ _ _ (by omega) rfl
      refine G_aload_n dX6_mix_9 rfl ?_
      refine G_get (f := 1) kc7 dX6_mix_10 fX6_15 (by decide) rfl rfl ?_
      refine G_iload_n dX6_mix_13 rfl ?_
      refine G_bipush (v := 15) dX6_mix_14 (by decide) ?_
      refine G_isub dX6_mix_16 ?_
      refine G_ialdN (i - 15) dX6_mix_17 rfl (pk_sub (a := i) (b := 15) (by omega)) (by omega) (by omega) ?_
      refine G_istore_n (L' := [_, _, _, _, _, _, _, _, _, _, _, _, _]) dX6_mix_18 (Nat.le_of_ble_eq_true rfl) rfl ?_
      refine G_aload_n dX6_mix_19 rfl ?_
      refine G_get (f := 1) kc7 dX6_mix_20 fX6_15 (by decide) rfl rfl ?_
      refine G_iload_n dX6_mix_23 rfl ?_
      refine G_iconst (v := 2) dX6_mix_24 (by decide) ?_
      refine G_isub dX6_mix_25 ?_
      refine G_ialdN (i - 2) dX6_mix_26 rfl (pk_sub (a := i) (b := 2) (by omega)) (by omega) (by omega) ?_
      refine G_istore_n (L' := [_, _, _, _, _, _, _, _, _, _, _, _, _]) dX6_mix_27 (Nat.le_of_ble_eq_true rfl) rfl ?_
      refine G_iload_n dX6_mix_28 rfl ?_
      refine G_bipush (v := 7) dX6_mix_29 (by decide) ?_
      refine G_iushr dX6_mix_31 ?_
      refine G_iload_n dX6_mix_32 rfl ?_
      refine G_bipush (v := 25) dX6_mix_33 (by decide) ?_
      refine G_ishl dX6_mix_35 ?_
      refine G_ior dX6_mix_36 ?_
      refine G_iload_n dX6_mix_37 rfl ?_
      refine G_bipush (v := 18) dX6_mix_38 (by decide) ?_
      refine G_iushr dX6_mix_40 ?_
      refine G_iload_n dX6_mix_41 rfl ?_
      refine G_bipush (v := 14) dX6_mix_42 (by decide) ?_
      refine G_ishl dX6_mix_44 ?_
      refine G_ior dX6_mix_45 ?_
      refine G_ixor dX6_mix_46 ?_
      refine G_iload_n dX6_mix_47 rfl ?_
      refine G_iconst (v := 3) dX6_mix_48 (by decide) ?_
      refine G_iushr dX6_mix_49 ?_
      refine G_ixor dX6_mix_50 ?_
      refine G_istore (L' := [_, _, _, _, _, _, _, _, _, _, _, _, _]) dX6_mix_51 (Nat.le_of_ble_eq_true rfl) rfl ?_
      refine G_iload_n dX6_mix_53 rfl ?_
      refine G_bipush (v := 17) dX6_mix_54 (by decide) ?_
      refine G_iushr dX6_mix_56 ?_
      refine G_iload_n dX6_mix_57 rfl ?_
      refine G_bipush (v := 15) dX6_mix_58 (by decide) ?_
      refine G_ishl dX6_mix_60 ?_
      refine G_ior dX6_mix_61 ?_
      refine G_iload_n dX6_mix_62 rfl ?_
      refine G_bipush (v := 19) dX6_mix_63 (by decide) ?_
      refine G_iushr dX6_mix_65 ?_
      refine G_iload_n dX6_mix_66 rfl ?_
      refine G_bipush (v := 13) dX6_mix_67 (by decide) ?_
      refine G_ishl dX6_mix_69 ?_
      refine G_ior dX6_mix_70 ?_
      refine G_ixor dX6_mix_71 ?_
      refine G_iload_n dX6_mix_72 rfl ?_
      refine G_bipush (v := 10) dX6_mix_73 (by decide) ?_
      refine G_iushr dX6_mix_75 ?_
      refine G_ixor dX6_mix_76 ?_
      refine G_istore (L' := [_, _, _, _, _, _, _, _, _, _, _, _, _]) dX6_mix_77 (Nat.le_of_ble_eq_true rfl) rfl ?_
      refine G_aload_n dX6_mix_79 rfl ?_
      refine G_get (f := 1) kc7 dX6_mix_80 fX6_15 (by decide) rfl rfl ?_
      refine G_iload_n dX6_mix_83 rfl ?_
      refine G_aload_n dX6_mix_84 rfl ?_
      refine G_get (f := 1) kc7 dX6_mix_85 fX6_15 (by decide) rfl rfl ?_
      refine G_iload_n dX6_mix_88 rfl ?_
      refine G_bipush (v := 16) dX6_mix_89 (by decide) ?_
      refine G_isub dX6_mix_91 ?_
      refine G_ialdN (i - 16) dX6_mix_92 rfl (pk_sub (a := i) (b := 16) (by omega)) (by omega) (by omega) ?_
      refine G_iload dX6_mix_93 rfl ?_
      refine G_iadd dX6_mix_95 ?_
      refine G_aload_n dX6_mix_96 rfl ?_
      refine G_get (f := 1) kc7 dX6_mix_97 fX6_15 (by decide) rfl rfl ?_
      refine G_iload_n dX6_mix_100 rfl ?_
      refine G_bipush (v := 7) dX6_mix_101 (by decide) ?_
      refine G_isub dX6_mix_103 ?_
      refine G_ialdN (i - 7) dX6_mix_104 rfl (pk_sub (a := i) (b := 7) (by omega)) (by omega) (by omega) ?_
      refine G_iadd dX6_mix_105 ?_
      refine G_iload dX6_mix_106 rfl ?_
      refine G_iadd dX6_mix_108 ?_
      refine G_iastN (w' := [_, _, _]) i dX6_mix_109 rfl rfl (by omega) (by omega) rfl ?_
      refine G_iinc (L' := [_, _, _, _, _, _, _, _, _, _, _, _, _]) (v := nI (16 + (n + 1))) dX6_mix_110 rfl (by rw [← Nat.add_assoc, hi]; exact (nI_succ i).symm) rfl ?_
      refine G_goto (tgt := 3) dX6_mix_113 (by decide) ?_
      subst hi
      exact ih (48 - (n + 1)) (by omega) (n + 1) rfl _ _ _ _ _ _ _ _ _ _ _ (by omega)
  exact sched 0 _ _ _ _ _ _ _ _ _ _ _ (by omega)
