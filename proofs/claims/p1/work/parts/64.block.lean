/-! The reference: turned, block. -/
theorem con8_turned (d k : Nat) (h0 : 0 < k) (hk : k < 32) (x : Int32) : Con mX8_turned d 0 0 [] [.long (zx x), .int (nI k)] (fun w' v => w' = [] ∧ v = some (.long (zx (rr x (nI k) (nI (32 - k)))))) := by
  refine Con.of (ab_okc rfl (by decide)) (Nat.le_of_ble_eq_true rfl) ?_
  show G ab_x0 mX8_turned d 0 0 _ 0 [some (.long (zx x)), none, some (.int (nI k))] [] _
  refine G_lload_n dX8_turned_0 rfl ?_
  refine G_iload_n dX8_turned_1 rfl ?_
  refine G_lshr dX8_turned_2 ?_
  refine G_lload_n dX8_turned_3 rfl ?_
  refine G_bipush (v := 32) dX8_turned_4 (by decide) ?_
  refine G_iload_n dX8_turned_6 rfl ?_
  refine G_isub dX8_turned_7 ?_
  refine G_lshl dX8_turned_8 ?_
  refine G_lor dX8_turned_9 ?_
  refine G_ldc2 dX8_turned_10 kX8_206 ?_
  refine G_land dX8_turned_13 ?_
  refine G_topl (zx_turn x k h0 hk) ?_
  exact G_ret (v := some (.long _)) ⟨dX8_turned_14, rfl⟩ ⟨rfl, rfl⟩
/-- the first k bytes at b, as one number -/
def bvN (f : Nat → Int32) (b : Nat) : Nat → Nat
  | 0 => 0
  | k + 1 => 256 * bvN f b k + uw (f (b + k)) % 256
theorem bvN_lt (f : Nat → Int32) (b : Nat) : ∀ k, bvN f b k < 256 ^ k
  | 0 => Nat.zero_lt_one
  | k + 1 => by
    have := bvN_lt f b k
    rw [bvN, Nat.pow_succ]
    omega
theorem bvN_step (f : Nat → Int32) (b k : Nat) : 256 * lN (bvN f b k) + (f (b + k) &&& 255).toInt64 = lN (bvN f b (k + 1)) := by
  rw [pk_and (f (b + k)) (m := 255) 8 rfl, nI_l (Nat.lt_trans (Nat.mod_lt _ (by decide)) (by decide))]
  show lN 256 * _ + _ = _
  unfold lN
  rw [← Int64.ofNat_mul, ← Int64.ofNat_add]
  rfl
def beW (f : Nat → Int32) (fr t : Nat) : Int32 := nI (bvN f (fr + 4 * t) 4)
theorem beW_zx (f : Nat → Int32) (fr t : Nat) : lN (bvN f (fr + 4 * t) 4) = zx (beW f fr t) := by
  unfold zx beW uw
  rw [pk_tn (bvN_lt f (fr + 4 * t) 4)]
theorem wstep {wd : Nat → Int64} {S T : Nat → Int32} {i : Nat} (h1 : ∀ j, j < i → wd j = zx (S j + T j)) (h2 : ∀ j, i ≤ j → j < 8 → wd j = zx (S j)) : (∀ j, j < i + 1 → vp_updL wd i (zx (S i + T i)) j = zx (S j + T j)) ∧ ∀ j, i + 1 ≤ j → j < 8 → vp_updL wd i (zx (S i + T i)) j = zx (S j) := by
  refine ⟨fun j hj => ?_, fun j hj hj2 => ?_⟩
  · by_cases e : j = i
    · rw [e, pk_uLs]
    · rw [pk_uLn e]; exact h1 j (by omega)
  · rw [pk_uLn (by omega)]; exact h2 j (by omega) hj2
set_option maxRecDepth 20000 in
set_option maxHeartbeats 4000000 in
theorem con8_block (d fr : Nat) (hfr : fr + 64 ≤ 4400) (r : R8) (S : Nat → Int32) (hS : ∀ j, j < 8 → r.wd j = zx (S j)) : Con mX8_block (d + 1) 0 0 (w8 r) [.ref 100, .int (nI fr)] (fun w' v => ∃ r', w' = w8 r' ∧ v = none ∧ ∃ wd sc, r' = ((((((r.bl, r.co), (r.po, r.ha)), ((r.nw, r.gr), r.go)), (((r.tr, r.rw), r.nm), ((r.fm, r.oc), r.ds))), ((((r.ms, wd), (sc, r.sd)), ((r.ke, r.ro), r.hs)), (((r.gc, r.nb), r.fc), ((r.de, r.si), r.th)))) : R8) ∧ ∀ j, j < 8 → wd j = zx (mixS S (beW r.ms fr) j)) := by
  refine Con.of (ab_okc rfl (by decide)) (Nat.le_of_ble_eq_true rfl) ?_
  show G ab_x0 mX8_block (d + 1) 0 0 _ 0 [some (.ref 100), some (.int (nI fr)), none, none, none, none, none, none, none, none, none, none, none, none, none, none, none, none, none, none, none, none, none] [] _
  have rounds : ∀ (n i : Nat) (sc : Nat → Int64) (a b c e f g h j : Int32) (z19 z20 z21 z22 : Option Value), 64 - i = n → i ≤ 64 → (∀ q, q < 64 → sc q = zx (scN 48 (beW r.ms fr) q)) → rdN i (scN 48 (beW r.ms fr)) (ini S) = (a, b, c, e, f, g, h, j) → G ab_x0 mX8_block (d + 1) 0 0 (fun w' v => ∃ r', w' = w8 r' ∧ v = none ∧ ∃ wd sc, r' = ((((((r.bl, r.co), (r.po, r.ha)), ((r.nw, r.gr), r.go)), (((r.tr, r.rw), r.nm), ((r.fm, r.oc), r.ds))), ((((r.ms, wd), (sc, r.sd)), ((r.ke, r.ro), r.hs)), (((r.gc, r.nb), r.fc), ((r.de, r.si), r.th)))) : R8) ∧ ∀ j, j < 8 → wd j = zx (mixS S (beW r.ms fr) j)) 243 [some (.ref 100), some (.int (nI fr)), some (.long (zx a)), none, some (.long (zx b)), none, some (.long (zx c)), none, some (.long (zx e)), none, some (.long (zx f)), none, some (.long (zx g)), none, some (.long (zx h)), none, some (.long (zx j)), none, some (.int (nI i)), z19, z20, z21, z22] [] (w8 ((((((r.bl, r.co), (r.po, r.ha)), ((r.nw, r.gr), r.go)), (((r.tr, r.rw), r.nm), ((r.fm, r.oc), r.ds))), ((((r.ms, r.wd), (sc, r.sd)), ((r.ke, r.ro), r.hs)), (((r.gc, r.nb), r.fc), ((r.de, r.si), r.th)))) : R8)) := by
    intro n
    induction n using Nat.strongRecOn with
    | ind n ih =>
      intro i sc a b c e f g h j z19 z20 z21 z22 hn hi hsc hr
      refine G_iload dX8_block_243 rfl ?_
      refine G_bipush (v := 64) dX8_block_245 (by decide) ?_
      refine G_icmp_geN (tgt := 397) i 64 dX8_block_247 (by decide) rfl rfl (by omega) (by omega) (fun hge => ?_) (fun hlt => ?_)
      · have e64 : i = 64 := by omega
        subst e64
        obtain ⟨wd0, hwd0⟩ : ∃ z, z = r.wd := ⟨_, rfl⟩
        refine G_w (st' := []) (w' := w8 ((((((r.bl, r.co), (r.po, r.ha)), ((r.nw, r.gr), r.go)), (((r.tr, r.rw), r.nm), ((r.fm, r.oc), r.ds))), ((((r.ms, wd0), (sc, r.sd)), ((r.ke, r.ro), r.hs)), (((r.gc, r.nb), r.fc), ((r.de, r.si), r.th)))) : R8)) rfl (by rw [hwd0]) ?_
        have h0a : ∀ q, q < 0 → wd0 q = zx (S q + s8 (a, b, c, e, f, g, h, j) q) := fun q hq => by omega
        have h0b : ∀ q, 0 ≤ q → q < 8 → wd0 q = zx (S q) := fun q _ hq => by rw [hwd0]; exact hS q hq
        refine G_aload_n dX8_block_397 rfl ?_
        refine G_get (f := 23) kc9 dX8_block_398 fX8_189 (by decide) rfl rfl ?_
        refine G_iconst (v := 0) dX8_block_401 (by decide) ?_
        refine G_aload_n dX8_block_402 rfl ?_
        refine G_get (f := 23) kc9 dX8_block_403 fX8_189 (by decide) rfl rfl ?_
        refine G_iconst (v := 0) dX8_block_406 (by decide) ?_
        refine G_laldN (0) dX8_block_407 rfl rfl (by decide) (by decide) ?_
        refine G_topl (y := zx (S 0)) (h0b 0 (by omega) (by omega)) ?_
        refine G_lload_n dX8_block_408 rfl ?_
        refine G_ladd dX8_block_409 ?_
        refine G_ldc2 dX8_block_410 kX8_206 ?_
        refine G_land dX8_block_413 ?_
        refine G_topl (y := zx (S 0 + a)) ((and_low _).trans (congrArg zx (low_add (zx_t _) (zx_t _)))) ?_
        refine G_lastN (w' := w8 ((((((r.bl, r.co), (r.po, r.ha)), ((r.nw, r.gr), r.go)), (((r.tr, r.rw), r.nm), ((r.fm, r.oc), r.ds))), ((((r.ms, vp_updL wd0 0 (zx (S 0 + a))), (sc, r.sd)), ((r.ke, r.ro), r.hs)), (((r.gc, r.nb), r.fc), ((r.de, r.si), r.th)))) : R8)) (0) dX8_block_414 rfl rfl (by decide) (by decide) rfl ?_
        obtain ⟨h1a, h1b⟩ := wstep (S := S) (T := s8 (a, b, c, e, f, g, h, j)) h0a h0b
        replace h1a : ∀ q, q < 1 → vp_updL wd0 0 (zx (S 0 + a)) q = zx (S q + s8 (a, b, c, e, f, g, h, j) q) := h1a
        replace h1b : ∀ q, 1 ≤ q → q < 8 → vp_updL wd0 0 (zx (S 0 + a)) q = zx (S q) := h1b
        generalize vp_updL wd0 0 (zx (S 0 + a)) = wd1 at h1a h1b ⊢
        refine G_aload_n dX8_block_415 rfl ?_
        refine G_get (f := 23) kc9 dX8_block_416 fX8_189 (by decide) rfl rfl ?_
        refine G_iconst (v := 1) dX8_block_419 (by decide) ?_
        refine G_aload_n dX8_block_420 rfl ?_
        refine G_get (f := 23) kc9 dX8_block_421 fX8_189 (by decide) rfl rfl ?_
        refine G_iconst (v := 1) dX8_block_424 (by decide) ?_
        refine G_laldN (1) dX8_block_425 rfl rfl (by decide) (by decide) ?_
        refine G_topl (y := zx (S 1)) (h1b 1 (by omega) (by omega)) ?_
        refine G_lload dX8_block_426 rfl ?_
        refine G_ladd dX8_block_428 ?_
        refine G_ldc2 dX8_block_429 kX8_206 ?_
        refine G_land dX8_block_432 ?_
        refine G_topl (y := zx (S 1 + b)) ((and_low _).trans (congrArg zx (low_add (zx_t _) (zx_t _)))) ?_
        refine G_lastN (w' := w8 ((((((r.bl, r.co), (r.po, r.ha)), ((r.nw, r.gr), r.go)), (((r.tr, r.rw), r.nm), ((r.fm, r.oc), r.ds))), ((((r.ms, vp_updL wd1 1 (zx (S 1 + b))), (sc, r.sd)), ((r.ke, r.ro), r.hs)), (((r.gc, r.nb), r.fc), ((r.de, r.si), r.th)))) : R8)) (1) dX8_block_433 rfl rfl (by decide) (by decide) rfl ?_
        obtain ⟨h2a, h2b⟩ := wstep (S := S) (T := s8 (a, b, c, e, f, g, h, j)) h1a h1b
        replace h2a : ∀ q, q < 2 → vp_updL wd1 1 (zx (S 1 + b)) q = zx (S q + s8 (a, b, c, e, f, g, h, j) q) := h2a
        replace h2b : ∀ q, 2 ≤ q → q < 8 → vp_updL wd1 1 (zx (S 1 + b)) q = zx (S q) := h2b
        generalize vp_updL wd1 1 (zx (S 1 + b)) = wd2 at h2a h2b ⊢
        refine G_aload_n dX8_block_434 rfl ?_
        refine G_get (f := 23) kc9 dX8_block_435 fX8_189 (by decide) rfl rfl ?_
        refine G_iconst (v := 2) dX8_block_438 (by decide) ?_
        refine G_aload_n dX8_block_439 rfl ?_
        refine G_get (f := 23) kc9 dX8_block_440 fX8_189 (by decide) rfl rfl ?_
        refine G_iconst (v := 2) dX8_block_443 (by decide) ?_
        refine G_laldN (2) dX8_block_444 rfl rfl (by decide) (by decide) ?_
        refine G_topl (y := zx (S 2)) (h2b 2 (by omega) (by omega)) ?_
        refine G_lload dX8_block_445 rfl ?_
        refine G_ladd dX8_block_447 ?_
        refine G_ldc2 dX8_block_448 kX8_206 ?_
        refine G_land dX8_block_451 ?_
        refine G_topl (y := zx (S 2 + c)) ((and_low _).trans (congrArg zx (low_add (zx_t _) (zx_t _)))) ?_
        refine G_lastN (w' := w8 ((((((r.bl, r.co), (r.po, r.ha)), ((r.nw, r.gr), r.go)), (((r.tr, r.rw), r.nm), ((r.fm, r.oc), r.ds))), ((((r.ms, vp_updL wd2 2 (zx (S 2 + c))), (sc, r.sd)), ((r.ke, r.ro), r.hs)), (((r.gc, r.nb), r.fc), ((r.de, r.si), r.th)))) : R8)) (2) dX8_block_452 rfl rfl (by decide) (by decide) rfl ?_
        obtain ⟨h3a, h3b⟩ := wstep (S := S) (T := s8 (a, b, c, e, f, g, h, j)) h2a h2b
        replace h3a : ∀ q, q < 3 → vp_updL wd2 2 (zx (S 2 + c)) q = zx (S q + s8 (a, b, c, e, f, g, h, j) q) := h3a
        replace h3b : ∀ q, 3 ≤ q → q < 8 → vp_updL wd2 2 (zx (S 2 + c)) q = zx (S q) := h3b
        generalize vp_updL wd2 2 (zx (S 2 + c)) = wd3 at h3a h3b ⊢
        refine G_aload_n dX8_block_453 rfl ?_
        refine G_get (f := 23) kc9 dX8_block_454 fX8_189 (by decide) rfl rfl ?_
        refine G_iconst (v := 3) dX8_block_457 (by decide) ?_
        refine G_aload_n dX8_block_458 rfl ?_
        refine G_get (f := 23) kc9 dX8_block_459 fX8_189 (by decide) rfl rfl ?_
        refine G_iconst (v := 3) dX8_block_462 (by decide) ?_
        refine G_laldN (3) dX8_block_463 rfl rfl (by decide) (by decide) ?_
        refine G_topl (y := zx (S 3)) (h3b 3 (by omega) (by omega)) ?_
        refine G_lload dX8_block_464 rfl ?_
        refine G_ladd dX8_block_466 ?_
        refine G_ldc2 dX8_block_467 kX8_206 ?_
        refine G_land dX8_block_470 ?_
        refine G_topl (y := zx (S 3 + e)) ((and_low _).trans (congrArg zx (low_add (zx_t _) (zx_t _)))) ?_
        refine G_lastN (w' := w8 ((((((r.bl, r.co), (r.po, r.ha)), ((r.nw, r.gr), r.go)), (((r.tr, r.rw), r.nm), ((r.fm, r.oc), r.ds))), ((((r.ms, vp_updL wd3 3 (zx (S 3 + e))), (sc, r.sd)), ((r.ke, r.ro), r.hs)), (((r.gc, r.nb), r.fc), ((r.de, r.si), r.th)))) : R8)) (3) dX8_block_471 rfl rfl (by decide) (by decide) rfl ?_
        obtain ⟨h4a, h4b⟩ := wstep (S := S) (T := s8 (a, b, c, e, f, g, h, j)) h3a h3b
        replace h4a : ∀ q, q < 4 → vp_updL wd3 3 (zx (S 3 + e)) q = zx (S q + s8 (a, b, c, e, f, g, h, j) q) := h4a
        replace h4b : ∀ q, 4 ≤ q → q < 8 → vp_updL wd3 3 (zx (S 3 + e)) q = zx (S q) := h4b
        generalize vp_updL wd3 3 (zx (S 3 + e)) = wd4 at h4a h4b ⊢
        refine G_aload_n dX8_block_472 rfl ?_
        refine G_get (f := 23) kc9 dX8_block_473 fX8_189 (by decide) rfl rfl ?_
        refine G_iconst (v := 4) dX8_block_476 (by decide) ?_
        refine G_aload_n dX8_block_477 rfl ?_
        refine G_get (f := 23) kc9 dX8_block_478 fX8_189 (by decide) rfl rfl ?_
        refine G_iconst (v := 4) dX8_block_481 (by decide) ?_
        refine G_laldN (4) dX8_block_482 rfl rfl (by decide) (by decide) ?_
        refine G_topl (y := zx (S 4)) (h4b 4 (by omega) (by omega)) ?_
        refine G_lload dX8_block_483 rfl ?_
        refine G_ladd dX8_block_485 ?_
        refine G_ldc2 dX8_block_486 kX8_206 ?_
        refine G_land dX8_block_489 ?_
        refine G_topl (y := zx (S 4 + f)) ((and_low _).trans (congrArg zx (low_add (zx_t _) (zx_t _)))) ?_
        refine G_lastN (w' := w8 ((((((r.bl, r.co), (r.po, r.ha)), ((r.nw, r.gr), r.go)), (((r.tr, r.rw), r.nm), ((r.fm, r.oc), r.ds))), ((((r.ms, vp_updL wd4 4 (zx (S 4 + f))), (sc, r.sd)), ((r.ke, r.ro), r.hs)), (((r.gc, r.nb), r.fc), ((r.de, r.si), r.th)))) : R8)) (4) dX8_block_490 rfl rfl (by decide) (by decide) rfl ?_
        obtain ⟨h5a, h5b⟩ := wstep (S := S) (T := s8 (a, b, c, e, f, g, h, j)) h4a h4b
        replace h5a : ∀ q, q < 5 → vp_updL wd4 4 (zx (S 4 + f)) q = zx (S q + s8 (a, b, c, e, f, g, h, j) q) := h5a
        replace h5b : ∀ q, 5 ≤ q → q < 8 → vp_updL wd4 4 (zx (S 4 + f)) q = zx (S q) := h5b
        generalize vp_updL wd4 4 (zx (S 4 + f)) = wd5 at h5a h5b ⊢
        refine G_aload_n dX8_block_491 rfl ?_
        refine G_get (f := 23) kc9 dX8_block_492 fX8_189 (by decide) rfl rfl ?_
        refine G_iconst (v := 5) dX8_block_495 (by decide) ?_
        refine G_aload_n dX8_block_496 rfl ?_
        refine G_get (f := 23) kc9 dX8_block_497 fX8_189 (by decide) rfl rfl ?_
        refine G_iconst (v := 5) dX8_block_500 (by decide) ?_
        refine G_laldN (5) dX8_block_501 rfl rfl (by decide) (by decide) ?_
        refine G_topl (y := zx (S 5)) (h5b 5 (by omega) (by omega)) ?_
        refine G_lload dX8_block_502 rfl ?_
        refine G_ladd dX8_block_504 ?_
        refine G_ldc2 dX8_block_505 kX8_206 ?_
        refine G_land dX8_block_508 ?_
        refine G_topl (y := zx (S 5 + g)) ((and_low _).trans (congrArg zx (low_add (zx_t _) (zx_t _)))) ?_
        refine G_lastN (w' := w8 ((((((r.bl, r.co), (r.po, r.ha)), ((r.nw, r.gr), r.go)), (((r.tr, r.rw), r.nm), ((r.fm, r.oc), r.ds))), ((((r.ms, vp_updL wd5 5 (zx (S 5 + g))), (sc, r.sd)), ((r.ke, r.ro), r.hs)), (((r.gc, r.nb), r.fc), ((r.de, r.si), r.th)))) : R8)) (5) dX8_block_509 rfl rfl (by decide) (by decide) rfl ?_
        obtain ⟨h6a, h6b⟩ := wstep (S := S) (T := s8 (a, b, c, e, f, g, h, j)) h5a h5b
        replace h6a : ∀ q, q < 6 → vp_updL wd5 5 (zx (S 5 + g)) q = zx (S q + s8 (a, b, c, e, f, g, h, j) q) := h6a
        replace h6b : ∀ q, 6 ≤ q → q < 8 → vp_updL wd5 5 (zx (S 5 + g)) q = zx (S q) := h6b
        generalize vp_updL wd5 5 (zx (S 5 + g)) = wd6 at h6a h6b ⊢
        refine G_aload_n dX8_block_510 rfl ?_
        refine G_get (f := 23) kc9 dX8_block_511 fX8_189 (by decide) rfl rfl ?_
        refine G_bipush (v := 6) dX8_block_514 (by decide) ?_
        refine G_aload_n dX8_block_516 rfl ?_
        refine G_get (f := 23) kc9 dX8_block_517 fX8_189 (by decide) rfl rfl ?_
        refine G_bipush (v := 6) dX8_block_520 (by decide) ?_
        refine G_laldN (6) dX8_block_522 rfl rfl (by decide) (by decide) ?_
        refine G_topl (y := zx (S 6)) (h6b 6 (by omega) (by omega)) ?_
        refine G_lload dX8_block_523 rfl ?_
        refine G_ladd dX8_block_525 ?_
        refine G_ldc2 dX8_block_526 kX8_206 ?_
        refine G_land dX8_block_529 ?_
        refine G_topl (y := zx (S 6 + h)) ((and_low _).trans (congrArg zx (low_add (zx_t _) (zx_t _)))) ?_
        refine G_lastN (w' := w8 ((((((r.bl, r.co), (r.po, r.ha)), ((r.nw, r.gr), r.go)), (((r.tr, r.rw), r.nm), ((r.fm, r.oc), r.ds))), ((((r.ms, vp_updL wd6 6 (zx (S 6 + h))), (sc, r.sd)), ((r.ke, r.ro), r.hs)), (((r.gc, r.nb), r.fc), ((r.de, r.si), r.th)))) : R8)) (6) dX8_block_530 rfl rfl (by decide) (by decide) rfl ?_
        obtain ⟨h7a, h7b⟩ := wstep (S := S) (T := s8 (a, b, c, e, f, g, h, j)) h6a h6b
        replace h7a : ∀ q, q < 7 → vp_updL wd6 6 (zx (S 6 + h)) q = zx (S q + s8 (a, b, c, e, f, g, h, j) q) := h7a
        replace h7b : ∀ q, 7 ≤ q → q < 8 → vp_updL wd6 6 (zx (S 6 + h)) q = zx (S q) := h7b
        generalize vp_updL wd6 6 (zx (S 6 + h)) = wd7 at h7a h7b ⊢
        refine G_aload_n dX8_block_531 rfl ?_
        refine G_get (f := 23) kc9 dX8_block_532 fX8_189 (by decide) rfl rfl ?_
        refine G_bipush (v := 7) dX8_block_535 (by decide) ?_
        refine G_aload_n dX8_block_537 rfl ?_
        refine G_get (f := 23) kc9 dX8_block_538 fX8_189 (by decide) rfl rfl ?_
        refine G_bipush (v := 7) dX8_block_541 (by decide) ?_
        refine G_laldN (7) dX8_block_543 rfl rfl (by decide) (by decide) ?_
        refine G_topl (y := zx (S 7)) (h7b 7 (by omega) (by omega)) ?_
        refine G_lload dX8_block_544 rfl ?_
        refine G_ladd dX8_block_546 ?_
        refine G_ldc2 dX8_block_547 kX8_206 ?_
        refine G_land dX8_block_550 ?_
        refine G_topl (y := zx (S 7 + j)) ((and_low _).trans (congrArg zx (low_add (zx_t _) (zx_t _)))) ?_
        refine G_lastN (w' := w8 ((((((r.bl, r.co), (r.po, r.ha)), ((r.nw, r.gr), r.go)), (((r.tr, r.rw), r.nm), ((r.fm, r.oc), r.ds))), ((((r.ms, vp_updL wd7 7 (zx (S 7 + j))), (sc, r.sd)), ((r.ke, r.ro), r.hs)), (((r.gc, r.nb), r.fc), ((r.de, r.si), r.th)))) : R8)) (7) dX8_block_551 rfl rfl (by decide) (by decide) rfl ?_
        obtain ⟨h8a, h8b⟩ := wstep (S := S) (T := s8 (a, b, c, e, f, g, h, j)) h7a h7b
        replace h8a : ∀ q, q < 8 → vp_updL wd7 7 (zx (S 7 + j)) q = zx (S q + s8 (a, b, c, e, f, g, h, j) q) := h8a
        replace h8b : ∀ q, 8 ≤ q → q < 8 → vp_updL wd7 7 (zx (S 7 + j)) q = zx (S q) := h8b
        generalize vp_updL wd7 7 (zx (S 7 + j)) = wd8 at h8a h8b ⊢
        refine G_ret (v := none) ⟨dX8_block_552, rfl⟩ ⟨_, rfl, rfl, wd8, sc, rfl, fun q hq => ?_⟩
        rw [h8a q hq]
        unfold mixS
        rw [hr, add8_s8 _ _ hq]
      refine G_lload dX8_block_250 rfl ?_
      refine G_lload dX8_block_252 rfl ?_
      refine G_bipush (v := 6) dX8_block_254 (by decide) ?_
      refine G_S (is := []) (fo := []) (as := [.long (zx (f)), .int (nI 6)]) (as' := [.long (zx (f)), .int (nI 6)]) (st := [.long (zx (j))]) (k := 0) (n := 0) cX8_block_256 (con8_turned _ 6 (by decide) (by decide) (f)) ab_pfx rfl (by decide) rfl rfl rfl rfl (Nat.le_of_ble_eq_true rfl) dX8_block_256 (fun w' v h => by rw [h.1]) (fun w2 v2 hq => ?_)
      obtain ⟨rfl, rfl⟩ := hq
      refine G_w (st' := [.long (zx (rr (f) 6 26)), .long (zx (j))]) (w' := w8 ((((((r.bl, r.co), (r.po, r.ha)), ((r.nw, r.gr), r.go)), (((r.tr, r.rw), r.nm), ((r.fm, r.oc), r.ds))), ((((r.ms, r.wd), (sc, r.sd)), ((r.ke, r.ro), r.hs)), (((r.gc, r.nb), r.fc), ((r.de, r.si), r.th)))) : R8)) rfl rfl ?_
      refine G_lload dX8_block_259 rfl ?_
      refine G_bipush (v := 11) dX8_block_261 (by decide) ?_
      refine G_S (is := []) (fo := []) (as := [.long (zx (f)), .int (nI 11)]) (as' := [.long (zx (f)), .int (nI 11)]) (st := [.long (zx (rr (f) 6 26)), .long (zx (j))]) (k := 0) (n := 0) cX8_block_263 (con8_turned _ 11 (by decide) (by decide) (f)) ab_pfx rfl (by decide) rfl rfl rfl rfl (Nat.le_of_ble_eq_true rfl) dX8_block_263 (fun w' v h => by rw [h.1]) (fun w2 v2 hq => ?_)
      obtain ⟨rfl, rfl⟩ := hq
      refine G_w (st' := [.long (zx (rr (f) 11 21)), .long (zx (rr (f) 6 26)), .long (zx (j))]) (w' := w8 ((((((r.bl, r.co), (r.po, r.ha)), ((r.nw, r.gr), r.go)), (((r.tr, r.rw), r.nm), ((r.fm, r.oc), r.ds))), ((((r.ms, r.wd), (sc, r.sd)), ((r.ke, r.ro), r.hs)), (((r.gc, r.nb), r.fc), ((r.de, r.si), r.th)))) : R8)) rfl rfl ?_
      refine G_lxor dX8_block_266 ?_
      refine G_topl (y := zx (rr (f) 6 26 ^^^ rr (f) 11 21)) (zx_xor _ _) ?_
      refine G_lload dX8_block_267 rfl ?_
      refine G_bipush (v := 25) dX8_block_269 (by decide) ?_
      refine G_S (is := []) (fo := []) (as := [.long (zx (f)), .int (nI 25)]) (as' := [.long (zx (f)), .int (nI 25)]) (st := [.long (zx (rr (f) 6 26 ^^^ rr (f) 11 21)), .long (zx (j))]) (k := 0) (n := 0) cX8_block_271 (con8_turned _ 25 (by decide) (by decide) (f)) ab_pfx rfl (by decide) rfl rfl rfl rfl (Nat.le_of_ble_eq_true rfl) dX8_block_271 (fun w' v h => by rw [h.1]) (fun w2 v2 hq => ?_)
      obtain ⟨rfl, rfl⟩ := hq
      refine G_w (st' := [.long (zx (rr (f) 25 7)), .long (zx (rr (f) 6 26 ^^^ rr (f) 11 21)), .long (zx (j))]) (w' := w8 ((((((r.bl, r.co), (r.po, r.ha)), ((r.nw, r.gr), r.go)), (((r.tr, r.rw), r.nm), ((r.fm, r.oc), r.ds))), ((((r.ms, r.wd), (sc, r.sd)), ((r.ke, r.ro), r.hs)), (((r.gc, r.nb), r.fc), ((r.de, r.si), r.th)))) : R8)) rfl rfl ?_
      refine G_lxor dX8_block_274 ?_
      refine G_topl (y := zx (rr (f) 6 26 ^^^ rr (f) 11 21 ^^^ rr (f) 25 7)) (zx_xor _ _) ?_
      refine G_ladd dX8_block_275 ?_
      refine G_lload dX8_block_276 rfl ?_
      refine G_lload dX8_block_278 rfl ?_
      refine G_land dX8_block_280 ?_
      refine G_topl (y := zx ((f) &&& (g))) (zx_and _ _) ?_
      refine G_ldc2 dX8_block_281 kX8_206 ?_
      refine G_lload dX8_block_284 rfl ?_
      refine G_lsub dX8_block_286 ?_
      refine G_topl (y := zx ((f) ^^^ (-1))) (zx_not _) ?_
      refine G_lload dX8_block_287 rfl ?_
      refine G_land dX8_block_289 ?_
      refine G_topl (y := zx (((f) ^^^ (-1)) &&& (h))) (zx_and _ _) ?_
      refine G_lxor dX8_block_290 ?_
      refine G_topl (y := zx (((f) &&& (g)) ^^^ (((f) ^^^ (-1)) &&& (h)))) (zx_xor _ _) ?_
      refine G_ladd dX8_block_291 ?_
      refine G_aload_n dX8_block_292 rfl ?_
      refine G_get (f := 0) kc9 dX8_block_293 fX8_141 (by decide) rfl rfl ?_
      refine G_iload dX8_block_296 rfl ?_
      refine G_laldN (i) dX8_block_298 rfl rfl (by omega) (by decide) ?_
      refine G_topl (y := zx (ab_l ab_steps i)) rfl ?_
      refine G_ladd dX8_block_299 ?_
      refine G_aload_n dX8_block_300 rfl ?_
      refine G_get (f := 24) kc9 dX8_block_301 fX8_192 (by decide) rfl rfl ?_
      refine G_iload dX8_block_304 rfl ?_
      refine G_laldN (i) dX8_block_306 rfl rfl (by omega) (by decide) ?_
      refine G_topl (y := zx (scN 48 (beW r.ms fr) i)) (hsc i hlt) ?_
      refine G_ladd dX8_block_307 ?_
      refine G_lstore (L' := [_, _, _, _, _, _, _, _, _, _, _, _, _, _, _, _, _, _, _, _, _, _, _]) dX8_block_308 (Nat.le_of_ble_eq_true rfl) rfl ?_
      refine G_lload_n dX8_block_310 rfl ?_
      refine G_iconst (v := 2) dX8_block_311 (by decide) ?_
      refine G_S (is := []) (fo := []) (as := [.long (zx (a)), .int (nI 2)]) (as' := [.long (zx (a)), .int (nI 2)]) (st := []) (k := 0) (n := 0) cX8_block_312 (con8_turned _ 2 (by decide) (by decide) (a)) ab_pfx rfl (by decide) rfl rfl rfl rfl (Nat.le_of_ble_eq_true rfl) dX8_block_312 (fun w' v h => by rw [h.1]) (fun w2 v2 hq => ?_)
      obtain ⟨rfl, rfl⟩ := hq
      refine G_w (st' := [.long (zx (rr (a) 2 30))]) (w' := w8 ((((((r.bl, r.co), (r.po, r.ha)), ((r.nw, r.gr), r.go)), (((r.tr, r.rw), r.nm), ((r.fm, r.oc), r.ds))), ((((r.ms, r.wd), (sc, r.sd)), ((r.ke, r.ro), r.hs)), (((r.gc, r.nb), r.fc), ((r.de, r.si), r.th)))) : R8)) rfl rfl ?_
      refine G_lload_n dX8_block_315 rfl ?_
      refine G_bipush (v := 13) dX8_block_316 (by decide) ?_
      refine G_S (is := []) (fo := []) (as := [.long (zx (a)), .int (nI 13)]) (as' := [.long (zx (a)), .int (nI 13)]) (st := [.long (zx (rr (a) 2 30))]) (k := 0) (n := 0) cX8_block_318 (con8_turned _ 13 (by decide) (by decide) (a)) ab_pfx rfl (by decide) rfl rfl rfl rfl (Nat.le_of_ble_eq_true rfl) dX8_block_318 (fun w' v h => by rw [h.1]) (fun w2 v2 hq => ?_)
      obtain ⟨rfl, rfl⟩ := hq
      refine G_w (st' := [.long (zx (rr (a) 13 19)), .long (zx (rr (a) 2 30))]) (w' := w8 ((((((r.bl, r.co), (r.po, r.ha)), ((r.nw, r.gr), r.go)), (((r.tr, r.rw), r.nm), ((r.fm, r.oc), r.ds))), ((((r.ms, r.wd), (sc, r.sd)), ((r.ke, r.ro), r.hs)), (((r.gc, r.nb), r.fc), ((r.de, r.si), r.th)))) : R8)) rfl rfl ?_
      refine G_lxor dX8_block_321 ?_
      refine G_topl (y := zx (rr (a) 2 30 ^^^ rr (a) 13 19)) (zx_xor _ _) ?_
      refine G_lload_n dX8_block_322 rfl ?_
      refine G_bipush (v := 22) dX8_block_323 (by decide) ?_
      refine G_S (is := []) (fo := []) (as := [.long (zx (a)), .int (nI 22)]) (as' := [.long (zx (a)), .int (nI 22)]) (st := [.long (zx (rr (a) 2 30 ^^^ rr (a) 13 19))]) (k := 0) (n := 0) cX8_block_325 (con8_turned _ 22 (by decide) (by decide) (a)) ab_pfx rfl (by decide) rfl rfl rfl rfl (Nat.le_of_ble_eq_true rfl) dX8_block_325 (fun w' v h => by rw [h.1]) (fun w2 v2 hq => ?_)
      obtain ⟨rfl, rfl⟩ := hq
      refine G_w (st' := [.long (zx (rr (a) 22 10)), .long (zx (rr (a) 2 30 ^^^ rr (a) 13 19))]) (w' := w8 ((((((r.bl, r.co), (r.po, r.ha)), ((r.nw, r.gr), r.go)), (((r.tr, r.rw), r.nm), ((r.fm, r.oc), r.ds))), ((((r.ms, r.wd), (sc, r.sd)), ((r.ke, r.ro), r.hs)), (((r.gc, r.nb), r.fc), ((r.de, r.si), r.th)))) : R8)) rfl rfl ?_
      refine G_lxor dX8_block_328 ?_
      refine G_topl (y := zx (rr (a) 2 30 ^^^ rr (a) 13 19 ^^^ rr (a) 22 10)) (zx_xor _ _) ?_
      refine G_lload_n dX8_block_329 rfl ?_
      refine G_lload dX8_block_330 rfl ?_
      refine G_land dX8_block_332 ?_
      refine G_topl (y := zx ((a) &&& (b))) (zx_and _ _) ?_
      refine G_lload_n dX8_block_333 rfl ?_
      refine G_lload dX8_block_334 rfl ?_
      refine G_land dX8_block_336 ?_
      refine G_topl (y := zx ((a) &&& (c))) (zx_and _ _) ?_
      refine G_lxor dX8_block_337 ?_
      refine G_topl (y := zx (((a) &&& (b)) ^^^ ((a) &&& (c)))) (zx_xor _ _) ?_
      refine G_lload dX8_block_338 rfl ?_
      refine G_lload dX8_block_340 rfl ?_
      refine G_land dX8_block_342 ?_
      refine G_topl (y := zx ((b) &&& (c))) (zx_and _ _) ?_
      refine G_lxor dX8_block_343 ?_
      refine G_topl (y := zx (((a) &&& (b)) ^^^ ((a) &&& (c)) ^^^ (b) &&& (c))) (zx_xor _ _) ?_
      refine G_ladd dX8_block_344 ?_
      refine G_lstore (L' := [_, _, _, _, _, _, _, _, _, _, _, _, _, _, _, _, _, _, _, _, _, _, _]) dX8_block_345 (Nat.le_of_ble_eq_true rfl) rfl ?_
      refine G_lload dX8_block_347 rfl ?_
      refine G_lstore (L' := [_, _, _, _, _, _, _, _, _, _, _, _, _, _, _, _, _, _, _, _, _, _, _]) dX8_block_349 (Nat.le_of_ble_eq_true rfl) rfl ?_
      refine G_lload dX8_block_351 rfl ?_
      refine G_lstore (L' := [_, _, _, _, _, _, _, _, _, _, _, _, _, _, _, _, _, _, _, _, _, _, _]) dX8_block_353 (Nat.le_of_ble_eq_true rfl) rfl ?_
      refine G_lload dX8_block_355 rfl ?_
      refine G_lstore (L' := [_, _, _, _, _, _, _, _, _, _, _, _, _, _, _, _, _, _, _, _, _, _, _]) dX8_block_357 (Nat.le_of_ble_eq_true rfl) rfl ?_
      refine G_lload dX8_block_359 rfl ?_
      refine G_lload dX8_block_361 rfl ?_
      refine G_ladd dX8_block_363 ?_
      refine G_ldc2 dX8_block_364 kX8_206 ?_
      refine G_land dX8_block_367 ?_
      refine G_topl (y := zx ((e) + (((((j) + (rr (f) 6 26 ^^^ rr (f) 11 21 ^^^ rr (f) 25 7)) + (((f) &&& (g)) ^^^ (((f) ^^^ (-1)) &&& (h)))) + (ab_l ab_steps i)) + (scN 48 (beW r.ms fr) i)))) ((and_low _).trans (congrArg zx (low_add (zx_t _) (low_add (low_add (low_add (low_add (zx_t _) (zx_t _)) (zx_t _)) (zx_t _)) (zx_t _))))) ?_
      refine G_lstore (L' := [_, _, _, _, _, _, _, _, _, _, _, _, _, _, _, _, _, _, _, _, _, _, _]) dX8_block_368 (Nat.le_of_ble_eq_true rfl) rfl ?_
      refine G_lload dX8_block_370 rfl ?_
      refine G_lstore (L' := [_, _, _, _, _, _, _, _, _, _, _, _, _, _, _, _, _, _, _, _, _, _, _]) dX8_block_372 (Nat.le_of_ble_eq_true rfl) rfl ?_
      refine G_lload dX8_block_374 rfl ?_
      refine G_lstore (L' := [_, _, _, _, _, _, _, _, _, _, _, _, _, _, _, _, _, _, _, _, _, _, _]) dX8_block_376 (Nat.le_of_ble_eq_true rfl) rfl ?_
      refine G_lload_n dX8_block_378 rfl ?_
      refine G_lstore (L' := [_, _, _, _, _, _, _, _, _, _, _, _, _, _, _, _, _, _, _, _, _, _, _]) dX8_block_379 (Nat.le_of_ble_eq_true rfl) rfl ?_
      refine G_lload dX8_block_381 rfl ?_
      refine G_lload dX8_block_383 rfl ?_
      refine G_ladd dX8_block_385 ?_
      refine G_ldc2 dX8_block_386 kX8_206 ?_
      refine G_land dX8_block_389 ?_
      refine G_topl (y := zx ((((((j) + (rr (f) 6 26 ^^^ rr (f) 11 21 ^^^ rr (f) 25 7)) + (((f) &&& (g)) ^^^ (((f) ^^^ (-1)) &&& (h)))) + (ab_l ab_steps i)) + (scN 48 (beW r.ms fr) i)) + ((rr (a) 2 30 ^^^ rr (a) 13 19 ^^^ rr (a) 22 10) + (((a) &&& (b)) ^^^ ((a) &&& (c)) ^^^ (b) &&& (c))))) ((and_low _).trans (congrArg zx (low_add (low_add (low_add (low_add (low_add (zx_t _) (zx_t _)) (zx_t _)) (zx_t _)) (zx_t _)) (low_add (zx_t _) (zx_t _))))) ?_
      refine G_lstore_n (L' := [_, _, _, _, _, _, _, _, _, _, _, _, _, _, _, _, _, _, _, _, _, _, _]) dX8_block_390 (Nat.le_of_ble_eq_true rfl) rfl ?_
      refine G_iinc (L' := [_, _, _, _, _, _, _, _, _, _, _, _, _, _, _, _, _, _, _, _, _, _, _]) (v := nI (i + 1)) dX8_block_391 rfl (nI_1 i) rfl ?_
      refine G_goto (tgt := 243) dX8_block_394 (by decide) ?_
      refine ih (64 - (i + 1)) (by omega) (i + 1) sc _ _ _ _ _ _ _ _ _ _ _ _ rfl (by omega) hsc ?_
      show rd _ _ (rdN i (scN 48 (beW r.ms fr)) (ini S)) = _
      rw [hr]
      rfl
  have sched : ∀ (n m : Nat) (sc : Nat → Int64) (z3 z4 z5 z6 z7 z8 z9 z10 z11 z12 z13 z14 z15 z16 z17 z18 z19 z20 z21 z22 : Option Value), 48 - m = n → m ≤ 48 → (∀ q, q < 16 + m → sc q = zx (scN m (beW r.ms fr) q)) → G ab_x0 mX8_block (d + 1) 0 0 (fun w' v => ∃ r', w' = w8 r' ∧ v = none ∧ ∃ wd sc, r' = ((((((r.bl, r.co), (r.po, r.ha)), ((r.nw, r.gr), r.go)), (((r.tr, r.rw), r.nm), ((r.fm, r.oc), r.ds))), ((((r.ms, wd), (sc, r.sd)), ((r.ke, r.ro), r.hs)), (((r.gc, r.nb), r.fc), ((r.de, r.si), r.th)))) : R8) ∧ ∀ j, j < 8 → wd j = zx (mixS S (beW r.ms fr) j)) 66 [some (.ref 100), some (.int (nI fr)), some (.int (nI (16 + m))), z3, z4, z5, z6, z7, z8, z9, z10, z11, z12, z13, z14, z15, z16, z17, z18, z19, z20, z21, z22] [] (w8 ((((((r.bl, r.co), (r.po, r.ha)), ((r.nw, r.gr), r.go)), (((r.tr, r.rw), r.nm), ((r.fm, r.oc), r.ds))), ((((r.ms, r.wd), (sc, r.sd)), ((r.ke, r.ro), r.hs)), (((r.gc, r.nb), r.fc), ((r.de, r.si), r.th)))) : R8)) := by
    intro n
    induction n using Nat.strongRecOn with
    | ind n ih =>
      intro m sc z3 z4 z5 z6 z7 z8 z9 z10 z11 z12 z13 z14 z15 z16 z17 z18 z19 z20 z21 z22 hn hm hsc
      refine G_iload_n dX8_block_66 rfl ?_
      refine G_bipush (v := 64) dX8_block_67 (by decide) ?_
      refine G_icmp_geN (tgt := 175) (16 + m) 64 dX8_block_69 (by decide) rfl rfl (by omega) (by omega) (fun hge => ?_) (fun hlt => ?_)
      · have e48 : m = 48 := by omega
        subst e48
        refine G_aload_n dX8_block_175 rfl ?_
        refine G_get (f := 23) kc9 dX8_block_176 fX8_189 (by decide) rfl rfl ?_
        refine G_iconst (v := 0) dX8_block_179 (by decide) ?_
        refine G_laldN (0) dX8_block_180 rfl rfl (by decide) (by decide) ?_
        refine G_topl (y := zx (S 0)) (hS 0 (by omega)) ?_
        refine G_lstore_n (L' := [_, _, _, _, _, _, _, _, _, _, _, _, _, _, _, _, _, _, _, _, _, _, _]) dX8_block_181 (Nat.le_of_ble_eq_true rfl) rfl ?_
        refine G_aload_n dX8_block_182 rfl ?_
        refine G_get (f := 23) kc9 dX8_block_183 fX8_189 (by decide) rfl rfl ?_
        refine G_iconst (v := 1) dX8_block_186 (by decide) ?_
        refine G_laldN (1) dX8_block_187 rfl rfl (by decide) (by decide) ?_
        refine G_topl (y := zx (S 1)) (hS 1 (by omega)) ?_
        refine G_lstore (L' := [_, _, _, _, _, _, _, _, _, _, _, _, _, _, _, _, _, _, _, _, _, _, _]) dX8_block_188 (Nat.le_of_ble_eq_true rfl) rfl ?_
        refine G_aload_n dX8_block_190 rfl ?_
        refine G_get (f := 23) kc9 dX8_block_191 fX8_189 (by decide) rfl rfl ?_
        refine G_iconst (v := 2) dX8_block_194 (by decide) ?_
        refine G_laldN (2) dX8_block_195 rfl rfl (by decide) (by decide) ?_
        refine G_topl (y := zx (S 2)) (hS 2 (by omega)) ?_
        refine G_lstore (L' := [_, _, _, _, _, _, _, _, _, _, _, _, _, _, _, _, _, _, _, _, _, _, _]) dX8_block_196 (Nat.le_of_ble_eq_true rfl) rfl ?_
        refine G_aload_n dX8_block_198 rfl ?_
        refine G_get (f := 23) kc9 dX8_block_199 fX8_189 (by decide) rfl rfl ?_
        refine G_iconst (v := 3) dX8_block_202 (by decide) ?_
        refine G_laldN (3) dX8_block_203 rfl rfl (by decide) (by decide) ?_
        refine G_topl (y := zx (S 3)) (hS 3 (by omega)) ?_
        refine G_lstore (L' := [_, _, _, _, _, _, _, _, _, _, _, _, _, _, _, _, _, _, _, _, _, _, _]) dX8_block_204 (Nat.le_of_ble_eq_true rfl) rfl ?_
        refine G_aload_n dX8_block_206 rfl ?_
        refine G_get (f := 23) kc9 dX8_block_207 fX8_189 (by decide) rfl rfl ?_
        refine G_iconst (v := 4) dX8_block_210 (by decide) ?_
        refine G_laldN (4) dX8_block_211 rfl rfl (by decide) (by decide) ?_
        refine G_topl (y := zx (S 4)) (hS 4 (by omega)) ?_
        refine G_lstore (L' := [_, _, _, _, _, _, _, _, _, _, _, _, _, _, _, _, _, _, _, _, _, _, _]) dX8_block_212 (Nat.le_of_ble_eq_true rfl) rfl ?_
        refine G_aload_n dX8_block_214 rfl ?_
        refine G_get (f := 23) kc9 dX8_block_215 fX8_189 (by decide) rfl rfl ?_
        refine G_iconst (v := 5) dX8_block_218 (by decide) ?_
        refine G_laldN (5) dX8_block_219 rfl rfl (by decide) (by decide) ?_
        refine G_topl (y := zx (S 5)) (hS 5 (by omega)) ?_
        refine G_lstore (L' := [_, _, _, _, _, _, _, _, _, _, _, _, _, _, _, _, _, _, _, _, _, _, _]) dX8_block_220 (Nat.le_of_ble_eq_true rfl) rfl ?_
        refine G_aload_n dX8_block_222 rfl ?_
        refine G_get (f := 23) kc9 dX8_block_223 fX8_189 (by decide) rfl rfl ?_
        refine G_bipush (v := 6) dX8_block_226 (by decide) ?_
        refine G_laldN (6) dX8_block_228 rfl rfl (by decide) (by decide) ?_
        refine G_topl (y := zx (S 6)) (hS 6 (by omega)) ?_
        refine G_lstore (L' := [_, _, _, _, _, _, _, _, _, _, _, _, _, _, _, _, _, _, _, _, _, _, _]) dX8_block_229 (Nat.le_of_ble_eq_true rfl) rfl ?_
        refine G_aload_n dX8_block_231 rfl ?_
        refine G_get (f := 23) kc9 dX8_block_232 fX8_189 (by decide) rfl rfl ?_
        refine G_bipush (v := 7) dX8_block_235 (by decide) ?_
        refine G_laldN (7) dX8_block_237 rfl rfl (by decide) (by decide) ?_
        refine G_topl (y := zx (S 7)) (hS 7 (by omega)) ?_
        refine G_lstore (L' := [_, _, _, _, _, _, _, _, _, _, _, _, _, _, _, _, _, _, _, _, _, _, _]) dX8_block_238 (Nat.le_of_ble_eq_true rfl) rfl ?_
        refine G_iconst (v := 0) dX8_block_240 (by decide) ?_
        refine G_istore (L' := [_, _, _, _, _, _, _, _, _, _, _, _, _, _, _, _, _, _, _, _, _, _, _]) dX8_block_241 (Nat.le_of_ble_eq_true rfl) rfl ?_
        exact rounds 64 0 sc _ _ _ _ _ _ _ _ _ _ _ _ rfl (by omega) (fun q hq => hsc q (by omega)) rfl
      refine G_aload_n dX8_block_72 rfl ?_
      refine G_get (f := 24) kc9 dX8_block_73 fX8_192 (by decide) rfl rfl ?_
      refine G_iload_n dX8_block_76 rfl ?_
      refine G_bipush (v := 15) dX8_block_77 (by decide) ?_
      refine G_isub dX8_block_79 ?_
      refine G_topi (y := nI (16 + m - 15)) (pk_sub (b := 15) (by omega)) ?_
      refine G_laldN (16 + m - 15) dX8_block_80 rfl rfl (by omega) (by decide) ?_
      refine G_topl (y := zx (scN m (beW r.ms fr) (16 + m - 15))) (hsc _ (by omega)) ?_
      refine G_lstore_n (L' := [_, _, _, _, _, _, _, _, _, _, _, _, _, _, _, _, _, _, _, _, _, _, _]) dX8_block_81 (Nat.le_of_ble_eq_true rfl) rfl ?_
      refine G_aload_n dX8_block_82 rfl ?_
      refine G_get (f := 24) kc9 dX8_block_83 fX8_192 (by decide) rfl rfl ?_
      refine G_iload_n dX8_block_86 rfl ?_
      refine G_iconst (v := 2) dX8_block_87 (by decide) ?_
      refine G_isub dX8_block_88 ?_
      refine G_topi (y := nI (16 + m - 2)) (pk_sub (b := 2) (by omega)) ?_
      refine G_laldN (16 + m - 2) dX8_block_89 rfl rfl (by omega) (by decide) ?_
      refine G_topl (y := zx (scN m (beW r.ms fr) (16 + m - 2))) (hsc _ (by omega)) ?_
      refine G_lstore (L' := [_, _, _, _, _, _, _, _, _, _, _, _, _, _, _, _, _, _, _, _, _, _, _]) dX8_block_90 (Nat.le_of_ble_eq_true rfl) rfl ?_
      refine G_lload_n dX8_block_92 rfl ?_
      refine G_bipush (v := 7) dX8_block_93 (by decide) ?_
      refine G_S (is := []) (fo := []) (as := [.long (zx (scN m (beW r.ms fr) (16 + m - 15))), .int (nI 7)]) (as' := [.long (zx (scN m (beW r.ms fr) (16 + m - 15))), .int (nI 7)]) (st := []) (k := 0) (n := 0) cX8_block_95 (con8_turned _ 7 (by decide) (by decide) (scN m (beW r.ms fr) (16 + m - 15))) ab_pfx rfl (by decide) rfl rfl rfl rfl (Nat.le_of_ble_eq_true rfl) dX8_block_95 (fun w' v h => by rw [h.1]) (fun w2 v2 hq => ?_)
      obtain ⟨rfl, rfl⟩ := hq
      refine G_w (st' := [.long (zx (rr (scN m (beW r.ms fr) (16 + m - 15)) 7 25))]) (w' := w8 ((((((r.bl, r.co), (r.po, r.ha)), ((r.nw, r.gr), r.go)), (((r.tr, r.rw), r.nm), ((r.fm, r.oc), r.ds))), ((((r.ms, r.wd), (sc, r.sd)), ((r.ke, r.ro), r.hs)), (((r.gc, r.nb), r.fc), ((r.de, r.si), r.th)))) : R8)) rfl rfl ?_
      refine G_lload_n dX8_block_98 rfl ?_
      refine G_bipush (v := 18) dX8_block_99 (by decide) ?_
      refine G_S (is := []) (fo := []) (as := [.long (zx (scN m (beW r.ms fr) (16 + m - 15))), .int (nI 18)]) (as' := [.long (zx (scN m (beW r.ms fr) (16 + m - 15))), .int (nI 18)]) (st := [.long (zx (rr (scN m (beW r.ms fr) (16 + m - 15)) 7 25))]) (k := 0) (n := 0) cX8_block_101 (con8_turned _ 18 (by decide) (by decide) (scN m (beW r.ms fr) (16 + m - 15))) ab_pfx rfl (by decide) rfl rfl rfl rfl (Nat.le_of_ble_eq_true rfl) dX8_block_101 (fun w' v h => by rw [h.1]) (fun w2 v2 hq => ?_)
      obtain ⟨rfl, rfl⟩ := hq
      refine G_w (st' := [.long (zx (rr (scN m (beW r.ms fr) (16 + m - 15)) 18 14)), .long (zx (rr (scN m (beW r.ms fr) (16 + m - 15)) 7 25))]) (w' := w8 ((((((r.bl, r.co), (r.po, r.ha)), ((r.nw, r.gr), r.go)), (((r.tr, r.rw), r.nm), ((r.fm, r.oc), r.ds))), ((((r.ms, r.wd), (sc, r.sd)), ((r.ke, r.ro), r.hs)), (((r.gc, r.nb), r.fc), ((r.de, r.si), r.th)))) : R8)) rfl rfl ?_
      refine G_lxor dX8_block_104 ?_
      refine G_topl (y := zx (rr (scN m (beW r.ms fr) (16 + m - 15)) 7 25 ^^^ rr (scN m (beW r.ms fr) (16 + m - 15)) 18 14)) (zx_xor _ _) ?_
      refine G_lload_n dX8_block_105 rfl ?_
      refine G_iconst (v := 3) dX8_block_106 (by decide) ?_
      refine G_lshr dX8_block_107 ?_
      refine G_topl (y := zx (us (scN m (beW r.ms fr) (16 + m - 15)) 3)) (zx_shr _ 3 (by decide)) ?_
      refine G_lxor dX8_block_108 ?_
      refine G_topl (y := zx (rr (scN m (beW r.ms fr) (16 + m - 15)) 7 25 ^^^ rr (scN m (beW r.ms fr) (16 + m - 15)) 18 14 ^^^ us (scN m (beW r.ms fr) (16 + m - 15)) 3)) (zx_xor _ _) ?_
      refine G_lstore (L' := [_, _, _, _, _, _, _, _, _, _, _, _, _, _, _, _, _, _, _, _, _, _, _]) dX8_block_109 (Nat.le_of_ble_eq_true rfl) rfl ?_
      refine G_lload dX8_block_111 rfl ?_
      refine G_bipush (v := 17) dX8_block_113 (by decide) ?_
      refine G_S (is := []) (fo := []) (as := [.long (zx (scN m (beW r.ms fr) (16 + m - 2))), .int (nI 17)]) (as' := [.long (zx (scN m (beW r.ms fr) (16 + m - 2))), .int (nI 17)]) (st := []) (k := 0) (n := 0) cX8_block_115 (con8_turned _ 17 (by decide) (by decide) (scN m (beW r.ms fr) (16 + m - 2))) ab_pfx rfl (by decide) rfl rfl rfl rfl (Nat.le_of_ble_eq_true rfl) dX8_block_115 (fun w' v h => by rw [h.1]) (fun w2 v2 hq => ?_)
      obtain ⟨rfl, rfl⟩ := hq
      refine G_w (st' := [.long (zx (rr (scN m (beW r.ms fr) (16 + m - 2)) 17 15))]) (w' := w8 ((((((r.bl, r.co), (r.po, r.ha)), ((r.nw, r.gr), r.go)), (((r.tr, r.rw), r.nm), ((r.fm, r.oc), r.ds))), ((((r.ms, r.wd), (sc, r.sd)), ((r.ke, r.ro), r.hs)), (((r.gc, r.nb), r.fc), ((r.de, r.si), r.th)))) : R8)) rfl rfl ?_
      refine G_lload dX8_block_118 rfl ?_
      refine G_bipush (v := 19) dX8_block_120 (by decide) ?_
      refine G_S (is := []) (fo := []) (as := [.long (zx (scN m (beW r.ms fr) (16 + m - 2))), .int (nI 19)]) (as' := [.long (zx (scN m (beW r.ms fr) (16 + m - 2))), .int (nI 19)]) (st := [.long (zx (rr (scN m (beW r.ms fr) (16 + m - 2)) 17 15))]) (k := 0) (n := 0) cX8_block_122 (con8_turned _ 19 (by decide) (by decide) (scN m (beW r.ms fr) (16 + m - 2))) ab_pfx rfl (by decide) rfl rfl rfl rfl (Nat.le_of_ble_eq_true rfl) dX8_block_122 (fun w' v h => by rw [h.1]) (fun w2 v2 hq => ?_)
      obtain ⟨rfl, rfl⟩ := hq
      refine G_w (st' := [.long (zx (rr (scN m (beW r.ms fr) (16 + m - 2)) 19 13)), .long (zx (rr (scN m (beW r.ms fr) (16 + m - 2)) 17 15))]) (w' := w8 ((((((r.bl, r.co), (r.po, r.ha)), ((r.nw, r.gr), r.go)), (((r.tr, r.rw), r.nm), ((r.fm, r.oc), r.ds))), ((((r.ms, r.wd), (sc, r.sd)), ((r.ke, r.ro), r.hs)), (((r.gc, r.nb), r.fc), ((r.de, r.si), r.th)))) : R8)) rfl rfl ?_
      refine G_lxor dX8_block_125 ?_
      refine G_topl (y := zx (rr (scN m (beW r.ms fr) (16 + m - 2)) 17 15 ^^^ rr (scN m (beW r.ms fr) (16 + m - 2)) 19 13)) (zx_xor _ _) ?_
      refine G_lload dX8_block_126 rfl ?_
      refine G_bipush (v := 10) dX8_block_128 (by decide) ?_
      refine G_lshr dX8_block_130 ?_
      refine G_topl (y := zx (us (scN m (beW r.ms fr) (16 + m - 2)) 10)) (zx_shr _ 10 (by decide)) ?_
      refine G_lxor dX8_block_131 ?_
      refine G_topl (y := zx (rr (scN m (beW r.ms fr) (16 + m - 2)) 17 15 ^^^ rr (scN m (beW r.ms fr) (16 + m - 2)) 19 13 ^^^ us (scN m (beW r.ms fr) (16 + m - 2)) 10)) (zx_xor _ _) ?_
      refine G_lstore (L' := [_, _, _, _, _, _, _, _, _, _, _, _, _, _, _, _, _, _, _, _, _, _, _]) dX8_block_132 (Nat.le_of_ble_eq_true rfl) rfl ?_
      refine G_aload_n dX8_block_134 rfl ?_
      refine G_get (f := 24) kc9 dX8_block_135 fX8_192 (by decide) rfl rfl ?_
      refine G_iload_n dX8_block_138 rfl ?_
      refine G_aload_n dX8_block_139 rfl ?_
      refine G_get (f := 24) kc9 dX8_block_140 fX8_192 (by decide) rfl rfl ?_
      refine G_iload_n dX8_block_143 rfl ?_
      refine G_bipush (v := 16) dX8_block_144 (by decide) ?_
      refine G_isub dX8_block_146 ?_
      refine G_topi (y := nI (16 + m - 16)) (pk_sub (b := 16) (by omega)) ?_
      refine G_laldN (16 + m - 16) dX8_block_147 rfl rfl (by omega) (by decide) ?_
      refine G_topl (y := zx (scN m (beW r.ms fr) (16 + m - 16))) (hsc _ (by omega)) ?_
      refine G_lload dX8_block_148 rfl ?_
      refine G_ladd dX8_block_150 ?_
      refine G_aload_n dX8_block_151 rfl ?_
      refine G_get (f := 24) kc9 dX8_block_152 fX8_192 (by decide) rfl rfl ?_
      refine G_iload_n dX8_block_155 rfl ?_
      refine G_bipush (v := 7) dX8_block_156 (by decide) ?_
      refine G_isub dX8_block_158 ?_
      refine G_topi (y := nI (16 + m - 7)) (pk_sub (b := 7) (by omega)) ?_
      refine G_laldN (16 + m - 7) dX8_block_159 rfl rfl (by omega) (by decide) ?_
      refine G_topl (y := zx (scN m (beW r.ms fr) (16 + m - 7))) (hsc _ (by omega)) ?_
      refine G_ladd dX8_block_160 ?_
      refine G_lload dX8_block_161 rfl ?_
      refine G_ladd dX8_block_163 ?_
      refine G_ldc2 dX8_block_164 kX8_206 ?_
      refine G_land dX8_block_167 ?_
      refine G_topl (y := zx ((((scN m (beW r.ms fr) (16 + m - 16)) + (rr (scN m (beW r.ms fr) (16 + m - 15)) 7 25 ^^^ rr (scN m (beW r.ms fr) (16 + m - 15)) 18 14 ^^^ us (scN m (beW r.ms fr) (16 + m - 15)) 3)) + (scN m (beW r.ms fr) (16 + m - 7))) + (rr (scN m (beW r.ms fr) (16 + m - 2)) 17 15 ^^^ rr (scN m (beW r.ms fr) (16 + m - 2)) 19 13 ^^^ us (scN m (beW r.ms fr) (16 + m - 2)) 10))) ((and_low _).trans (congrArg zx (low_add (low_add (low_add (zx_t _) (zx_t _)) (zx_t _)) (zx_t _)))) ?_
      refine G_topl (y := zx (sc1 (scN m (beW r.ms fr)) (16 + m))) rfl ?_
      refine G_lastN (w' := w8 ((((((r.bl, r.co), (r.po, r.ha)), ((r.nw, r.gr), r.go)), (((r.tr, r.rw), r.nm), ((r.fm, r.oc), r.ds))), ((((r.ms, r.wd), (vp_updL sc (16 + m) (zx (sc1 (scN m (beW r.ms fr)) (16 + m))), r.sd)), ((r.ke, r.ro), r.hs)), (((r.gc, r.nb), r.fc), ((r.de, r.si), r.th)))) : R8)) (16 + m) dX8_block_168 rfl rfl (by omega) (by decide) rfl ?_
      refine G_iinc (L' := [_, _, _, _, _, _, _, _, _, _, _, _, _, _, _, _, _, _, _, _, _, _, _]) (v := nI (16 + (m + 1))) dX8_block_169 rfl (nI_1 _) rfl ?_
      refine G_goto (tgt := 66) dX8_block_172 (by decide) ?_
      refine ih (48 - (m + 1)) (by omega) (m + 1) _ _ _ _ _ _ _ _ _ _ _ _ _ _ _ _ _ _ _ _ _ rfl (by omega) (fun q hq => ?_)
      show vp_updL _ _ _ _ = zx (upd _ _ _ _)
      by_cases e : q = 16 + m
      · rw [e, pk_uLs, pk_us]
      · rw [pk_uLn e, pk_un e]; exact hsc q (by omega)
  have first : ∀ (n k : Nat) (sc : Nat → Int64) (z3 z4 z5 z6 z7 z8 z9 z10 z11 z12 z13 z14 z15 z16 z17 z18 z19 z20 z21 z22 : Option Value), 16 - k = n → k ≤ 16 → (∀ q, q < k → sc q = zx (beW r.ms fr q)) → G ab_x0 mX8_block (d + 1) 0 0 (fun w' v => ∃ r', w' = w8 r' ∧ v = none ∧ ∃ wd sc, r' = ((((((r.bl, r.co), (r.po, r.ha)), ((r.nw, r.gr), r.go)), (((r.tr, r.rw), r.nm), ((r.fm, r.oc), r.ds))), ((((r.ms, wd), (sc, r.sd)), ((r.ke, r.ro), r.hs)), (((r.gc, r.nb), r.fc), ((r.de, r.si), r.th)))) : R8) ∧ ∀ j, j < 8 → wd j = zx (mixS S (beW r.ms fr) j)) 2 [some (.ref 100), some (.int (nI fr)), some (.int (nI k)), z3, z4, z5, z6, z7, z8, z9, z10, z11, z12, z13, z14, z15, z16, z17, z18, z19, z20, z21, z22] [] (w8 ((((((r.bl, r.co), (r.po, r.ha)), ((r.nw, r.gr), r.go)), (((r.tr, r.rw), r.nm), ((r.fm, r.oc), r.ds))), ((((r.ms, r.wd), (sc, r.sd)), ((r.ke, r.ro), r.hs)), (((r.gc, r.nb), r.fc), ((r.de, r.si), r.th)))) : R8)) := by
    intro n
    induction n using Nat.strongRecOn with
    | ind n ih =>
      intro k sc z3 z4 z5 z6 z7 z8 z9 z10 z11 z12 z13 z14 z15 z16 z17 z18 z19 z20 z21 z22 hn hk hsc
      refine G_iload_n dX8_block_2 rfl ?_
      refine G_bipush (v := 16) dX8_block_3 (by decide) ?_
      refine G_icmp_geN (tgt := 63) k 16 dX8_block_5 (by decide) rfl rfl (by omega) (by omega) (fun hge => ?_) (fun hlt => ?_)
      · have e16 : k = 16 := by omega
        subst e16
        refine G_bipush (v := 16) dX8_block_63 (by decide) ?_
        refine G_istore_n (L' := [_, _, _, _, _, _, _, _, _, _, _, _, _, _, _, _, _, _, _, _, _, _, _]) dX8_block_65 (Nat.le_of_ble_eq_true rfl) rfl ?_
        exact sched 48 0 sc _ _ _ _ _ _ _ _ _ _ _ _ _ _ _ _ _ _ _ _ rfl (by omega) (fun q hq => hsc q (by omega))
      refine G_lconst (v := 0) dX8_block_8 rfl ?_
      refine G_lstore_n (L' := [_, _, _, _, _, _, _, _, _, _, _, _, _, _, _, _, _, _, _, _, _, _, _]) dX8_block_9 (Nat.le_of_ble_eq_true rfl) rfl ?_
      refine G_iconst (v := 0) dX8_block_10 (by decide) ?_
      refine G_istore (L' := [_, _, _, _, _, _, _, _, _, _, _, _, _, _, _, _, _, _, _, _, _, _, _]) dX8_block_11 (Nat.le_of_ble_eq_true rfl) rfl ?_
      have inner : ∀ (n2 b : Nat) (z4 : Option Value), 4 - b = n2 → b ≤ 4 → G ab_x0 mX8_block (d + 1) 0 0 (fun w' v => ∃ r', w' = w8 r' ∧ v = none ∧ ∃ wd sc, r' = ((((((r.bl, r.co), (r.po, r.ha)), ((r.nw, r.gr), r.go)), (((r.tr, r.rw), r.nm), ((r.fm, r.oc), r.ds))), ((((r.ms, wd), (sc, r.sd)), ((r.ke, r.ro), r.hs)), (((r.gc, r.nb), r.fc), ((r.de, r.si), r.th)))) : R8) ∧ ∀ j, j < 8 → wd j = zx (mixS S (beW r.ms fr) j)) 13 [some (.ref 100), some (.int (nI fr)), some (.int (nI k)), some (.long (lN (bvN r.ms (fr + 4 * k) b))), z4, some (.int (nI b)), z6, z7, z8, z9, z10, z11, z12, z13, z14, z15, z16, z17, z18, z19, z20, z21, z22] [] (w8 ((((((r.bl, r.co), (r.po, r.ha)), ((r.nw, r.gr), r.go)), (((r.tr, r.rw), r.nm), ((r.fm, r.oc), r.ds))), ((((r.ms, r.wd), (sc, r.sd)), ((r.ke, r.ro), r.hs)), (((r.gc, r.nb), r.fc), ((r.de, r.si), r.th)))) : R8)) := by
        intro n2
        induction n2 using Nat.strongRecOn with
        | ind n2 ih2 =>
          intro b z4 hn2 hb
          refine G_iload dX8_block_13 rfl ?_
          refine G_iconst (v := 4) dX8_block_15 (by decide) ?_
          refine G_icmp_geN (tgt := 50) b 4 dX8_block_16 (by decide) rfl rfl (by omega) (by omega) (fun hge2 => ?_) (fun hlt2 => ?_)
          · have e4 : b = 4 := by omega
            subst e4
            refine G_aload_n dX8_block_50 rfl ?_
            refine G_get (f := 24) kc9 dX8_block_51 fX8_192 (by decide) rfl rfl ?_
            refine G_iload_n dX8_block_54 rfl ?_
            refine G_lload_n dX8_block_55 rfl ?_
            refine G_topl (y := zx (beW r.ms fr k)) (beW_zx r.ms fr k) ?_
            refine G_lastN (w' := w8 ((((((r.bl, r.co), (r.po, r.ha)), ((r.nw, r.gr), r.go)), (((r.tr, r.rw), r.nm), ((r.fm, r.oc), r.ds))), ((((r.ms, r.wd), (vp_updL sc k (zx (beW r.ms fr k)), r.sd)), ((r.ke, r.ro), r.hs)), (((r.gc, r.nb), r.fc), ((r.de, r.si), r.th)))) : R8)) (k) dX8_block_56 rfl rfl (by omega) (by decide) rfl ?_
            refine G_iinc (L' := [_, _, _, _, _, _, _, _, _, _, _, _, _, _, _, _, _, _, _, _, _, _, _]) (v := nI (k + 1)) dX8_block_57 rfl (nI_1 k) rfl ?_
            refine G_goto (tgt := 2) dX8_block_60 (by decide) ?_
            refine ih (16 - (k + 1)) (by omega) (k + 1) _ _ _ _ _ _ _ _ _ _ _ _ _ _ _ _ _ _ _ _ _ rfl (by omega) (fun q hq => ?_)
            by_cases e : q = k
            · rw [e, pk_uLs]
            · rw [pk_uLn e]; exact hsc q (by omega)
          refine G_ldc2 dX8_block_19 kX8_229 ?_
          refine G_lload_n dX8_block_22 rfl ?_
          refine G_lmul dX8_block_23 ?_
          refine G_aload_n dX8_block_24 rfl ?_
          refine G_get (f := 21) kc9 dX8_block_25 fX8_186 (by decide) rfl rfl ?_
          refine G_iload_n dX8_block_28 rfl ?_
          refine G_iconst (v := 4) dX8_block_29 (by decide) ?_
          refine G_iload_n dX8_block_30 rfl ?_
          refine G_imul dX8_block_31 ?_
          refine G_iadd dX8_block_32 ?_
          refine G_topi (y := nI (fr + 4 * k)) ((congrArg (fun z => nI fr + z) (pk_mul 4 k)).trans (nI_add _ _)) ?_
          refine G_iload dX8_block_33 rfl ?_
          refine G_iadd dX8_block_35 ?_
          refine G_baldN (fr + 4 * k + b) dX8_block_36 rfl (nI_add _ _) (by omega) (by decide) ?_
          refine G_sipush (v := 255) dX8_block_37 (by decide) ?_
          refine G_iand dX8_block_40 ?_
          refine G_i2l dX8_block_41 ?_
          refine G_ladd dX8_block_42 ?_
          refine G_topl (y := lN (bvN r.ms (fr + 4 * k) (b + 1))) (bvN_step r.ms (fr + 4 * k) b) ?_
          refine G_lstore_n (L' := [_, _, _, _, _, _, _, _, _, _, _, _, _, _, _, _, _, _, _, _, _, _, _]) dX8_block_43 (Nat.le_of_ble_eq_true rfl) rfl ?_
          refine G_iinc (L' := [_, _, _, _, _, _, _, _, _, _, _, _, _, _, _, _, _, _, _, _, _, _, _]) (v := nI (b + 1)) dX8_block_44 rfl (nI_1 b) rfl ?_
          refine G_goto (tgt := 13) dX8_block_47 (by decide) ?_
          exact ih2 (4 - (b + 1)) (by omega) (b + 1) _ rfl (by omega)
      exact inner 4 0 _ rfl (by omega)
  refine G_iconst (v := 0) dX8_block_0 (by decide) ?_
  refine G_istore_n (L' := [_, _, _, _, _, _, _, _, _, _, _, _, _, _, _, _, _, _, _, _, _, _, _]) dX8_block_1 (Nat.le_of_ble_eq_true rfl) rfl ?_
  exact first 16 0 r.sc _ _ _ _ _ _ _ _ _ _ _ _ _ _ _ _ _ _ _ _ rfl (by omega) (fun q hq => by omega)
