/-! The law's loop. -/
abbrev lw_xo (Ln : Nat) (xs : Nat → Int32) : ab_XO := ab_x0 ++ [(Ln, xs)]
theorem lw_pfx (Ln : Nat) (xs : Nat → Int32) : ∀ (i : Nat) (q : Nat × (Nat → Int32)), ab_x0[i]? = some q → (lw_xo Ln xs)[i]? = some q := fun i q h => by
  rw [List.getElem?_append_left (List.getElem?_eq_some_iff.mp h).1]
  exact h
theorem lw_x3 (Ln : Nat) (xs : Nat → Int32) : (lw_xo Ln xs)[3]? = some (Ln, xs) := rfl
def lwQ1 : List ab_C → Option Value → Prop := fun _ v => v = some (.int 1)
abbrev lwL (i : Nat) (x5 x6 : Option Int32) : List (Option Value) := [some (.ref 3), some (.ref 100), some (.ref 136), some (.ref 155), some (.int (nI i)), x5.map Value.int, x6.map Value.int]
abbrev lwV (x y : Int32) : Int64 := (x.toInt64 <<< ((32 : Int32).toInt64 &&& 63)) ||| (y.toInt64 &&& 4294967295)
theorem lw_r7 {w : List ab_C} (h : Jn w) : ∃ fs, w[0]? = some (.inr (8, fs)) := by
  obtain ⟨kc, gp, bp, bn, nbs, nts, ks, n, m, N, K, r, qs, hI, _⟩ := h
  exact ⟨_, hI.2.1⟩
theorem lw_len {w : List ab_C} (h : Jn w) : 56 ≤ w.length := by
  obtain ⟨kc, gp, bp, bn, nbs, nts, ks, n, m, N, K, r, qs, hI, hM, hR, _⟩ := h
  have := hR.2.2.2.2
  omega
theorem lw_add {i c : Nat} (h : i + c < 2 ^ 31) : nI i + nI c = nI (i + c) := by
  apply Int32.toInt_inj.mp
  rw [Int32.toInt_add, nI_toInt (by omega), nI_toInt (by omega), nI_toInt h, Int.bmod_eq_of_le (by omega) (by omega)]
  omega
theorem lw_and (x : Int32) : ∃ q : Nat, q < 16 ∧ x &&& 15 = nI q := by
  refine ⟨(x.toBitVec &&& 15#32).toNat, ?_, ?_⟩
  · have : (x.toBitVec &&& 15#32).toNat ≤ 15 := by rw [BitVec.toNat_and]; exact Nat.and_le_right
    omega
  · apply Int32.toBitVec_inj.mp
    show x.toBitVec &&& 15#32 = _
    rw [show (nI (x.toBitVec &&& 15#32).toNat).toBitVec = BitVec.ofNat 32 (x.toBitVec &&& 15#32).toNat from rfl, BitVec.ofNat_toNat]
    simp
theorem lw_cmp {Ln i : Nat} (h1 : Ln < 2 ^ 30) (h2 : i < 2 ^ 30) (h : ¬ nI Ln - 4 < nI i) : i + 4 ≤ Ln := by
  rw [Int32.lt_iff_toInt_lt, Int32.toInt_sub, nI_toInt (by omega), nI_toInt (by omega), show (4 : Int32).toInt = 4 from rfl, Int.bmod_eq_of_le (by omega) (by omega)] at h
  omega
section LAW
variable {d k n Ln i : Nat} {xs : Nat → Int32} {x5 x6 : Option Int32} {w : List ab_C} {Q : List ab_C → Option Value → Prop}
theorem lw_arg {pc c : Nat} {ci : Int} {st : List Value} (h0 : decode cL_law pc = .ok (.aload_n 0, 1)) (h1 : decode cL_law (pc + 1) = .ok (.iload 4, 2)) (h3 : decode cL_law (pc + 3) = .ok (.iconst ci, 1)) (h4 : decode cL_law (pc + 4) = .ok (.iadd, 1)) (h5 : decode cL_law (pc + 5) = .ok (.iaload, 1)) (hc : Int32.ofInt ci = nI c) (hi : i + c < Ln) (hL : Ln < 2 ^ 30) (kk : G (lw_xo Ln xs) mL_law (d + 15) k n Q (pc + 6) (lwL i x5 x6) (.int (xs (i + c)) :: st) w) : G (lw_xo Ln xs) mL_law (d + 15) k n Q pc (lwL i x5 x6) st w := by
  refine G_aload_n h0 rfl ?_
  refine G_iload h1 rfl ?_
  refine G_iconst (v := nI c) h3 hc ?_
  refine G_iadd h4 ?_
  exact G_xaldN (j := 3) (i + c) h5 (lw_x3 Ln xs) (lw_add (by omega)) hi (by omega) kk
theorem arm_blank (hJ : Jn w) (hi : i + 4 ≤ Ln) (hN : Ln < 2 ^ 30) (nx : ∀ (w2 : List ab_C) (y5 y6 : Option Int32), Jn w2 → G (lw_xo Ln xs) mL_law (d + 15) k n Q 603 (lwL i y5 y6) [] w2) : G (lw_xo Ln xs) mL_law (d + 15) k n Q 116 (lwL i x5 x6) [] w := by
  obtain ⟨f7, h7⟩ := lw_r7 hJ
  refine G_aload_n dL_law_116 rfl ?_
  refine G_Cal (d := d + 14) (j := 0) (as' := []) (st := []) cL_law_117 (st_blank d hJ) (lw_pfx Ln xs) h7 rfl rfl rfl rfl (Nat.le_of_ble_eq_true rfl) dL_law_117 (fun w1 v h => ?_)
  obtain ⟨x, rfl, ⟨f8, h8⟩, hB⟩ := h
  refine G_aload_n dL_law_120 rfl ?_
  refine G_Cal (d := d + 14) (j := 36) (as' := []) (st := [.int x]) cL_law_121 hB (lw_pfx Ln xs) h8 rfl rfl rfl rfl (Nat.le_of_ble_eq_true rfl) dL_law_121 (fun w2 v h => ?_)
  obtain ⟨rfl, hJ2⟩ := h
  exact G_icmp_eq (tgt := 603) dL_law_124 (by decide) (fun _ => nx w2 x5 x6 hJ2) (fun h => absurd rfl h)
theorem arm_triple (hJ : Jn w) (hi : i + 4 ≤ Ln) (hN : Ln < 2 ^ 30) (nx : ∀ (w2 : List ab_C) (y5 y6 : Option Int32), Jn w2 → G (lw_xo Ln xs) mL_law (d + 15) k n Q 603 (lwL i y5 y6) [] w2) : G (lw_xo Ln xs) mL_law (d + 15) k n Q 129 (lwL i x5 x6) [] w := by
  obtain ⟨f7, h7⟩ := lw_r7 hJ
  refine G_aload_n dL_law_129 rfl ?_
  refine lw_arg (c := 1) dL_law_130 dL_law_131 dL_law_133 dL_law_134 dL_law_135 rfl (by omega) hN ?_
  refine lw_arg (c := 2) dL_law_136 dL_law_137 dL_law_139 dL_law_140 dL_law_141 rfl (by omega) hN ?_
  refine lw_arg (c := 3) dL_law_142 dL_law_143 dL_law_145 dL_law_146 dL_law_147 rfl (by omega) hN ?_
  refine G_Cal (d := d + 14) (j := 0) (as' := [.int (xs (i + 1)), .int (xs (i + 2)), .int (xs (i + 3))]) (st := []) cL_law_148 (st_triple d (xs (i + 1)) (xs (i + 2)) (xs (i + 3)) hJ) (lw_pfx Ln xs) h7 rfl rfl rfl rfl (Nat.le_of_ble_eq_true rfl) dL_law_148 (fun w1 v h => ?_)
  obtain ⟨x, rfl, ⟨f8, h8⟩, hB⟩ := h
  refine G_aload_n dL_law_151 rfl ?_
  refine lw_arg (c := 1) dL_law_152 dL_law_153 dL_law_155 dL_law_156 dL_law_157 rfl (by omega) hN ?_
  refine lw_arg (c := 2) dL_law_158 dL_law_159 dL_law_161 dL_law_162 dL_law_163 rfl (by omega) hN ?_
  refine lw_arg (c := 3) dL_law_164 dL_law_165 dL_law_167 dL_law_168 dL_law_169 rfl (by omega) hN ?_
  refine G_Cal (d := d + 14) (j := 36) (as' := [.int (xs (i + 1)), .int (xs (i + 2)), .int (xs (i + 3))]) (st := [.int x]) cL_law_170 hB (lw_pfx Ln xs) h8 rfl rfl rfl rfl (Nat.le_of_ble_eq_true rfl) dL_law_170 (fun w2 v h => ?_)
  obtain ⟨rfl, hJ2⟩ := h
  exact G_icmp_eq (tgt := 603) dL_law_173 (by decide) (fun _ => nx w2 x5 x6 hJ2) (fun h => absurd rfl h)
theorem arm_drop (hJ : Jn w) (hi : i + 4 ≤ Ln) (hN : Ln < 2 ^ 30) (nx : ∀ (w2 : List ab_C) (y5 y6 : Option Int32), Jn w2 → G (lw_xo Ln xs) mL_law (d + 15) k n Q 603 (lwL i y5 y6) [] w2) : G (lw_xo Ln xs) mL_law (d + 15) k n Q 178 (lwL i x5 x6) [] w := by
  obtain ⟨f7, h7⟩ := lw_r7 hJ
  refine G_aload_n dL_law_178 rfl ?_
  refine lw_arg (c := 1) dL_law_179 dL_law_180 dL_law_182 dL_law_183 dL_law_184 rfl (by omega) hN ?_
  refine lw_arg (c := 2) dL_law_185 dL_law_186 dL_law_188 dL_law_189 dL_law_190 rfl (by omega) hN ?_
  refine lw_arg (c := 3) dL_law_191 dL_law_192 dL_law_194 dL_law_195 dL_law_196 rfl (by omega) hN ?_
  refine G_Cal (d := d + 14) (j := 0) (as' := [.int (xs (i + 1)), .int (xs (i + 2)), .int (xs (i + 3))]) (st := []) cL_law_197 (st_drop d (xs (i + 1)) (xs (i + 2)) (xs (i + 3)) hJ) (lw_pfx Ln xs) h7 rfl rfl rfl rfl (Nat.le_of_ble_eq_true rfl) dL_law_197 (fun w1 v h => ?_)
  obtain ⟨x, rfl, ⟨f8, h8⟩, hB⟩ := h
  refine G_aload_n dL_law_200 rfl ?_
  refine lw_arg (c := 1) dL_law_201 dL_law_202 dL_law_204 dL_law_205 dL_law_206 rfl (by omega) hN ?_
  refine lw_arg (c := 2) dL_law_207 dL_law_208 dL_law_210 dL_law_211 dL_law_212 rfl (by omega) hN ?_
  refine lw_arg (c := 3) dL_law_213 dL_law_214 dL_law_216 dL_law_217 dL_law_218 rfl (by omega) hN ?_
  refine G_Cal (d := d + 14) (j := 36) (as' := [.int (xs (i + 1)), .int (xs (i + 2)), .int (xs (i + 3))]) (st := [.int x]) cL_law_219 hB (lw_pfx Ln xs) h8 rfl rfl rfl rfl (Nat.le_of_ble_eq_true rfl) dL_law_219 (fun w2 v h => ?_)
  obtain ⟨rfl, hJ2⟩ := h
  exact G_icmp_eq (tgt := 603) dL_law_222 (by decide) (fun _ => nx w2 x5 x6 hJ2) (fun h => absurd rfl h)
theorem arm_name (hJ : Jn w) (hi : i + 4 ≤ Ln) (hN : Ln < 2 ^ 30) (nx : ∀ (w2 : List ab_C) (y5 y6 : Option Int32), Jn w2 → G (lw_xo Ln xs) mL_law (d + 15) k n Q 603 (lwL i y5 y6) [] w2) : G (lw_xo Ln xs) mL_law (d + 15) k n Q 227 (lwL i x5 x6) [] w := by
  obtain ⟨f7, h7⟩ := lw_r7 hJ
  refine G_aload_n dL_law_227 rfl ?_
  refine lw_arg (c := 1) dL_law_228 dL_law_229 dL_law_231 dL_law_232 dL_law_233 rfl (by omega) hN ?_
  refine G_i2l dL_law_234 ?_
  refine G_bipush (v := 32) dL_law_235 (by decide) ?_
  refine G_lshl dL_law_237 ?_
  refine lw_arg (c := 2) dL_law_238 dL_law_239 dL_law_241 dL_law_242 dL_law_243 rfl (by omega) hN ?_
  refine G_i2l dL_law_244 ?_
  refine G_ldc2 dL_law_245 kL_33 ?_
  refine G_land dL_law_248 ?_
  refine G_lor dL_law_249 ?_
  refine G_Cal (d := d + 14) (j := 0) (as' := [.long (lwV (xs (i + 1)) (xs (i + 2)))]) (st := []) cL_law_250 (st_name d (lwV (xs (i + 1)) (xs (i + 2))) hJ) (lw_pfx Ln xs) h7 rfl rfl rfl rfl (Nat.le_of_ble_eq_true rfl) dL_law_250 (fun w1 v h => ?_)
  obtain ⟨x, rfl, ⟨f8, h8⟩, hB⟩ := h
  refine G_aload_n dL_law_253 rfl ?_
  refine lw_arg (c := 1) dL_law_254 dL_law_255 dL_law_257 dL_law_258 dL_law_259 rfl (by omega) hN ?_
  refine G_i2l dL_law_260 ?_
  refine G_bipush (v := 32) dL_law_261 (by decide) ?_
  refine G_lshl dL_law_263 ?_
  refine lw_arg (c := 2) dL_law_264 dL_law_265 dL_law_267 dL_law_268 dL_law_269 rfl (by omega) hN ?_
  refine G_i2l dL_law_270 ?_
  refine G_ldc2 dL_law_271 kL_33 ?_
  refine G_land dL_law_274 ?_
  refine G_lor dL_law_275 ?_
  refine G_Cal (d := d + 14) (j := 36) (as' := [.long (lwV (xs (i + 1)) (xs (i + 2)))]) (st := [.int x]) cL_law_276 hB (lw_pfx Ln xs) h8 rfl rfl rfl rfl (Nat.le_of_ble_eq_true rfl) dL_law_276 (fun w2 v h => ?_)
  obtain ⟨rfl, hJ2⟩ := h
  exact G_icmp_eq (tgt := 603) dL_law_279 (by decide) (fun _ => nx w2 x5 x6 hJ2) (fun h => absurd rfl h)
theorem arm_named (hJ : Jn w) (hi : i + 4 ≤ Ln) (hN : Ln < 2 ^ 30) (nx : ∀ (w2 : List ab_C) (y5 y6 : Option Int32), Jn w2 → G (lw_xo Ln xs) mL_law (d + 15) k n Q 603 (lwL i y5 y6) [] w2) : G (lw_xo Ln xs) mL_law (d + 15) k n Q 284 (lwL i x5 x6) [] w := by
  obtain ⟨f7, h7⟩ := lw_r7 hJ
  refine G_aload_n dL_law_284 rfl ?_
  refine lw_arg (c := 1) dL_law_285 dL_law_286 dL_law_288 dL_law_289 dL_law_290 rfl (by omega) hN ?_
  refine G_Cal (d := d + 14) (j := 0) (as' := [.int (xs (i + 1))]) (st := []) cL_law_291 (st_named d (xs (i + 1)) hJ) (lw_pfx Ln xs) h7 rfl rfl rfl rfl (Nat.le_of_ble_eq_true rfl) dL_law_291 (fun w1 v h => ?_)
  obtain ⟨x, rfl, ⟨f8, h8⟩, hB⟩ := h
  refine G_aload_n dL_law_294 rfl ?_
  refine lw_arg (c := 1) dL_law_295 dL_law_296 dL_law_298 dL_law_299 dL_law_300 rfl (by omega) hN ?_
  refine G_Cal (d := d + 14) (j := 36) (as' := [.int (xs (i + 1))]) (st := [.int x]) cL_law_301 hB (lw_pfx Ln xs) h8 rfl rfl rfl rfl (Nat.le_of_ble_eq_true rfl) dL_law_301 (fun w2 v h => ?_)
  obtain ⟨rfl, hJ2⟩ := h
  exact G_icmp_eq (tgt := 603) dL_law_304 (by decide) (fun _ => nx w2 x5 x6 hJ2) (fun h => absurd rfl h)
theorem arm_form (hJ : Jn w) (hi : i + 4 ≤ Ln) (hN : Ln < 2 ^ 30) (nx : ∀ (w2 : List ab_C) (y5 y6 : Option Int32), Jn w2 → G (lw_xo Ln xs) mL_law (d + 15) k n Q 603 (lwL i y5 y6) [] w2) : G (lw_xo Ln xs) mL_law (d + 15) k n Q 309 (lwL i x5 x6) [] w := by
  obtain ⟨f7, h7⟩ := lw_r7 hJ
  refine G_aload_n dL_law_309 rfl ?_
  refine lw_arg (c := 1) dL_law_310 dL_law_311 dL_law_313 dL_law_314 dL_law_315 rfl (by omega) hN ?_
  refine lw_arg (c := 2) dL_law_316 dL_law_317 dL_law_319 dL_law_320 dL_law_321 rfl (by omega) hN ?_
  refine G_Cal (d := d + 14) (j := 0) (as' := [.int (xs (i + 1)), .int (xs (i + 2))]) (st := []) cL_law_322 (st_form d (xs (i + 1)) (xs (i + 2)) hJ) (lw_pfx Ln xs) h7 rfl rfl rfl rfl (Nat.le_of_ble_eq_true rfl) dL_law_322 (fun w1 v h => ?_)
  obtain ⟨x, rfl, ⟨f8, h8⟩, hB⟩ := h
  refine G_aload_n dL_law_325 rfl ?_
  refine lw_arg (c := 1) dL_law_326 dL_law_327 dL_law_329 dL_law_330 dL_law_331 rfl (by omega) hN ?_
  refine lw_arg (c := 2) dL_law_332 dL_law_333 dL_law_335 dL_law_336 dL_law_337 rfl (by omega) hN ?_
  refine G_Cal (d := d + 14) (j := 36) (as' := [.int (xs (i + 1)), .int (xs (i + 2))]) (st := [.int x]) cL_law_338 hB (lw_pfx Ln xs) h8 rfl rfl rfl rfl (Nat.le_of_ble_eq_true rfl) dL_law_338 (fun w2 v h => ?_)
  obtain ⟨rfl, hJ2⟩ := h
  exact G_icmp_eq (tgt := 603) dL_law_341 (by decide) (fun _ => nx w2 x5 x6 hJ2) (fun h => absurd rfl h)
theorem arm_hash (hJ : Jn w) (hi : i + 4 ≤ Ln) (hN : Ln < 2 ^ 30) (nx : ∀ (w2 : List ab_C) (y5 y6 : Option Int32), Jn w2 → G (lw_xo Ln xs) mL_law (d + 15) k n Q 603 (lwL i y5 y6) [] w2) : G (lw_xo Ln xs) mL_law (d + 15) k n Q 402 (lwL i x5 x6) [] w := by
  obtain ⟨f7, h7⟩ := lw_r7 hJ
  refine G_aload_n dL_law_402 rfl ?_
  refine lw_arg (c := 1) dL_law_403 dL_law_404 dL_law_406 dL_law_407 dL_law_408 rfl (by omega) hN ?_
  refine lw_arg (c := 2) dL_law_409 dL_law_410 dL_law_412 dL_law_413 dL_law_414 rfl (by omega) hN ?_
  refine G_Cal (d := d + 14) (j := 0) (as' := [.int (xs (i + 1)), .int (xs (i + 2))]) (st := []) cL_law_415 (st_hash d (xs (i + 1)) (xs (i + 2)) hJ) (lw_pfx Ln xs) h7 rfl rfl rfl rfl (Nat.le_of_ble_eq_true rfl) dL_law_415 (fun w1 v h => ?_)
  obtain ⟨x, rfl, ⟨f8, h8⟩, hB⟩ := h
  refine G_aload_n dL_law_418 rfl ?_
  refine lw_arg (c := 1) dL_law_419 dL_law_420 dL_law_422 dL_law_423 dL_law_424 rfl (by omega) hN ?_
  refine lw_arg (c := 2) dL_law_425 dL_law_426 dL_law_428 dL_law_429 dL_law_430 rfl (by omega) hN ?_
  refine G_Cal (d := d + 14) (j := 36) (as' := [.int (xs (i + 1)), .int (xs (i + 2))]) (st := [.int x]) cL_law_431 hB (lw_pfx Ln xs) h8 rfl rfl rfl rfl (Nat.le_of_ble_eq_true rfl) dL_law_431 (fun w2 v h => ?_)
  obtain ⟨rfl, hJ2⟩ := h
  exact G_icmp_eq (tgt := 603) dL_law_434 (by decide) (fun _ => nx w2 x5 x6 hJ2) (fun h => absurd rfl h)
theorem arm_rounds (hJ : Jn w) (hi : i + 4 ≤ Ln) (hN : Ln < 2 ^ 30) (nx : ∀ (w2 : List ab_C) (y5 y6 : Option Int32), Jn w2 → G (lw_xo Ln xs) mL_law (d + 15) k n Q 603 (lwL i y5 y6) [] w2) : G (lw_xo Ln xs) mL_law (d + 15) k n Q 439 (lwL i x5 x6) [] w := by
  obtain ⟨f7, h7⟩ := lw_r7 hJ
  refine G_aload_n dL_law_439 rfl ?_
  refine G_Cal (d := d + 14) (j := 0) (as' := []) (st := []) cL_law_440 (st_rounds d hJ) (lw_pfx Ln xs) h7 rfl rfl rfl rfl (Nat.le_of_ble_eq_true rfl) dL_law_440 (fun w1 v h => ?_)
  obtain ⟨x, rfl, ⟨f8, h8⟩, hB⟩ := h
  refine G_aload_n dL_law_443 rfl ?_
  refine G_Cal (d := d + 14) (j := 36) (as' := []) (st := [.int x]) cL_law_444 hB (lw_pfx Ln xs) h8 rfl rfl rfl rfl (Nat.le_of_ble_eq_true rfl) dL_law_444 (fun w2 v h => ?_)
  obtain ⟨rfl, hJ2⟩ := h
  exact G_icmp_eq (tgt := 603) dL_law_447 (by decide) (fun _ => nx w2 x5 x6 hJ2) (fun h => absurd rfl h)
theorem arm_first (hJ : Jn w) (hi : i + 4 ≤ Ln) (hN : Ln < 2 ^ 30) (nx : ∀ (w2 : List ab_C) (y5 y6 : Option Int32), Jn w2 → G (lw_xo Ln xs) mL_law (d + 15) k n Q 603 (lwL i y5 y6) [] w2) : G (lw_xo Ln xs) mL_law (d + 15) k n Q 452 (lwL i x5 x6) [] w := by
  obtain ⟨f7, h7⟩ := lw_r7 hJ
  refine G_aload_n dL_law_452 rfl ?_
  refine lw_arg (c := 1) dL_law_453 dL_law_454 dL_law_456 dL_law_457 dL_law_458 rfl (by omega) hN ?_
  refine lw_arg (c := 2) dL_law_459 dL_law_460 dL_law_462 dL_law_463 dL_law_464 rfl (by omega) hN ?_
  refine G_Cal (d := d + 14) (j := 0) (as' := [.int (xs (i + 1)), .int (xs (i + 2))]) (st := []) cL_law_465 (st_first d (xs (i + 1)) (xs (i + 2)) hJ) (lw_pfx Ln xs) h7 rfl rfl rfl rfl (Nat.le_of_ble_eq_true rfl) dL_law_465 (fun w1 v h => ?_)
  obtain ⟨x, rfl, ⟨f8, h8⟩, hB⟩ := h
  refine G_aload_n dL_law_468 rfl ?_
  refine lw_arg (c := 1) dL_law_469 dL_law_470 dL_law_472 dL_law_473 dL_law_474 rfl (by omega) hN ?_
  refine lw_arg (c := 2) dL_law_475 dL_law_476 dL_law_478 dL_law_479 dL_law_480 rfl (by omega) hN ?_
  refine G_Cal (d := d + 14) (j := 36) (as' := [.int (xs (i + 1)), .int (xs (i + 2))]) (st := [.int x]) cL_law_481 hB (lw_pfx Ln xs) h8 rfl rfl rfl rfl (Nat.le_of_ble_eq_true rfl) dL_law_481 (fun w2 v h => ?_)
  obtain ⟨rfl, hJ2⟩ := h
  exact G_icmp_eq (tgt := 603) dL_law_484 (by decide) (fun _ => nx w2 x5 x6 hJ2) (fun h => absurd rfl h)
theorem arm_isomorphic (hJ : Jn w) (hi : i + 4 ≤ Ln) (hN : Ln < 2 ^ 30) (nx : ∀ (w2 : List ab_C) (y5 y6 : Option Int32), Jn w2 → G (lw_xo Ln xs) mL_law (d + 15) k n Q 603 (lwL i y5 y6) [] w2) : G (lw_xo Ln xs) mL_law (d + 15) k n Q 502 (lwL i x5 x6) [] w := by
  obtain ⟨f7, h7⟩ := lw_r7 hJ
  refine G_aload_n dL_law_502 rfl ?_
  refine lw_arg (c := 1) dL_law_503 dL_law_504 dL_law_506 dL_law_507 dL_law_508 rfl (by omega) hN ?_
  refine G_Cal (d := d + 14) (j := 0) (as' := [.int (xs (i + 1))]) (st := []) cL_law_509 (st_isomorphic d (xs (i + 1)) hJ) (lw_pfx Ln xs) h7 rfl rfl rfl rfl (Nat.le_of_ble_eq_true rfl) dL_law_509 (fun w1 v h => ?_)
  obtain ⟨x, rfl, ⟨f8, h8⟩, hB⟩ := h
  refine G_aload_n dL_law_512 rfl ?_
  refine lw_arg (c := 1) dL_law_513 dL_law_514 dL_law_516 dL_law_517 dL_law_518 rfl (by omega) hN ?_
  refine G_Cal (d := d + 14) (j := 36) (as' := [.int (xs (i + 1))]) (st := [.int x]) cL_law_519 hB (lw_pfx Ln xs) h8 rfl rfl rfl rfl (Nat.le_of_ble_eq_true rfl) dL_law_519 (fun w2 v h => ?_)
  obtain ⟨rfl, hJ2⟩ := h
  exact G_icmp_eq (tgt := 603) dL_law_522 (by decide) (fun _ => nx w2 x5 x6 hJ2) (fun h => absurd rfl h)
theorem arm_ways (hJ : Jn w) (hi : i + 4 ≤ Ln) (hN : Ln < 2 ^ 30) (nx : ∀ (w2 : List ab_C) (y5 y6 : Option Int32), Jn w2 → G (lw_xo Ln xs) mL_law (d + 15) k n Q 603 (lwL i y5 y6) [] w2) : G (lw_xo Ln xs) mL_law (d + 15) k n Q 527 (lwL i x5 x6) [] w := by
  obtain ⟨f7, h7⟩ := lw_r7 hJ
  refine G_aload_n dL_law_527 rfl ?_
  refine lw_arg (c := 1) dL_law_528 dL_law_529 dL_law_531 dL_law_532 dL_law_533 rfl (by omega) hN ?_
  refine G_Cal (d := d + 14) (j := 0) (as' := [.int (xs (i + 1))]) (st := []) cL_law_534 (st_ways d (xs (i + 1)) hJ) (lw_pfx Ln xs) h7 rfl rfl rfl rfl (Nat.le_of_ble_eq_true rfl) dL_law_534 (fun w1 v h => ?_)
  obtain ⟨x, rfl, ⟨f8, h8⟩, hB⟩ := h
  refine G_aload_n dL_law_537 rfl ?_
  refine lw_arg (c := 1) dL_law_538 dL_law_539 dL_law_541 dL_law_542 dL_law_543 rfl (by omega) hN ?_
  refine G_Cal (d := d + 14) (j := 36) (as' := [.int (xs (i + 1))]) (st := [.int x]) cL_law_544 hB (lw_pfx Ln xs) h8 rfl rfl rfl rfl (Nat.le_of_ble_eq_true rfl) dL_law_544 (fun w2 v h => ?_)
  obtain ⟨rfl, hJ2⟩ := h
  exact G_icmp_eq (tgt := 603) dL_law_547 (by decide) (fun _ => nx w2 x5 x6 hJ2) (fun h => absurd rfl h)
theorem arm_equal (hJ : Jn w) (hi : i + 4 ≤ Ln) (hN : Ln < 2 ^ 30) (nx : ∀ (w2 : List ab_C) (y5 y6 : Option Int32), Jn w2 → G (lw_xo Ln xs) mL_law (d + 15) k n Q 603 (lwL i y5 y6) [] w2) : G (lw_xo Ln xs) mL_law (d + 15) k n Q 552 (lwL i x5 x6) [] w := by
  obtain ⟨f7, h7⟩ := lw_r7 hJ
  refine G_aload_n dL_law_552 rfl ?_
  refine lw_arg (c := 1) dL_law_553 dL_law_554 dL_law_556 dL_law_557 dL_law_558 rfl (by omega) hN ?_
  refine G_Cal (d := d + 14) (j := 0) (as' := [.int (xs (i + 1))]) (st := []) cL_law_559 (st_equal d (xs (i + 1)) hJ) (lw_pfx Ln xs) h7 rfl rfl rfl rfl (Nat.le_of_ble_eq_true rfl) dL_law_559 (fun w1 v h => ?_)
  obtain ⟨x, rfl, ⟨f8, h8⟩, hB⟩ := h
  refine G_aload_n dL_law_562 rfl ?_
  refine lw_arg (c := 1) dL_law_563 dL_law_564 dL_law_566 dL_law_567 dL_law_568 rfl (by omega) hN ?_
  refine G_Cal (d := d + 14) (j := 36) (as' := [.int (xs (i + 1))]) (st := [.int x]) cL_law_569 hB (lw_pfx Ln xs) h8 rfl rfl rfl rfl (Nat.le_of_ble_eq_true rfl) dL_law_569 (fun w2 v h => ?_)
  obtain ⟨rfl, hJ2⟩ := h
  exact G_icmp_eq (tgt := 603) dL_law_572 (by decide) (fun _ => nx w2 x5 x6 hJ2) (fun h => absurd rfl h)
theorem arm_triples (hJ : Jn w) (hi : i + 4 ≤ Ln) (hN : Ln < 2 ^ 30) (nx : ∀ (w2 : List ab_C) (y5 y6 : Option Int32), Jn w2 → G (lw_xo Ln xs) mL_law (d + 15) k n Q 603 (lwL i y5 y6) [] w2) : G (lw_xo Ln xs) mL_law (d + 15) k n Q 577 (lwL i x5 x6) [] w := by
  obtain ⟨f7, h7⟩ := lw_r7 hJ
  refine G_aload_n dL_law_577 rfl ?_
  refine G_Cal (d := d + 14) (j := 0) (as' := []) (st := []) cL_law_578 (st_triples d hJ) (lw_pfx Ln xs) h7 rfl rfl rfl rfl (Nat.le_of_ble_eq_true rfl) dL_law_578 (fun w1 v h => ?_)
  obtain ⟨x, rfl, ⟨f8, h8⟩, hB⟩ := h
  refine G_aload_n dL_law_581 rfl ?_
  refine G_Cal (d := d + 14) (j := 36) (as' := []) (st := [.int x]) cL_law_582 hB (lw_pfx Ln xs) h8 rfl rfl rfl rfl (Nat.le_of_ble_eq_true rfl) dL_law_582 (fun w2 v h => ?_)
  obtain ⟨rfl, hJ2⟩ := h
  exact G_icmp_eq (tgt := 603) dL_law_585 (by decide) (fun _ => nx w2 x5 x6 hJ2) (fun h => absurd rfl h)
theorem arm_blanks (hJ : Jn w) (hi : i + 4 ≤ Ln) (hN : Ln < 2 ^ 30) (nx : ∀ (w2 : List ab_C) (y5 y6 : Option Int32), Jn w2 → G (lw_xo Ln xs) mL_law (d + 15) k n Q 603 (lwL i y5 y6) [] w2) : G (lw_xo Ln xs) mL_law (d + 15) k n Q 590 (lwL i x5 x6) [] w := by
  obtain ⟨f7, h7⟩ := lw_r7 hJ
  refine G_aload_n dL_law_590 rfl ?_
  refine G_Cal (d := d + 14) (j := 0) (as' := []) (st := []) cL_law_591 (st_blanks d hJ) (lw_pfx Ln xs) h7 rfl rfl rfl rfl (Nat.le_of_ble_eq_true rfl) dL_law_591 (fun w1 v h => ?_)
  obtain ⟨x, rfl, ⟨f8, h8⟩, hB⟩ := h
  refine G_aload_n dL_law_594 rfl ?_
  refine G_Cal (d := d + 14) (j := 36) (as' := []) (st := [.int x]) cL_law_595 hB (lw_pfx Ln xs) h8 rfl rfl rfl rfl (Nat.le_of_ble_eq_true rfl) dL_law_595 (fun w2 v h => ?_)
  obtain ⟨rfl, hJ2⟩ := h
  exact G_icmp_eq (tgt := 603) dL_law_598 (by decide) (fun _ => nx w2 x5 x6 hJ2) (fun h => absurd rfl h)
theorem arm_keep (hJ : Jn w) (hi : i + 4 ≤ Ln) (hN : Ln < 2 ^ 30) (nx : ∀ (w2 : List ab_C) (y5 y6 : Option Int32), Jn w2 → G (lw_xo Ln xs) mL_law (d + 15) k n Q 603 (lwL i y5 y6) [] w2) : G (lw_xo Ln xs) mL_law (d + 15) (k + 7) (n + 140) Q 489 (lwL i x5 x6) [] w := by
  obtain ⟨f7, h7⟩ := lw_r7 hJ
  rcases st_keep d hJ with hS | ⟨hsc0, hA⟩
  · refine G_mono (k := k) (n := n) (Q := Q) ?_ (by omega) (by omega) (fun _ _ h => h)
    refine G_aload_n dL_law_489 rfl ?_
    refine G_Cal (d := d + 14) (j := 0) (as' := []) (st := []) cL_law_490 hS (lw_pfx Ln xs) h7 rfl rfl rfl rfl (Nat.le_of_ble_eq_true rfl) dL_law_490 (fun w1 v h => ?_)
    obtain ⟨x, rfl, ⟨f8, h8⟩, hB⟩ := h
    refine G_aload_n dL_law_493 rfl ?_
    refine G_Cal (d := d + 14) (j := 36) (as' := []) (st := [.int x]) cL_law_494 hB (lw_pfx Ln xs) h8 rfl rfl rfl rfl (Nat.le_of_ble_eq_true rfl) dL_law_494 (fun w2 v h => ?_)
    obtain ⟨rfl, hJ2⟩ := h
    exact G_icmp_eq (tgt := 603) dL_law_497 (by decide) (fun _ => nx w2 x5 x6 hJ2) (fun h => absurd rfl h)
  · have hl := lw_len hJ
    have hsc : ab_scS (w.length + 100) (lwL i x5 x6) [] w := by
      refine ⟨fun v hv => ?_, fun v hv => by simp at hv, hsc0⟩
      simp only [List.mem_cons, List.not_mem_nil, or_false, Option.some.injEq] at hv
      rcases hv with rfl | rfl | rfl | rfl | rfl | h | h
      · show 3 < w.length + 100; omega
      · show 100 < w.length + 100; omega
      · show 136 < w.length + 100; omega
      · show 155 < w.length + 100; omega
      · trivial
      · cases x5 <;> simp at h
        subst h
        trivial
      · cases x6 <;> simp at h
        subst h
        trivial
    refine G_aload_n dL_law_489 rfl ?_
    refine G_CalA (d := d + 14) (k := k) (n := n) (mc := 7) (ms := 140) (j := 0) (as' := []) (st := []) cL_law_490 hA (lw_pfx Ln xs) h7 rfl rfl rfl rfl (Nat.le_of_ble_eq_true rfl) dL_law_490 hsc (fun w1 v h => ?_)
    obtain ⟨x, rfl, ⟨f8, h8⟩, hB⟩ := h
    refine G_aload_n dL_law_493 rfl ?_
    refine G_Cal (d := d + 14) (j := 36) (as' := []) (st := [.int x]) cL_law_494 hB (lw_pfx Ln xs) h8 rfl rfl rfl rfl (Nat.le_of_ble_eq_true rfl) dL_law_494 (fun w2 v h => ?_)
    obtain ⟨rfl, hJ2⟩ := h
    exact G_icmp_eq (tgt := 603) dL_law_497 (by decide) (fun _ => nx w2 x5 x6 hJ2) (fun h => absurd rfl h)
theorem arm_octet (hJ : Jn w) (hi : i + 4 ≤ Ln) (hN : Ln < 2 ^ 30) (nx : ∀ (w2 : List ab_C) (y5 y6 : Option Int32), Jn w2 → G (lw_xo Ln xs) mL_law (d + 15) k n Q 603 (lwL i y5 y6) [] w2) : G (lw_xo Ln xs) mL_law (d + 15) (k + 1) (n + 6) Q 346 (lwL i x5 x6) [] w := by
  refine G_aload_n dL_law_346 rfl ?_
  refine lw_arg (c := 1) dL_law_347 dL_law_348 dL_law_350 dL_law_351 dL_law_352 rfl (by omega) hN ?_
  refine G_aload_n dL_law_353 rfl ?_
  refine G_CalO (d := d + 14) (k := k) (n := n) (as' := [.ref 100, .int (xs (i + 1)), .ref 155]) (st := []) oc_law (st_octet d (xs (i + 1)) hJ) (lw_pfx Ln xs) rfl rfl rfl (Nat.le_of_ble_eq_true rfl) dL_law_354 (fun w1 v h => ?_)
  obtain ⟨a, rfl, ⟨f8, h8⟩, hB⟩ := h
  refine G_istore (L' := lwL i (some a) x6) dL_law_357 (Nat.le_of_ble_eq_true rfl) rfl ?_
  refine G_aload_n dL_law_359 rfl ?_
  refine lw_arg (c := 1) dL_law_360 dL_law_361 dL_law_363 dL_law_364 dL_law_365 rfl (by omega) hN ?_
  refine G_Cal (d := d + 14) (j := 36) (as' := [.int (xs (i + 1))]) (st := []) cL_law_366 hB (lw_pfx Ln xs) h8 rfl rfl rfl rfl (Nat.le_of_ble_eq_true rfl) dL_law_366 (fun w2 v h => ?_)
  obtain ⟨y, rfl, ⟨f9, h9⟩, hT⟩ := h
  refine G_istore (L' := lwL i (some a) (some y)) dL_law_369 (Nat.le_of_ble_eq_true rfl) rfl ?_
  refine G_aload_n dL_law_371 rfl ?_
  refine G_Cal (d := d + 14) (j := 36) (as' := []) (st := []) cL_law_372 hT (lw_pfx Ln xs) h9 rfl rfl rfl rfl (Nat.le_of_ble_eq_true rfl) dL_law_372 (fun w3 v h => ?_)
  obtain ⟨rfl, hJ3, h55⟩ := h
  refine G_iload dL_law_375 rfl ?_
  refine G_icmp_eq (tgt := 382) dL_law_377 (by decide) (fun _ => ?_) (fun h => absurd rfl h)
  refine G_iload dL_law_382 rfl ?_
  refine G_if_ne (tgt := 399) dL_law_384 (by decide) (fun _ => G_goto (tgt := 603) dL_law_399 (by decide) (nx w3 (some a) (some y) hJ3)) (fun h0 => ?_)
  obtain ⟨f, hf, hfy⟩ := h55 h0
  refine G_aload_n dL_law_387 rfl ?_
  refine G_iconst (v := 0) dL_law_388 (by decide) ?_
  refine G_laldN (j := 55) 0 dL_law_389 hf rfl (by decide) (by decide) ?_
  refine G_iload dL_law_390 rfl ?_
  refine G_i2l dL_law_392 ?_
  refine G_lcmp dL_law_393 ?_
  have e0 : lg_cmp (f 0) y.toInt64 = 0 := by rw [hfy]; simp [lg_cmp]
  refine G_topi e0 ?_
  exact G_if_eq (tgt := 399) dL_law_394 (by decide) (fun _ => G_goto (tgt := 603) dL_law_399 (by decide) (nx w3 (some a) (some y) hJ3)) (fun h => absurd rfl h)
end LAW
theorem law_loop (d Ln : Nat) (xs : Nat → Int32) (hN : Ln < 2 ^ 28) : ∀ (t i : Nat) (x5 x6 : Option Int32) (w : List ab_C), Ln ≤ i + 4 * t + 3 → i ≤ Ln + 4 → Jn w → G (lw_xo Ln xs) mL_law (d + 15) (7 * t) (140 * t) lwQ1 23 (lwL i x5 x6) [] w := by
  intro t
  induction t with
  | zero =>
    intro i x5 x6 w h1 h2 hJ
    refine G_iload dL_law_23 rfl ?_
    refine G_aload_n dL_law_25 rfl ?_
    refine G_xlen (j := 3) dL_law_26 (lw_x3 Ln xs) ?_
    refine G_iconst (v := 4) dL_law_27 (by decide) ?_
    refine G_isub dL_law_28 ?_
    refine G_icmp_gt (tgt := 609) dL_law_29 (by decide) (fun _ => ?_) (fun h => ?_)
    · refine G_iconst (v := 1) dL_law_609 (by decide) ?_
      exact G_ret (v := some (.int 1)) ⟨dL_law_610, .boolean, rfl, rfl⟩ rfl
    · have := lw_cmp (Ln := Ln) (i := i) (by omega) (by omega) h
      omega
  | succ t ih =>
    intro i x5 x6 w h1 h2 hJ
    refine G_iload dL_law_23 rfl ?_
    refine G_aload_n dL_law_25 rfl ?_
    refine G_xlen (j := 3) dL_law_26 (lw_x3 Ln xs) ?_
    refine G_iconst (v := 4) dL_law_27 (by decide) ?_
    refine G_isub dL_law_28 ?_
    refine G_icmp_gt (tgt := 609) dL_law_29 (by decide) (fun _ => ?_) (fun h => ?_)
    · refine G_iconst (v := 1) dL_law_609 (by decide) ?_
      exact G_ret (v := some (.int 1)) ⟨dL_law_610, .boolean, rfl, rfl⟩ rfl
    · have hi := lw_cmp (Ln := Ln) (i := i) (by omega) (by omega) h
      have nx : ∀ (w2 : List ab_C) (y5 y6 : Option Int32), Jn w2 → G (lw_xo Ln xs) mL_law (d + 15) (7 * t) (140 * t) lwQ1 603 (lwL i y5 y6) [] w2 := fun w2 y5 y6 hJ2 => by
        refine G_iinc (L' := lwL (i + 4) y5 y6) (v := nI (i + 4)) dL_law_603 rfl (lw_add (c := 4) (by omega)) rfl ?_
        exact G_goto (tgt := 23) dL_law_606 (by decide) (ih (i + 4) y5 y6 w2 (by omega) (by omega) hJ2)
      refine G_aload_n dL_law_32 rfl ?_
      refine G_iload dL_law_33 rfl ?_
      refine G_xaldN (j := 3) i dL_law_35 (lw_x3 Ln xs) rfl (by omega) (by omega) ?_
      refine G_bipush (v := 15) dL_law_36 (by decide) ?_
      refine G_iand dL_law_38 ?_
      obtain ⟨q, hq, e⟩ := lw_and (xs i)
      refine G_topi e ?_
      match q, hq with
      | 0, _ => exact G_table (tgt := 116) dL_law_39 (by decide) (by decide) rfl (by decide) (G_mono (arm_blank hJ hi (by omega) nx) (by omega) (by omega) (fun _ _ h => h))
      | 1, _ => exact G_table (tgt := 129) dL_law_39 (by decide) (by decide) rfl (by decide) (G_mono (arm_triple hJ hi (by omega) nx) (by omega) (by omega) (fun _ _ h => h))
      | 2, _ => exact G_table (tgt := 178) dL_law_39 (by decide) (by decide) rfl (by decide) (G_mono (arm_drop hJ hi (by omega) nx) (by omega) (by omega) (fun _ _ h => h))
      | 3, _ => exact G_table (tgt := 227) dL_law_39 (by decide) (by decide) rfl (by decide) (G_mono (arm_name hJ hi (by omega) nx) (by omega) (by omega) (fun _ _ h => h))
      | 4, _ => exact G_table (tgt := 284) dL_law_39 (by decide) (by decide) rfl (by decide) (G_mono (arm_named hJ hi (by omega) nx) (by omega) (by omega) (fun _ _ h => h))
      | 5, _ => exact G_table (tgt := 309) dL_law_39 (by decide) (by decide) rfl (by decide) (G_mono (arm_form hJ hi (by omega) nx) (by omega) (by omega) (fun _ _ h => h))
      | 6, _ => exact G_table (tgt := 346) dL_law_39 (by decide) (by decide) rfl (by decide) (G_mono (arm_octet hJ hi (by omega) nx) (by omega) (by omega) (fun _ _ h => h))
      | 7, _ => exact G_table (tgt := 402) dL_law_39 (by decide) (by decide) rfl (by decide) (G_mono (arm_hash hJ hi (by omega) nx) (by omega) (by omega) (fun _ _ h => h))
      | 8, _ => exact G_table (tgt := 439) dL_law_39 (by decide) (by decide) rfl (by decide) (G_mono (arm_rounds hJ hi (by omega) nx) (by omega) (by omega) (fun _ _ h => h))
      | 9, _ => exact G_table (tgt := 452) dL_law_39 (by decide) (by decide) rfl (by decide) (G_mono (arm_first hJ hi (by omega) nx) (by omega) (by omega) (fun _ _ h => h))
      | 10, _ => exact G_table (tgt := 489) dL_law_39 (by decide) (by decide) rfl (by decide) (G_mono (arm_keep hJ hi (by omega) nx) (by omega) (by omega) (fun _ _ h => h))
      | 11, _ => exact G_table (tgt := 502) dL_law_39 (by decide) (by decide) rfl (by decide) (G_mono (arm_isomorphic hJ hi (by omega) nx) (by omega) (by omega) (fun _ _ h => h))
      | 12, _ => exact G_table (tgt := 527) dL_law_39 (by decide) (by decide) rfl (by decide) (G_mono (arm_ways hJ hi (by omega) nx) (by omega) (by omega) (fun _ _ h => h))
      | 13, _ => exact G_table (tgt := 552) dL_law_39 (by decide) (by decide) rfl (by decide) (G_mono (arm_equal hJ hi (by omega) nx) (by omega) (by omega) (fun _ _ h => h))
      | 14, _ => exact G_table (tgt := 577) dL_law_39 (by decide) (by decide) rfl (by decide) (G_mono (arm_triples hJ hi (by omega) nx) (by omega) (by omega) (fun _ _ h => h))
      | 15, _ => exact G_table (tgt := 590) dL_law_39 (by decide) (by decide) rfl (by decide) (G_mono (arm_blanks hJ hi (by omega) nx) (by omega) (by omega) (fun _ _ h => h))
      | q + 16, hq => exact absurd hq (by omega)
