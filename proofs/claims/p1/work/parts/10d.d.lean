theorem dX8_thrown_0 : decode cX8_thrown 0 = .ok (.aload_n 0, 1) := by decide +kernel
theorem dX8_thrown_1 : decode cX8_thrown 1 = .ok (.getfield 1, 3) := by decide +kernel
theorem dX8_thrown_4 : decode cX8_thrown 4 = .ok (.ireturn, 1) := by decide +kernel
theorem dX8_init_0 : decode cX8_init 0 = .ok (.aload_n 0, 1) := by decide +kernel
theorem dX8_init_1 : decode cX8_init 1 = .ok (.invokespecial 7, 3) := by decide +kernel
theorem dX8_init_4 : decode cX8_init 4 = .ok (.aload_n 0, 1) := by decide +kernel
theorem dX8_init_5 : decode cX8_init 5 = .ok (.bipush 64, 2) := by decide +kernel
theorem dX8_init_7 : decode cX8_init 7 = .ok (.newarray .long, 2) := by decide +kernel
theorem dX8_init_9 : decode cX8_init 9 = .ok (.dup, 1) := by decide +kernel
theorem dX8_init_10 : decode cX8_init 10 = .ok (.iconst 0, 1) := by decide +kernel
theorem dX8_init_11 : decode cX8_init 11 = .ok (.ldc2_w 13, 3) := by decide +kernel
theorem dX8_init_14 : decode cX8_init 14 = .ok (.lastore, 1) := by decide +kernel
theorem dX8_init_15 : decode cX8_init 15 = .ok (.dup, 1) := by decide +kernel
theorem dX8_init_16 : decode cX8_init 16 = .ok (.iconst 1, 1) := by decide +kernel
theorem dX8_init_17 : decode cX8_init 17 = .ok (.ldc2_w 15, 3) := by decide +kernel
theorem dX8_init_20 : decode cX8_init 20 = .ok (.lastore, 1) := by decide +kernel
theorem dX8_init_21 : decode cX8_init 21 = .ok (.dup, 1) := by decide +kernel
theorem dX8_init_22 : decode cX8_init 22 = .ok (.iconst 2, 1) := by decide +kernel
theorem dX8_init_23 : decode cX8_init 23 = .ok (.ldc2_w 17, 3) := by decide +kernel
theorem dX8_init_26 : decode cX8_init 26 = .ok (.lastore, 1) := by decide +kernel
theorem dX8_init_27 : decode cX8_init 27 = .ok (.dup, 1) := by decide +kernel
theorem dX8_init_28 : decode cX8_init 28 = .ok (.iconst 3, 1) := by decide +kernel
theorem dX8_init_29 : decode cX8_init 29 = .ok (.ldc2_w 19, 3) := by decide +kernel
theorem dX8_init_32 : decode cX8_init 32 = .ok (.lastore, 1) := by decide +kernel
theorem dX8_init_33 : decode cX8_init 33 = .ok (.dup, 1) := by decide +kernel
theorem dX8_init_34 : decode cX8_init 34 = .ok (.iconst 4, 1) := by decide +kernel
theorem dX8_init_35 : decode cX8_init 35 = .ok (.ldc2_w 21, 3) := by decide +kernel
theorem dX8_init_38 : decode cX8_init 38 = .ok (.lastore, 1) := by decide +kernel
theorem dX8_init_39 : decode cX8_init 39 = .ok (.dup, 1) := by decide +kernel
theorem dX8_init_40 : decode cX8_init 40 = .ok (.iconst 5, 1) := by decide +kernel
theorem dX8_init_41 : decode cX8_init 41 = .ok (.ldc2_w 23, 3) := by decide +kernel
theorem dX8_init_44 : decode cX8_init 44 = .ok (.lastore, 1) := by decide +kernel
theorem dX8_init_45 : decode cX8_init 45 = .ok (.dup, 1) := by decide +kernel
theorem dX8_init_46 : decode cX8_init 46 = .ok (.bipush 6, 2) := by decide +kernel
theorem dX8_init_48 : decode cX8_init 48 = .ok (.ldc2_w 25, 3) := by decide +kernel
theorem dX8_init_51 : decode cX8_init 51 = .ok (.lastore, 1) := by decide +kernel
theorem dX8_init_52 : decode cX8_init 52 = .ok (.dup, 1) := by decide +kernel
theorem dX8_init_53 : decode cX8_init 53 = .ok (.bipush 7, 2) := by decide +kernel
theorem dX8_init_55 : decode cX8_init 55 = .ok (.ldc2_w 27, 3) := by decide +kernel
theorem dX8_init_58 : decode cX8_init 58 = .ok (.lastore, 1) := by decide +kernel
theorem dX8_init_59 : decode cX8_init 59 = .ok (.dup, 1) := by decide +kernel
theorem dX8_init_60 : decode cX8_init 60 = .ok (.bipush 8, 2) := by decide +kernel
theorem dX8_init_62 : decode cX8_init 62 = .ok (.ldc2_w 29, 3) := by decide +kernel
theorem dX8_init_65 : decode cX8_init 65 = .ok (.lastore, 1) := by decide +kernel
theorem dX8_init_66 : decode cX8_init 66 = .ok (.dup, 1) := by decide +kernel
theorem dX8_init_67 : decode cX8_init 67 = .ok (.bipush 9, 2) := by decide +kernel
theorem dX8_init_69 : decode cX8_init 69 = .ok (.ldc2_w 31, 3) := by decide +kernel
theorem dX8_init_72 : decode cX8_init 72 = .ok (.lastore, 1) := by decide +kernel
theorem dX8_init_73 : decode cX8_init 73 = .ok (.dup, 1) := by decide +kernel
theorem dX8_init_74 : decode cX8_init 74 = .ok (.bipush 10, 2) := by decide +kernel
theorem dX8_init_76 : decode cX8_init 76 = .ok (.ldc2_w 33, 3) := by decide +kernel
theorem dX8_init_79 : decode cX8_init 79 = .ok (.lastore, 1) := by decide +kernel
theorem dX8_init_80 : decode cX8_init 80 = .ok (.dup, 1) := by decide +kernel
theorem dX8_init_81 : decode cX8_init 81 = .ok (.bipush 11, 2) := by decide +kernel
theorem dX8_init_83 : decode cX8_init 83 = .ok (.ldc2_w 35, 3) := by decide +kernel
theorem dX8_init_86 : decode cX8_init 86 = .ok (.lastore, 1) := by decide +kernel
theorem dX8_init_87 : decode cX8_init 87 = .ok (.dup, 1) := by decide +kernel
theorem dX8_init_88 : decode cX8_init 88 = .ok (.bipush 12, 2) := by decide +kernel
theorem dX8_init_90 : decode cX8_init 90 = .ok (.ldc2_w 37, 3) := by decide +kernel
theorem dX8_init_93 : decode cX8_init 93 = .ok (.lastore, 1) := by decide +kernel
theorem dX8_init_94 : decode cX8_init 94 = .ok (.dup, 1) := by decide +kernel
theorem dX8_init_95 : decode cX8_init 95 = .ok (.bipush 13, 2) := by decide +kernel
theorem dX8_init_97 : decode cX8_init 97 = .ok (.ldc2_w 39, 3) := by decide +kernel
theorem dX8_init_100 : decode cX8_init 100 = .ok (.lastore, 1) := by decide +kernel
theorem dX8_init_101 : decode cX8_init 101 = .ok (.dup, 1) := by decide +kernel
theorem dX8_init_102 : decode cX8_init 102 = .ok (.bipush 14, 2) := by decide +kernel
theorem dX8_init_104 : decode cX8_init 104 = .ok (.ldc2_w 41, 3) := by decide +kernel
theorem dX8_init_107 : decode cX8_init 107 = .ok (.lastore, 1) := by decide +kernel
theorem dX8_init_108 : decode cX8_init 108 = .ok (.dup, 1) := by decide +kernel
theorem dX8_init_109 : decode cX8_init 109 = .ok (.bipush 15, 2) := by decide +kernel
theorem dX8_init_111 : decode cX8_init 111 = .ok (.ldc2_w 43, 3) := by decide +kernel
theorem dX8_init_114 : decode cX8_init 114 = .ok (.lastore, 1) := by decide +kernel
theorem dX8_init_115 : decode cX8_init 115 = .ok (.dup, 1) := by decide +kernel
theorem dX8_init_116 : decode cX8_init 116 = .ok (.bipush 16, 2) := by decide +kernel
theorem dX8_init_118 : decode cX8_init 118 = .ok (.ldc2_w 45, 3) := by decide +kernel
theorem dX8_init_121 : decode cX8_init 121 = .ok (.lastore, 1) := by decide +kernel
theorem dX8_init_122 : decode cX8_init 122 = .ok (.dup, 1) := by decide +kernel
theorem dX8_init_123 : decode cX8_init 123 = .ok (.bipush 17, 2) := by decide +kernel
theorem dX8_init_125 : decode cX8_init 125 = .ok (.ldc2_w 47, 3) := by decide +kernel
theorem dX8_init_128 : decode cX8_init 128 = .ok (.lastore, 1) := by decide +kernel
theorem dX8_init_129 : decode cX8_init 129 = .ok (.dup, 1) := by decide +kernel
theorem dX8_init_130 : decode cX8_init 130 = .ok (.bipush 18, 2) := by decide +kernel
theorem dX8_init_132 : decode cX8_init 132 = .ok (.ldc2_w 49, 3) := by decide +kernel
theorem dX8_init_135 : decode cX8_init 135 = .ok (.lastore, 1) := by decide +kernel
theorem dX8_init_136 : decode cX8_init 136 = .ok (.dup, 1) := by decide +kernel
theorem dX8_init_137 : decode cX8_init 137 = .ok (.bipush 19, 2) := by decide +kernel
theorem dX8_init_139 : decode cX8_init 139 = .ok (.ldc2_w 51, 3) := by decide +kernel
theorem dX8_init_142 : decode cX8_init 142 = .ok (.lastore, 1) := by decide +kernel
theorem dX8_init_143 : decode cX8_init 143 = .ok (.dup, 1) := by decide +kernel
theorem dX8_init_144 : decode cX8_init 144 = .ok (.bipush 20, 2) := by decide +kernel
theorem dX8_init_146 : decode cX8_init 146 = .ok (.ldc2_w 53, 3) := by decide +kernel
theorem dX8_init_149 : decode cX8_init 149 = .ok (.lastore, 1) := by decide +kernel
theorem dX8_init_150 : decode cX8_init 150 = .ok (.dup, 1) := by decide +kernel
theorem dX8_init_151 : decode cX8_init 151 = .ok (.bipush 21, 2) := by decide +kernel
theorem dX8_init_153 : decode cX8_init 153 = .ok (.ldc2_w 55, 3) := by decide +kernel
theorem dX8_init_156 : decode cX8_init 156 = .ok (.lastore, 1) := by decide +kernel
theorem dX8_init_157 : decode cX8_init 157 = .ok (.dup, 1) := by decide +kernel
theorem dX8_init_158 : decode cX8_init 158 = .ok (.bipush 22, 2) := by decide +kernel
theorem dX8_init_160 : decode cX8_init 160 = .ok (.ldc2_w 57, 3) := by decide +kernel
theorem dX8_init_163 : decode cX8_init 163 = .ok (.lastore, 1) := by decide +kernel
theorem dX8_init_164 : decode cX8_init 164 = .ok (.dup, 1) := by decide +kernel
theorem dX8_init_165 : decode cX8_init 165 = .ok (.bipush 23, 2) := by decide +kernel
theorem dX8_init_167 : decode cX8_init 167 = .ok (.ldc2_w 59, 3) := by decide +kernel
theorem dX8_init_170 : decode cX8_init 170 = .ok (.lastore, 1) := by decide +kernel
theorem dX8_init_171 : decode cX8_init 171 = .ok (.dup, 1) := by decide +kernel
theorem dX8_init_172 : decode cX8_init 172 = .ok (.bipush 24, 2) := by decide +kernel
theorem dX8_init_174 : decode cX8_init 174 = .ok (.ldc2_w 61, 3) := by decide +kernel
theorem dX8_init_177 : decode cX8_init 177 = .ok (.lastore, 1) := by decide +kernel
theorem dX8_init_178 : decode cX8_init 178 = .ok (.dup, 1) := by decide +kernel
theorem dX8_init_179 : decode cX8_init 179 = .ok (.bipush 25, 2) := by decide +kernel
theorem dX8_init_181 : decode cX8_init 181 = .ok (.ldc2_w 63, 3) := by decide +kernel
theorem dX8_init_184 : decode cX8_init 184 = .ok (.lastore, 1) := by decide +kernel
theorem dX8_init_185 : decode cX8_init 185 = .ok (.dup, 1) := by decide +kernel
theorem dX8_init_186 : decode cX8_init 186 = .ok (.bipush 26, 2) := by decide +kernel
theorem dX8_init_188 : decode cX8_init 188 = .ok (.ldc2_w 65, 3) := by decide +kernel
theorem dX8_init_191 : decode cX8_init 191 = .ok (.lastore, 1) := by decide +kernel
theorem dX8_init_192 : decode cX8_init 192 = .ok (.dup, 1) := by decide +kernel
theorem dX8_init_193 : decode cX8_init 193 = .ok (.bipush 27, 2) := by decide +kernel
theorem dX8_init_195 : decode cX8_init 195 = .ok (.ldc2_w 67, 3) := by decide +kernel
theorem dX8_init_198 : decode cX8_init 198 = .ok (.lastore, 1) := by decide +kernel
theorem dX8_init_199 : decode cX8_init 199 = .ok (.dup, 1) := by decide +kernel
theorem dX8_init_200 : decode cX8_init 200 = .ok (.bipush 28, 2) := by decide +kernel
theorem dX8_init_202 : decode cX8_init 202 = .ok (.ldc2_w 69, 3) := by decide +kernel
theorem dX8_init_205 : decode cX8_init 205 = .ok (.lastore, 1) := by decide +kernel
theorem dX8_init_206 : decode cX8_init 206 = .ok (.dup, 1) := by decide +kernel
theorem dX8_init_207 : decode cX8_init 207 = .ok (.bipush 29, 2) := by decide +kernel
theorem dX8_init_209 : decode cX8_init 209 = .ok (.ldc2_w 71, 3) := by decide +kernel
theorem dX8_init_212 : decode cX8_init 212 = .ok (.lastore, 1) := by decide +kernel
theorem dX8_init_213 : decode cX8_init 213 = .ok (.dup, 1) := by decide +kernel
theorem dX8_init_214 : decode cX8_init 214 = .ok (.bipush 30, 2) := by decide +kernel
theorem dX8_init_216 : decode cX8_init 216 = .ok (.ldc2_w 73, 3) := by decide +kernel
theorem dX8_init_219 : decode cX8_init 219 = .ok (.lastore, 1) := by decide +kernel
theorem dX8_init_220 : decode cX8_init 220 = .ok (.dup, 1) := by decide +kernel
theorem dX8_init_221 : decode cX8_init 221 = .ok (.bipush 31, 2) := by decide +kernel
theorem dX8_init_223 : decode cX8_init 223 = .ok (.ldc2_w 75, 3) := by decide +kernel
theorem dX8_init_226 : decode cX8_init 226 = .ok (.lastore, 1) := by decide +kernel
theorem dX8_init_227 : decode cX8_init 227 = .ok (.dup, 1) := by decide +kernel
theorem dX8_init_228 : decode cX8_init 228 = .ok (.bipush 32, 2) := by decide +kernel
theorem dX8_init_230 : decode cX8_init 230 = .ok (.ldc2_w 77, 3) := by decide +kernel
theorem dX8_init_233 : decode cX8_init 233 = .ok (.lastore, 1) := by decide +kernel
theorem dX8_init_234 : decode cX8_init 234 = .ok (.dup, 1) := by decide +kernel
theorem dX8_init_235 : decode cX8_init 235 = .ok (.bipush 33, 2) := by decide +kernel
theorem dX8_init_237 : decode cX8_init 237 = .ok (.ldc2_w 79, 3) := by decide +kernel
theorem dX8_init_240 : decode cX8_init 240 = .ok (.lastore, 1) := by decide +kernel
theorem dX8_init_241 : decode cX8_init 241 = .ok (.dup, 1) := by decide +kernel
theorem dX8_init_242 : decode cX8_init 242 = .ok (.bipush 34, 2) := by decide +kernel
theorem dX8_init_244 : decode cX8_init 244 = .ok (.ldc2_w 81, 3) := by decide +kernel
theorem dX8_init_247 : decode cX8_init 247 = .ok (.lastore, 1) := by decide +kernel
theorem dX8_init_248 : decode cX8_init 248 = .ok (.dup, 1) := by decide +kernel
theorem dX8_init_249 : decode cX8_init 249 = .ok (.bipush 35, 2) := by decide +kernel
theorem dX8_init_251 : decode cX8_init 251 = .ok (.ldc2_w 83, 3) := by decide +kernel
theorem dX8_init_254 : decode cX8_init 254 = .ok (.lastore, 1) := by decide +kernel
theorem dX8_init_255 : decode cX8_init 255 = .ok (.dup, 1) := by decide +kernel
theorem dX8_init_256 : decode cX8_init 256 = .ok (.bipush 36, 2) := by decide +kernel
theorem dX8_init_258 : decode cX8_init 258 = .ok (.ldc2_w 85, 3) := by decide +kernel
theorem dX8_init_261 : decode cX8_init 261 = .ok (.lastore, 1) := by decide +kernel
theorem dX8_init_262 : decode cX8_init 262 = .ok (.dup, 1) := by decide +kernel
theorem dX8_init_263 : decode cX8_init 263 = .ok (.bipush 37, 2) := by decide +kernel
theorem dX8_init_265 : decode cX8_init 265 = .ok (.ldc2_w 87, 3) := by decide +kernel
theorem dX8_init_268 : decode cX8_init 268 = .ok (.lastore, 1) := by decide +kernel
theorem dX8_init_269 : decode cX8_init 269 = .ok (.dup, 1) := by decide +kernel
theorem dX8_init_270 : decode cX8_init 270 = .ok (.bipush 38, 2) := by decide +kernel
theorem dX8_init_272 : decode cX8_init 272 = .ok (.ldc2_w 89, 3) := by decide +kernel
theorem dX8_init_275 : decode cX8_init 275 = .ok (.lastore, 1) := by decide +kernel
theorem dX8_init_276 : decode cX8_init 276 = .ok (.dup, 1) := by decide +kernel
theorem dX8_init_277 : decode cX8_init 277 = .ok (.bipush 39, 2) := by decide +kernel
theorem dX8_init_279 : decode cX8_init 279 = .ok (.ldc2_w 91, 3) := by decide +kernel
theorem dX8_init_282 : decode cX8_init 282 = .ok (.lastore, 1) := by decide +kernel
theorem dX8_init_283 : decode cX8_init 283 = .ok (.dup, 1) := by decide +kernel
theorem dX8_init_284 : decode cX8_init 284 = .ok (.bipush 40, 2) := by decide +kernel
theorem dX8_init_286 : decode cX8_init 286 = .ok (.ldc2_w 93, 3) := by decide +kernel
theorem dX8_init_289 : decode cX8_init 289 = .ok (.lastore, 1) := by decide +kernel
theorem dX8_init_290 : decode cX8_init 290 = .ok (.dup, 1) := by decide +kernel
theorem dX8_init_291 : decode cX8_init 291 = .ok (.bipush 41, 2) := by decide +kernel
theorem dX8_init_293 : decode cX8_init 293 = .ok (.ldc2_w 95, 3) := by decide +kernel
theorem dX8_init_296 : decode cX8_init 296 = .ok (.lastore, 1) := by decide +kernel
theorem dX8_init_297 : decode cX8_init 297 = .ok (.dup, 1) := by decide +kernel
theorem dX8_init_298 : decode cX8_init 298 = .ok (.bipush 42, 2) := by decide +kernel
theorem dX8_init_300 : decode cX8_init 300 = .ok (.ldc2_w 97, 3) := by decide +kernel
theorem dX8_init_303 : decode cX8_init 303 = .ok (.lastore, 1) := by decide +kernel
theorem dX8_init_304 : decode cX8_init 304 = .ok (.dup, 1) := by decide +kernel
theorem dX8_init_305 : decode cX8_init 305 = .ok (.bipush 43, 2) := by decide +kernel
theorem dX8_init_307 : decode cX8_init 307 = .ok (.ldc2_w 99, 3) := by decide +kernel
theorem dX8_init_310 : decode cX8_init 310 = .ok (.lastore, 1) := by decide +kernel
theorem dX8_init_311 : decode cX8_init 311 = .ok (.dup, 1) := by decide +kernel
theorem dX8_init_312 : decode cX8_init 312 = .ok (.bipush 44, 2) := by decide +kernel
theorem dX8_init_314 : decode cX8_init 314 = .ok (.ldc2_w 101, 3) := by decide +kernel
theorem dX8_init_317 : decode cX8_init 317 = .ok (.lastore, 1) := by decide +kernel
theorem dX8_init_318 : decode cX8_init 318 = .ok (.dup, 1) := by decide +kernel
theorem dX8_init_319 : decode cX8_init 319 = .ok (.bipush 45, 2) := by decide +kernel
theorem dX8_init_321 : decode cX8_init 321 = .ok (.ldc2_w 103, 3) := by decide +kernel
theorem dX8_init_324 : decode cX8_init 324 = .ok (.lastore, 1) := by decide +kernel
theorem dX8_init_325 : decode cX8_init 325 = .ok (.dup, 1) := by decide +kernel
theorem dX8_init_326 : decode cX8_init 326 = .ok (.bipush 46, 2) := by decide +kernel
theorem dX8_init_328 : decode cX8_init 328 = .ok (.ldc2_w 105, 3) := by decide +kernel
theorem dX8_init_331 : decode cX8_init 331 = .ok (.lastore, 1) := by decide +kernel
theorem dX8_init_332 : decode cX8_init 332 = .ok (.dup, 1) := by decide +kernel
theorem dX8_init_333 : decode cX8_init 333 = .ok (.bipush 47, 2) := by decide +kernel
theorem dX8_init_335 : decode cX8_init 335 = .ok (.ldc2_w 107, 3) := by decide +kernel
theorem dX8_init_338 : decode cX8_init 338 = .ok (.lastore, 1) := by decide +kernel
theorem dX8_init_339 : decode cX8_init 339 = .ok (.dup, 1) := by decide +kernel
theorem dX8_init_340 : decode cX8_init 340 = .ok (.bipush 48, 2) := by decide +kernel
theorem dX8_init_342 : decode cX8_init 342 = .ok (.ldc2_w 109, 3) := by decide +kernel
theorem dX8_init_345 : decode cX8_init 345 = .ok (.lastore, 1) := by decide +kernel
theorem dX8_init_346 : decode cX8_init 346 = .ok (.dup, 1) := by decide +kernel
theorem dX8_init_347 : decode cX8_init 347 = .ok (.bipush 49, 2) := by decide +kernel
theorem dX8_init_349 : decode cX8_init 349 = .ok (.ldc2_w 111, 3) := by decide +kernel
theorem dX8_init_352 : decode cX8_init 352 = .ok (.lastore, 1) := by decide +kernel
theorem dX8_init_353 : decode cX8_init 353 = .ok (.dup, 1) := by decide +kernel
theorem dX8_init_354 : decode cX8_init 354 = .ok (.bipush 50, 2) := by decide +kernel
theorem dX8_init_356 : decode cX8_init 356 = .ok (.ldc2_w 113, 3) := by decide +kernel
theorem dX8_init_359 : decode cX8_init 359 = .ok (.lastore, 1) := by decide +kernel
theorem dX8_init_360 : decode cX8_init 360 = .ok (.dup, 1) := by decide +kernel
theorem dX8_init_361 : decode cX8_init 361 = .ok (.bipush 51, 2) := by decide +kernel
theorem dX8_init_363 : decode cX8_init 363 = .ok (.ldc2_w 115, 3) := by decide +kernel
theorem dX8_init_366 : decode cX8_init 366 = .ok (.lastore, 1) := by decide +kernel
theorem dX8_init_367 : decode cX8_init 367 = .ok (.dup, 1) := by decide +kernel
theorem dX8_init_368 : decode cX8_init 368 = .ok (.bipush 52, 2) := by decide +kernel
theorem dX8_init_370 : decode cX8_init 370 = .ok (.ldc2_w 117, 3) := by decide +kernel
theorem dX8_init_373 : decode cX8_init 373 = .ok (.lastore, 1) := by decide +kernel
theorem dX8_init_374 : decode cX8_init 374 = .ok (.dup, 1) := by decide +kernel
theorem dX8_init_375 : decode cX8_init 375 = .ok (.bipush 53, 2) := by decide +kernel
theorem dX8_init_377 : decode cX8_init 377 = .ok (.ldc2_w 119, 3) := by decide +kernel
theorem dX8_init_380 : decode cX8_init 380 = .ok (.lastore, 1) := by decide +kernel
theorem dX8_init_381 : decode cX8_init 381 = .ok (.dup, 1) := by decide +kernel
theorem dX8_init_382 : decode cX8_init 382 = .ok (.bipush 54, 2) := by decide +kernel
theorem dX8_init_384 : decode cX8_init 384 = .ok (.ldc2_w 121, 3) := by decide +kernel
theorem dX8_init_387 : decode cX8_init 387 = .ok (.lastore, 1) := by decide +kernel
theorem dX8_init_388 : decode cX8_init 388 = .ok (.dup, 1) := by decide +kernel
theorem dX8_init_389 : decode cX8_init 389 = .ok (.bipush 55, 2) := by decide +kernel
theorem dX8_init_391 : decode cX8_init 391 = .ok (.ldc2_w 123, 3) := by decide +kernel
theorem dX8_init_394 : decode cX8_init 394 = .ok (.lastore, 1) := by decide +kernel
theorem dX8_init_395 : decode cX8_init 395 = .ok (.dup, 1) := by decide +kernel
theorem dX8_init_396 : decode cX8_init 396 = .ok (.bipush 56, 2) := by decide +kernel
theorem dX8_init_398 : decode cX8_init 398 = .ok (.ldc2_w 125, 3) := by decide +kernel
theorem dX8_init_401 : decode cX8_init 401 = .ok (.lastore, 1) := by decide +kernel
theorem dX8_init_402 : decode cX8_init 402 = .ok (.dup, 1) := by decide +kernel
theorem dX8_init_403 : decode cX8_init 403 = .ok (.bipush 57, 2) := by decide +kernel
theorem dX8_init_405 : decode cX8_init 405 = .ok (.ldc2_w 127, 3) := by decide +kernel
theorem dX8_init_408 : decode cX8_init 408 = .ok (.lastore, 1) := by decide +kernel
theorem dX8_init_409 : decode cX8_init 409 = .ok (.dup, 1) := by decide +kernel
theorem dX8_init_410 : decode cX8_init 410 = .ok (.bipush 58, 2) := by decide +kernel
theorem dX8_init_412 : decode cX8_init 412 = .ok (.ldc2_w 129, 3) := by decide +kernel
theorem dX8_init_415 : decode cX8_init 415 = .ok (.lastore, 1) := by decide +kernel
theorem dX8_init_416 : decode cX8_init 416 = .ok (.dup, 1) := by decide +kernel
theorem dX8_init_417 : decode cX8_init 417 = .ok (.bipush 59, 2) := by decide +kernel
theorem dX8_init_419 : decode cX8_init 419 = .ok (.ldc2_w 131, 3) := by decide +kernel
theorem dX8_init_422 : decode cX8_init 422 = .ok (.lastore, 1) := by decide +kernel
theorem dX8_init_423 : decode cX8_init 423 = .ok (.dup, 1) := by decide +kernel
theorem dX8_init_424 : decode cX8_init 424 = .ok (.bipush 60, 2) := by decide +kernel
theorem dX8_init_426 : decode cX8_init 426 = .ok (.ldc2_w 133, 3) := by decide +kernel
theorem dX8_init_429 : decode cX8_init 429 = .ok (.lastore, 1) := by decide +kernel
theorem dX8_init_430 : decode cX8_init 430 = .ok (.dup, 1) := by decide +kernel
theorem dX8_init_431 : decode cX8_init 431 = .ok (.bipush 61, 2) := by decide +kernel
theorem dX8_init_433 : decode cX8_init 433 = .ok (.ldc2_w 135, 3) := by decide +kernel
theorem dX8_init_436 : decode cX8_init 436 = .ok (.lastore, 1) := by decide +kernel
theorem dX8_init_437 : decode cX8_init 437 = .ok (.dup, 1) := by decide +kernel
theorem dX8_init_438 : decode cX8_init 438 = .ok (.bipush 62, 2) := by decide +kernel
theorem dX8_init_440 : decode cX8_init 440 = .ok (.ldc2_w 137, 3) := by decide +kernel
theorem dX8_init_443 : decode cX8_init 443 = .ok (.lastore, 1) := by decide +kernel
theorem dX8_init_444 : decode cX8_init 444 = .ok (.dup, 1) := by decide +kernel
theorem dX8_init_445 : decode cX8_init 445 = .ok (.bipush 63, 2) := by decide +kernel
theorem dX8_init_447 : decode cX8_init 447 = .ok (.ldc2_w 139, 3) := by decide +kernel
theorem dX8_init_450 : decode cX8_init 450 = .ok (.lastore, 1) := by decide +kernel
theorem dX8_init_451 : decode cX8_init 451 = .ok (.putfield 141, 3) := by decide +kernel
theorem dX8_init_454 : decode cX8_init 454 = .ok (.aload_n 0, 1) := by decide +kernel
theorem dX8_init_455 : decode cX8_init 455 = .ok (.bipush 9, 2) := by decide +kernel
theorem dX8_init_457 : decode cX8_init 457 = .ok (.newarray .int, 2) := by decide +kernel
theorem dX8_init_459 : decode cX8_init 459 = .ok (.putfield 145, 3) := by decide +kernel
theorem dX8_init_462 : decode cX8_init 462 = .ok (.aload_n 0, 1) := by decide +kernel
theorem dX8_init_463 : decode cX8_init 463 = .ok (.bipush 9, 2) := by decide +kernel
theorem dX8_init_465 : decode cX8_init 465 = .ok (.newarray .int, 2) := by decide +kernel
theorem dX8_init_467 : decode cX8_init 467 = .ok (.putfield 149, 3) := by decide +kernel
theorem dX8_init_470 : decode cX8_init 470 = .ok (.aload_n 0, 1) := by decide +kernel
theorem dX8_init_471 : decode cX8_init 471 = .ok (.sipush 1080, 3) := by decide +kernel
theorem dX8_init_474 : decode cX8_init 474 = .ok (.newarray .int, 2) := by decide +kernel
theorem dX8_init_476 : decode cX8_init 476 = .ok (.putfield 152, 3) := by decide +kernel
theorem dX8_init_479 : decode cX8_init 479 = .ok (.aload_n 0, 1) := by decide +kernel
theorem dX8_init_480 : decode cX8_init 480 = .ok (.bipush 72, 2) := by decide +kernel
theorem dX8_init_482 : decode cX8_init 482 = .ok (.newarray .long, 2) := by decide +kernel
theorem dX8_init_484 : decode cX8_init 484 = .ok (.putfield 155, 3) := by decide +kernel
theorem dX8_init_487 : decode cX8_init 487 = .ok (.aload_n 0, 1) := by decide +kernel
theorem dX8_init_488 : decode cX8_init 488 = .ok (.bipush 72, 2) := by decide +kernel
theorem dX8_init_490 : decode cX8_init 490 = .ok (.newarray .long, 2) := by decide +kernel
theorem dX8_init_492 : decode cX8_init 492 = .ok (.putfield 158, 3) := by decide +kernel
theorem dX8_init_495 : decode cX8_init 495 = .ok (.aload_n 0, 1) := by decide +kernel
theorem dX8_init_496 : decode cX8_init 496 = .ok (.bipush 9, 2) := by decide +kernel
theorem dX8_init_498 : decode cX8_init 498 = .ok (.newarray .int, 2) := by decide +kernel
theorem dX8_init_500 : decode cX8_init 500 = .ok (.putfield 161, 3) := by decide +kernel
theorem dX8_init_503 : decode cX8_init 503 = .ok (.aload_n 0, 1) := by decide +kernel
theorem dX8_init_504 : decode cX8_init 504 = .ok (.bipush 9, 2) := by decide +kernel
theorem dX8_init_506 : decode cX8_init 506 = .ok (.newarray .int, 2) := by decide +kernel
theorem dX8_init_508 : decode cX8_init 508 = .ok (.putfield 164, 3) := by decide +kernel
theorem dX8_init_511 : decode cX8_init 511 = .ok (.aload_n 0, 1) := by decide +kernel
theorem dX8_init_512 : decode cX8_init 512 = .ok (.bipush 10, 2) := by decide +kernel
theorem dX8_init_514 : decode cX8_init 514 = .ok (.newarray .int, 2) := by decide +kernel
theorem dX8_init_516 : decode cX8_init 516 = .ok (.putfield 167, 3) := by decide +kernel
theorem dX8_init_519 : decode cX8_init 519 = .ok (.aload_n 0, 1) := by decide +kernel
theorem dX8_init_520 : decode cX8_init 520 = .ok (.bipush 120, 2) := by decide +kernel
theorem dX8_init_522 : decode cX8_init 522 = .ok (.newarray .int, 2) := by decide +kernel
theorem dX8_init_524 : decode cX8_init 524 = .ok (.putfield 170, 3) := by decide +kernel
theorem dX8_init_527 : decode cX8_init 527 = .ok (.aload_n 0, 1) := by decide +kernel
theorem dX8_init_528 : decode cX8_init 528 = .ok (.bipush 9, 2) := by decide +kernel
theorem dX8_init_530 : decode cX8_init 530 = .ok (.newarray .int, 2) := by decide +kernel
theorem dX8_init_532 : decode cX8_init 532 = .ok (.putfield 173, 3) := by decide +kernel
theorem dX8_init_535 : decode cX8_init 535 = .ok (.aload_n 0, 1) := by decide +kernel
theorem dX8_init_536 : decode cX8_init 536 = .ok (.bipush 120, 2) := by decide +kernel
theorem dX8_init_538 : decode cX8_init 538 = .ok (.newarray .int, 2) := by decide +kernel
theorem dX8_init_540 : decode cX8_init 540 = .ok (.putfield 176, 3) := by decide +kernel
theorem dX8_init_543 : decode cX8_init 543 = .ok (.aload_n 0, 1) := by decide +kernel
theorem dX8_init_544 : decode cX8_init 544 = .ok (.bipush 32, 2) := by decide +kernel
theorem dX8_init_546 : decode cX8_init 546 = .ok (.newarray .byte, 2) := by decide +kernel
theorem dX8_init_548 : decode cX8_init 548 = .ok (.putfield 179, 3) := by decide +kernel
theorem dX8_init_551 : decode cX8_init 551 = .ok (.aload_n 0, 1) := by decide +kernel
theorem dX8_init_552 : decode cX8_init 552 = .ok (.sipush 5120, 3) := by decide +kernel
theorem dX8_init_555 : decode cX8_init 555 = .ok (.newarray .int, 2) := by decide +kernel
theorem dX8_init_557 : decode cX8_init 557 = .ok (.putfield 183, 3) := by decide +kernel
theorem dX8_init_560 : decode cX8_init 560 = .ok (.aload_n 0, 1) := by decide +kernel
theorem dX8_init_561 : decode cX8_init 561 = .ok (.sipush 4400, 3) := by decide +kernel
theorem dX8_init_564 : decode cX8_init 564 = .ok (.newarray .byte, 2) := by decide +kernel
theorem dX8_init_566 : decode cX8_init 566 = .ok (.putfield 186, 3) := by decide +kernel
theorem dX8_init_569 : decode cX8_init 569 = .ok (.aload_n 0, 1) := by decide +kernel
theorem dX8_init_570 : decode cX8_init 570 = .ok (.bipush 8, 2) := by decide +kernel
theorem dX8_init_572 : decode cX8_init 572 = .ok (.newarray .long, 2) := by decide +kernel
theorem dX8_init_574 : decode cX8_init 574 = .ok (.putfield 189, 3) := by decide +kernel
theorem dX8_init_577 : decode cX8_init 577 = .ok (.aload_n 0, 1) := by decide +kernel
theorem dX8_init_578 : decode cX8_init 578 = .ok (.bipush 64, 2) := by decide +kernel
theorem dX8_init_580 : decode cX8_init 580 = .ok (.newarray .long, 2) := by decide +kernel
theorem dX8_init_582 : decode cX8_init 582 = .ok (.putfield 192, 3) := by decide +kernel
theorem dX8_init_585 : decode cX8_init 585 = .ok (.aload_n 0, 1) := by decide +kernel
theorem dX8_init_586 : decode cX8_init 586 = .ok (.bipush 40, 2) := by decide +kernel
theorem dX8_init_588 : decode cX8_init 588 = .ok (.newarray .boolean, 2) := by decide +kernel
theorem dX8_init_590 : decode cX8_init 590 = .ok (.putfield 195, 3) := by decide +kernel
theorem dX8_init_593 : decode cX8_init 593 = .ok (.aload_n 0, 1) := by decide +kernel
theorem dX8_init_594 : decode cX8_init 594 = .ok (.iconst 0, 1) := by decide +kernel
theorem dX8_init_595 : decode cX8_init 595 = .ok (.invokevirtual 199, 3) := by decide +kernel
theorem dX8_init_598 : decode cX8_init 598 = .ok (.aload_n 0, 1) := by decide +kernel
theorem dX8_init_599 : decode cX8_init 599 = .ok (.invokevirtual 203, 3) := by decide +kernel
theorem dX8_init_602 : decode cX8_init 602 = .ok (.return_, 1) := by decide +kernel
theorem dX8_turned_0 : decode cX8_turned 0 = .ok (.lload_n 0, 1) := by decide +kernel
theorem dX8_turned_1 : decode cX8_turned 1 = .ok (.iload_n 2, 1) := by decide +kernel
theorem dX8_turned_2 : decode cX8_turned 2 = .ok (.lshr, 1) := by decide +kernel
theorem dX8_turned_3 : decode cX8_turned 3 = .ok (.lload_n 0, 1) := by decide +kernel
theorem dX8_turned_4 : decode cX8_turned 4 = .ok (.bipush 32, 2) := by decide +kernel
theorem dX8_turned_6 : decode cX8_turned 6 = .ok (.iload_n 2, 1) := by decide +kernel
theorem dX8_turned_7 : decode cX8_turned 7 = .ok (.isub, 1) := by decide +kernel
theorem dX8_turned_8 : decode cX8_turned 8 = .ok (.lshl, 1) := by decide +kernel
theorem dX8_turned_9 : decode cX8_turned 9 = .ok (.lor, 1) := by decide +kernel
theorem dX8_turned_10 : decode cX8_turned 10 = .ok (.ldc2_w 206, 3) := by decide +kernel
theorem dX8_turned_13 : decode cX8_turned 13 = .ok (.land, 1) := by decide +kernel
theorem dX8_turned_14 : decode cX8_turned 14 = .ok (.lreturn, 1) := by decide +kernel
theorem dX8_digestOf_0 : decode cX8_digestOf 0 = .ok (.aload_n 0, 1) := by decide +kernel
theorem dX8_digestOf_1 : decode cX8_digestOf 1 = .ok (.getfield 189, 3) := by decide +kernel
theorem dX8_digestOf_4 : decode cX8_digestOf 4 = .ok (.iconst 0, 1) := by decide +kernel
theorem dX8_digestOf_5 : decode cX8_digestOf 5 = .ok (.ldc2_w 208, 3) := by decide +kernel
theorem dX8_digestOf_8 : decode cX8_digestOf 8 = .ok (.lastore, 1) := by decide +kernel
theorem dX8_digestOf_9 : decode cX8_digestOf 9 = .ok (.aload_n 0, 1) := by decide +kernel
theorem dX8_digestOf_10 : decode cX8_digestOf 10 = .ok (.getfield 189, 3) := by decide +kernel
theorem dX8_digestOf_13 : decode cX8_digestOf 13 = .ok (.iconst 1, 1) := by decide +kernel
theorem dX8_digestOf_14 : decode cX8_digestOf 14 = .ok (.ldc2_w 210, 3) := by decide +kernel
theorem dX8_digestOf_17 : decode cX8_digestOf 17 = .ok (.lastore, 1) := by decide +kernel
theorem dX8_digestOf_18 : decode cX8_digestOf 18 = .ok (.aload_n 0, 1) := by decide +kernel
theorem dX8_digestOf_19 : decode cX8_digestOf 19 = .ok (.getfield 189, 3) := by decide +kernel
theorem dX8_digestOf_22 : decode cX8_digestOf 22 = .ok (.iconst 2, 1) := by decide +kernel
theorem dX8_digestOf_23 : decode cX8_digestOf 23 = .ok (.ldc2_w 212, 3) := by decide +kernel
theorem dX8_digestOf_26 : decode cX8_digestOf 26 = .ok (.lastore, 1) := by decide +kernel
theorem dX8_digestOf_27 : decode cX8_digestOf 27 = .ok (.aload_n 0, 1) := by decide +kernel
theorem dX8_digestOf_28 : decode cX8_digestOf 28 = .ok (.getfield 189, 3) := by decide +kernel
theorem dX8_digestOf_31 : decode cX8_digestOf 31 = .ok (.iconst 3, 1) := by decide +kernel
theorem dX8_digestOf_32 : decode cX8_digestOf 32 = .ok (.ldc2_w 214, 3) := by decide +kernel
theorem dX8_digestOf_35 : decode cX8_digestOf 35 = .ok (.lastore, 1) := by decide +kernel
theorem dX8_digestOf_36 : decode cX8_digestOf 36 = .ok (.aload_n 0, 1) := by decide +kernel
theorem dX8_digestOf_37 : decode cX8_digestOf 37 = .ok (.getfield 189, 3) := by decide +kernel
theorem dX8_digestOf_40 : decode cX8_digestOf 40 = .ok (.iconst 4, 1) := by decide +kernel
theorem dX8_digestOf_41 : decode cX8_digestOf 41 = .ok (.ldc2_w 216, 3) := by decide +kernel
theorem dX8_digestOf_44 : decode cX8_digestOf 44 = .ok (.lastore, 1) := by decide +kernel
theorem dX8_digestOf_45 : decode cX8_digestOf 45 = .ok (.aload_n 0, 1) := by decide +kernel
theorem dX8_digestOf_46 : decode cX8_digestOf 46 = .ok (.getfield 189, 3) := by decide +kernel
theorem dX8_digestOf_49 : decode cX8_digestOf 49 = .ok (.iconst 5, 1) := by decide +kernel
theorem dX8_digestOf_50 : decode cX8_digestOf 50 = .ok (.ldc2_w 218, 3) := by decide +kernel
theorem dX8_digestOf_53 : decode cX8_digestOf 53 = .ok (.lastore, 1) := by decide +kernel
theorem dX8_digestOf_54 : decode cX8_digestOf 54 = .ok (.aload_n 0, 1) := by decide +kernel
theorem dX8_digestOf_55 : decode cX8_digestOf 55 = .ok (.getfield 189, 3) := by decide +kernel
theorem dX8_digestOf_58 : decode cX8_digestOf 58 = .ok (.bipush 6, 2) := by decide +kernel
theorem dX8_digestOf_60 : decode cX8_digestOf 60 = .ok (.ldc2_w 220, 3) := by decide +kernel
theorem dX8_digestOf_63 : decode cX8_digestOf 63 = .ok (.lastore, 1) := by decide +kernel
theorem dX8_digestOf_64 : decode cX8_digestOf 64 = .ok (.aload_n 0, 1) := by decide +kernel
theorem dX8_digestOf_65 : decode cX8_digestOf 65 = .ok (.getfield 189, 3) := by decide +kernel
theorem dX8_digestOf_68 : decode cX8_digestOf 68 = .ok (.bipush 7, 2) := by decide +kernel
theorem dX8_digestOf_70 : decode cX8_digestOf 70 = .ok (.ldc2_w 222, 3) := by decide +kernel
theorem dX8_digestOf_73 : decode cX8_digestOf 73 = .ok (.lastore, 1) := by decide +kernel
theorem dX8_digestOf_74 : decode cX8_digestOf 74 = .ok (.iload_n 1, 1) := by decide +kernel
theorem dX8_digestOf_75 : decode cX8_digestOf 75 = .ok (.istore_n 2, 1) := by decide +kernel
theorem dX8_digestOf_76 : decode cX8_digestOf 76 = .ok (.aload_n 0, 1) := by decide +kernel
theorem dX8_digestOf_77 : decode cX8_digestOf 77 = .ok (.getfield 186, 3) := by decide +kernel
theorem dX8_digestOf_80 : decode cX8_digestOf 80 = .ok (.iload_n 2, 1) := by decide +kernel
theorem dX8_digestOf_81 : decode cX8_digestOf 81 = .ok (.bipush (-128), 2) := by decide +kernel
theorem dX8_digestOf_83 : decode cX8_digestOf 83 = .ok (.bastore, 1) := by decide +kernel
theorem dX8_digestOf_84 : decode cX8_digestOf 84 = .ok (.iinc 2 1, 3) := by decide +kernel
theorem dX8_digestOf_87 : decode cX8_digestOf 87 = .ok (.iload_n 2, 1) := by decide +kernel
theorem dX8_digestOf_88 : decode cX8_digestOf 88 = .ok (.bipush 64, 2) := by decide +kernel
theorem dX8_digestOf_90 : decode cX8_digestOf 90 = .ok (.irem, 1) := by decide +kernel
theorem dX8_digestOf_91 : decode cX8_digestOf 91 = .ok (.bipush 56, 2) := by decide +kernel
theorem dX8_digestOf_93 : decode cX8_digestOf 93 = .ok (.if_icmp .eq 16, 3) := by decide +kernel
theorem dX8_digestOf_96 : decode cX8_digestOf 96 = .ok (.aload_n 0, 1) := by decide +kernel
theorem dX8_digestOf_97 : decode cX8_digestOf 97 = .ok (.getfield 186, 3) := by decide +kernel
theorem dX8_digestOf_100 : decode cX8_digestOf 100 = .ok (.iload_n 2, 1) := by decide +kernel
theorem dX8_digestOf_101 : decode cX8_digestOf 101 = .ok (.iconst 0, 1) := by decide +kernel
theorem dX8_digestOf_102 : decode cX8_digestOf 102 = .ok (.bastore, 1) := by decide +kernel
theorem dX8_digestOf_103 : decode cX8_digestOf 103 = .ok (.iinc 2 1, 3) := by decide +kernel
theorem dX8_digestOf_106 : decode cX8_digestOf 106 = .ok (.goto (-19), 3) := by decide +kernel
theorem dX8_digestOf_109 : decode cX8_digestOf 109 = .ok (.bipush 7, 2) := by decide +kernel
theorem dX8_digestOf_111 : decode cX8_digestOf 111 = .ok (.istore_n 3, 1) := by decide +kernel
theorem dX8_digestOf_112 : decode cX8_digestOf 112 = .ok (.iload_n 3, 1) := by decide +kernel
theorem dX8_digestOf_113 : decode cX8_digestOf 113 = .ok (.ifCond .lt 31, 3) := by decide +kernel
theorem dX8_digestOf_116 : decode cX8_digestOf 116 = .ok (.aload_n 0, 1) := by decide +kernel
theorem dX8_digestOf_117 : decode cX8_digestOf 117 = .ok (.getfield 186, 3) := by decide +kernel
theorem dX8_digestOf_120 : decode cX8_digestOf 120 = .ok (.iload_n 2, 1) := by decide +kernel
theorem dX8_digestOf_121 : decode cX8_digestOf 121 = .ok (.ldc2_w 224, 3) := by decide +kernel
theorem dX8_digestOf_124 : decode cX8_digestOf 124 = .ok (.iload_n 1, 1) := by decide +kernel
theorem dX8_digestOf_125 : decode cX8_digestOf 125 = .ok (.i2l, 1) := by decide +kernel
theorem dX8_digestOf_126 : decode cX8_digestOf 126 = .ok (.lmul, 1) := by decide +kernel
theorem dX8_digestOf_127 : decode cX8_digestOf 127 = .ok (.bipush 8, 2) := by decide +kernel
theorem dX8_digestOf_129 : decode cX8_digestOf 129 = .ok (.iload_n 3, 1) := by decide +kernel
theorem dX8_digestOf_130 : decode cX8_digestOf 130 = .ok (.imul, 1) := by decide +kernel
theorem dX8_digestOf_131 : decode cX8_digestOf 131 = .ok (.lshr, 1) := by decide +kernel
theorem dX8_digestOf_132 : decode cX8_digestOf 132 = .ok (.l2i, 1) := by decide +kernel
theorem dX8_digestOf_133 : decode cX8_digestOf 133 = .ok (.i2b, 1) := by decide +kernel
theorem dX8_digestOf_134 : decode cX8_digestOf 134 = .ok (.bastore, 1) := by decide +kernel
theorem dX8_digestOf_135 : decode cX8_digestOf 135 = .ok (.iinc 2 1, 3) := by decide +kernel
theorem dX8_digestOf_138 : decode cX8_digestOf 138 = .ok (.iinc 3 (-1), 3) := by decide +kernel
theorem dX8_digestOf_141 : decode cX8_digestOf 141 = .ok (.goto (-29), 3) := by decide +kernel
theorem dX8_digestOf_144 : decode cX8_digestOf 144 = .ok (.iconst 0, 1) := by decide +kernel
theorem dX8_digestOf_145 : decode cX8_digestOf 145 = .ok (.istore_n 3, 1) := by decide +kernel
theorem dX8_digestOf_146 : decode cX8_digestOf 146 = .ok (.iload_n 3, 1) := by decide +kernel
theorem dX8_digestOf_147 : decode cX8_digestOf 147 = .ok (.iload_n 2, 1) := by decide +kernel
theorem dX8_digestOf_148 : decode cX8_digestOf 148 = .ok (.if_icmp .ge 14, 3) := by decide +kernel
theorem dX8_digestOf_151 : decode cX8_digestOf 151 = .ok (.aload_n 0, 1) := by decide +kernel
theorem dX8_digestOf_152 : decode cX8_digestOf 152 = .ok (.iload_n 3, 1) := by decide +kernel
theorem dX8_digestOf_153 : decode cX8_digestOf 153 = .ok (.invokevirtual 226, 3) := by decide +kernel
theorem dX8_digestOf_156 : decode cX8_digestOf 156 = .ok (.iinc 3 64, 3) := by decide +kernel
theorem dX8_digestOf_159 : decode cX8_digestOf 159 = .ok (.goto (-13), 3) := by decide +kernel
theorem dX8_digestOf_162 : decode cX8_digestOf 162 = .ok (.return_, 1) := by decide +kernel
theorem dX8_block_0 : decode cX8_block 0 = .ok (.iconst 0, 1) := by decide +kernel
theorem dX8_block_1 : decode cX8_block 1 = .ok (.istore_n 2, 1) := by decide +kernel
theorem dX8_block_2 : decode cX8_block 2 = .ok (.iload_n 2, 1) := by decide +kernel
theorem dX8_block_3 : decode cX8_block 3 = .ok (.bipush 16, 2) := by decide +kernel
theorem dX8_block_5 : decode cX8_block 5 = .ok (.if_icmp .ge 58, 3) := by decide +kernel
theorem dX8_block_8 : decode cX8_block 8 = .ok (.lconst 0, 1) := by decide +kernel
theorem dX8_block_9 : decode cX8_block 9 = .ok (.lstore_n 3, 1) := by decide +kernel
theorem dX8_block_10 : decode cX8_block 10 = .ok (.iconst 0, 1) := by decide +kernel
theorem dX8_block_11 : decode cX8_block 11 = .ok (.istore 5, 2) := by decide +kernel
theorem dX8_block_13 : decode cX8_block 13 = .ok (.iload 5, 2) := by decide +kernel
theorem dX8_block_15 : decode cX8_block 15 = .ok (.iconst 4, 1) := by decide +kernel
theorem dX8_block_16 : decode cX8_block 16 = .ok (.if_icmp .ge 34, 3) := by decide +kernel
theorem dX8_block_19 : decode cX8_block 19 = .ok (.ldc2_w 229, 3) := by decide +kernel
theorem dX8_block_22 : decode cX8_block 22 = .ok (.lload_n 3, 1) := by decide +kernel
theorem dX8_block_23 : decode cX8_block 23 = .ok (.lmul, 1) := by decide +kernel
theorem dX8_block_24 : decode cX8_block 24 = .ok (.aload_n 0, 1) := by decide +kernel
theorem dX8_block_25 : decode cX8_block 25 = .ok (.getfield 186, 3) := by decide +kernel
theorem dX8_block_28 : decode cX8_block 28 = .ok (.iload_n 1, 1) := by decide +kernel
theorem dX8_block_29 : decode cX8_block 29 = .ok (.iconst 4, 1) := by decide +kernel
theorem dX8_block_30 : decode cX8_block 30 = .ok (.iload_n 2, 1) := by decide +kernel
theorem dX8_block_31 : decode cX8_block 31 = .ok (.imul, 1) := by decide +kernel
theorem dX8_block_32 : decode cX8_block 32 = .ok (.iadd, 1) := by decide +kernel
theorem dX8_block_33 : decode cX8_block 33 = .ok (.iload 5, 2) := by decide +kernel
theorem dX8_block_35 : decode cX8_block 35 = .ok (.iadd, 1) := by decide +kernel
theorem dX8_block_36 : decode cX8_block 36 = .ok (.baload, 1) := by decide +kernel
theorem dX8_block_37 : decode cX8_block 37 = .ok (.sipush 255, 3) := by decide +kernel
theorem dX8_block_40 : decode cX8_block 40 = .ok (.iand, 1) := by decide +kernel
theorem dX8_block_41 : decode cX8_block 41 = .ok (.i2l, 1) := by decide +kernel
theorem dX8_block_42 : decode cX8_block 42 = .ok (.ladd, 1) := by decide +kernel
theorem dX8_block_43 : decode cX8_block 43 = .ok (.lstore_n 3, 1) := by decide +kernel
theorem dX8_block_44 : decode cX8_block 44 = .ok (.iinc 5 1, 3) := by decide +kernel
theorem dX8_block_47 : decode cX8_block 47 = .ok (.goto (-34), 3) := by decide +kernel
theorem dX8_block_50 : decode cX8_block 50 = .ok (.aload_n 0, 1) := by decide +kernel
theorem dX8_block_51 : decode cX8_block 51 = .ok (.getfield 192, 3) := by decide +kernel
theorem dX8_block_54 : decode cX8_block 54 = .ok (.iload_n 2, 1) := by decide +kernel
theorem dX8_block_55 : decode cX8_block 55 = .ok (.lload_n 3, 1) := by decide +kernel
theorem dX8_block_56 : decode cX8_block 56 = .ok (.lastore, 1) := by decide +kernel
theorem dX8_block_57 : decode cX8_block 57 = .ok (.iinc 2 1, 3) := by decide +kernel
theorem dX8_block_60 : decode cX8_block 60 = .ok (.goto (-58), 3) := by decide +kernel
theorem dX8_block_63 : decode cX8_block 63 = .ok (.bipush 16, 2) := by decide +kernel
theorem dX8_block_65 : decode cX8_block 65 = .ok (.istore_n 2, 1) := by decide +kernel
theorem dX8_block_66 : decode cX8_block 66 = .ok (.iload_n 2, 1) := by decide +kernel
theorem dX8_block_67 : decode cX8_block 67 = .ok (.bipush 64, 2) := by decide +kernel
theorem dX8_block_69 : decode cX8_block 69 = .ok (.if_icmp .ge 106, 3) := by decide +kernel
theorem dX8_block_72 : decode cX8_block 72 = .ok (.aload_n 0, 1) := by decide +kernel
theorem dX8_block_73 : decode cX8_block 73 = .ok (.getfield 192, 3) := by decide +kernel
theorem dX8_block_76 : decode cX8_block 76 = .ok (.iload_n 2, 1) := by decide +kernel
theorem dX8_block_77 : decode cX8_block 77 = .ok (.bipush 15, 2) := by decide +kernel
theorem dX8_block_79 : decode cX8_block 79 = .ok (.isub, 1) := by decide +kernel
theorem dX8_block_80 : decode cX8_block 80 = .ok (.laload, 1) := by decide +kernel
theorem dX8_block_81 : decode cX8_block 81 = .ok (.lstore_n 3, 1) := by decide +kernel
theorem dX8_block_82 : decode cX8_block 82 = .ok (.aload_n 0, 1) := by decide +kernel
theorem dX8_block_83 : decode cX8_block 83 = .ok (.getfield 192, 3) := by decide +kernel
theorem dX8_block_86 : decode cX8_block 86 = .ok (.iload_n 2, 1) := by decide +kernel
theorem dX8_block_87 : decode cX8_block 87 = .ok (.iconst 2, 1) := by decide +kernel
theorem dX8_block_88 : decode cX8_block 88 = .ok (.isub, 1) := by decide +kernel
theorem dX8_block_89 : decode cX8_block 89 = .ok (.laload, 1) := by decide +kernel
theorem dX8_block_90 : decode cX8_block 90 = .ok (.lstore 5, 2) := by decide +kernel
theorem dX8_block_92 : decode cX8_block 92 = .ok (.lload_n 3, 1) := by decide +kernel
theorem dX8_block_93 : decode cX8_block 93 = .ok (.bipush 7, 2) := by decide +kernel
theorem dX8_block_95 : decode cX8_block 95 = .ok (.invokestatic 231, 3) := by decide +kernel
theorem dX8_block_98 : decode cX8_block 98 = .ok (.lload_n 3, 1) := by decide +kernel
theorem dX8_block_99 : decode cX8_block 99 = .ok (.bipush 18, 2) := by decide +kernel
theorem dX8_block_101 : decode cX8_block 101 = .ok (.invokestatic 231, 3) := by decide +kernel
theorem dX8_block_104 : decode cX8_block 104 = .ok (.lxor, 1) := by decide +kernel
theorem dX8_block_105 : decode cX8_block 105 = .ok (.lload_n 3, 1) := by decide +kernel
theorem dX8_block_106 : decode cX8_block 106 = .ok (.iconst 3, 1) := by decide +kernel
theorem dX8_block_107 : decode cX8_block 107 = .ok (.lshr, 1) := by decide +kernel
theorem dX8_block_108 : decode cX8_block 108 = .ok (.lxor, 1) := by decide +kernel
theorem dX8_block_109 : decode cX8_block 109 = .ok (.lstore 7, 2) := by decide +kernel
theorem dX8_block_111 : decode cX8_block 111 = .ok (.lload 5, 2) := by decide +kernel
theorem dX8_block_113 : decode cX8_block 113 = .ok (.bipush 17, 2) := by decide +kernel
theorem dX8_block_115 : decode cX8_block 115 = .ok (.invokestatic 231, 3) := by decide +kernel
theorem dX8_block_118 : decode cX8_block 118 = .ok (.lload 5, 2) := by decide +kernel
theorem dX8_block_120 : decode cX8_block 120 = .ok (.bipush 19, 2) := by decide +kernel
theorem dX8_block_122 : decode cX8_block 122 = .ok (.invokestatic 231, 3) := by decide +kernel
theorem dX8_block_125 : decode cX8_block 125 = .ok (.lxor, 1) := by decide +kernel
theorem dX8_block_126 : decode cX8_block 126 = .ok (.lload 5, 2) := by decide +kernel
theorem dX8_block_128 : decode cX8_block 128 = .ok (.bipush 10, 2) := by decide +kernel
theorem dX8_block_130 : decode cX8_block 130 = .ok (.lshr, 1) := by decide +kernel
theorem dX8_block_131 : decode cX8_block 131 = .ok (.lxor, 1) := by decide +kernel
theorem dX8_block_132 : decode cX8_block 132 = .ok (.lstore 9, 2) := by decide +kernel
theorem dX8_block_134 : decode cX8_block 134 = .ok (.aload_n 0, 1) := by decide +kernel
theorem dX8_block_135 : decode cX8_block 135 = .ok (.getfield 192, 3) := by decide +kernel
theorem dX8_block_138 : decode cX8_block 138 = .ok (.iload_n 2, 1) := by decide +kernel
theorem dX8_block_139 : decode cX8_block 139 = .ok (.aload_n 0, 1) := by decide +kernel
theorem dX8_block_140 : decode cX8_block 140 = .ok (.getfield 192, 3) := by decide +kernel
theorem dX8_block_143 : decode cX8_block 143 = .ok (.iload_n 2, 1) := by decide +kernel
theorem dX8_block_144 : decode cX8_block 144 = .ok (.bipush 16, 2) := by decide +kernel
theorem dX8_block_146 : decode cX8_block 146 = .ok (.isub, 1) := by decide +kernel
theorem dX8_block_147 : decode cX8_block 147 = .ok (.laload, 1) := by decide +kernel
theorem dX8_block_148 : decode cX8_block 148 = .ok (.lload 7, 2) := by decide +kernel
theorem dX8_block_150 : decode cX8_block 150 = .ok (.ladd, 1) := by decide +kernel
theorem dX8_block_151 : decode cX8_block 151 = .ok (.aload_n 0, 1) := by decide +kernel
theorem dX8_block_152 : decode cX8_block 152 = .ok (.getfield 192, 3) := by decide +kernel
theorem dX8_block_155 : decode cX8_block 155 = .ok (.iload_n 2, 1) := by decide +kernel
theorem dX8_block_156 : decode cX8_block 156 = .ok (.bipush 7, 2) := by decide +kernel
theorem dX8_block_158 : decode cX8_block 158 = .ok (.isub, 1) := by decide +kernel
theorem dX8_block_159 : decode cX8_block 159 = .ok (.laload, 1) := by decide +kernel
theorem dX8_block_160 : decode cX8_block 160 = .ok (.ladd, 1) := by decide +kernel
theorem dX8_block_161 : decode cX8_block 161 = .ok (.lload 9, 2) := by decide +kernel
theorem dX8_block_163 : decode cX8_block 163 = .ok (.ladd, 1) := by decide +kernel
theorem dX8_block_164 : decode cX8_block 164 = .ok (.ldc2_w 206, 3) := by decide +kernel
theorem dX8_block_167 : decode cX8_block 167 = .ok (.land, 1) := by decide +kernel
theorem dX8_block_168 : decode cX8_block 168 = .ok (.lastore, 1) := by decide +kernel
theorem dX8_block_169 : decode cX8_block 169 = .ok (.iinc 2 1, 3) := by decide +kernel
theorem dX8_block_172 : decode cX8_block 172 = .ok (.goto (-106), 3) := by decide +kernel
theorem dX8_block_175 : decode cX8_block 175 = .ok (.aload_n 0, 1) := by decide +kernel
theorem dX8_block_176 : decode cX8_block 176 = .ok (.getfield 189, 3) := by decide +kernel
theorem dX8_block_179 : decode cX8_block 179 = .ok (.iconst 0, 1) := by decide +kernel
theorem dX8_block_180 : decode cX8_block 180 = .ok (.laload, 1) := by decide +kernel
theorem dX8_block_181 : decode cX8_block 181 = .ok (.lstore_n 2, 1) := by decide +kernel
theorem dX8_block_182 : decode cX8_block 182 = .ok (.aload_n 0, 1) := by decide +kernel
theorem dX8_block_183 : decode cX8_block 183 = .ok (.getfield 189, 3) := by decide +kernel
theorem dX8_block_186 : decode cX8_block 186 = .ok (.iconst 1, 1) := by decide +kernel
theorem dX8_block_187 : decode cX8_block 187 = .ok (.laload, 1) := by decide +kernel
theorem dX8_block_188 : decode cX8_block 188 = .ok (.lstore 4, 2) := by decide +kernel
theorem dX8_block_190 : decode cX8_block 190 = .ok (.aload_n 0, 1) := by decide +kernel
theorem dX8_block_191 : decode cX8_block 191 = .ok (.getfield 189, 3) := by decide +kernel
theorem dX8_block_194 : decode cX8_block 194 = .ok (.iconst 2, 1) := by decide +kernel
theorem dX8_block_195 : decode cX8_block 195 = .ok (.laload, 1) := by decide +kernel
theorem dX8_block_196 : decode cX8_block 196 = .ok (.lstore 6, 2) := by decide +kernel
theorem dX8_block_198 : decode cX8_block 198 = .ok (.aload_n 0, 1) := by decide +kernel
theorem dX8_block_199 : decode cX8_block 199 = .ok (.getfield 189, 3) := by decide +kernel
theorem dX8_block_202 : decode cX8_block 202 = .ok (.iconst 3, 1) := by decide +kernel
theorem dX8_block_203 : decode cX8_block 203 = .ok (.laload, 1) := by decide +kernel
theorem dX8_block_204 : decode cX8_block 204 = .ok (.lstore 8, 2) := by decide +kernel
theorem dX8_block_206 : decode cX8_block 206 = .ok (.aload_n 0, 1) := by decide +kernel
theorem dX8_block_207 : decode cX8_block 207 = .ok (.getfield 189, 3) := by decide +kernel
theorem dX8_block_210 : decode cX8_block 210 = .ok (.iconst 4, 1) := by decide +kernel
theorem dX8_block_211 : decode cX8_block 211 = .ok (.laload, 1) := by decide +kernel
theorem dX8_block_212 : decode cX8_block 212 = .ok (.lstore 10, 2) := by decide +kernel
theorem dX8_block_214 : decode cX8_block 214 = .ok (.aload_n 0, 1) := by decide +kernel
theorem dX8_block_215 : decode cX8_block 215 = .ok (.getfield 189, 3) := by decide +kernel
theorem dX8_block_218 : decode cX8_block 218 = .ok (.iconst 5, 1) := by decide +kernel
theorem dX8_block_219 : decode cX8_block 219 = .ok (.laload, 1) := by decide +kernel
theorem dX8_block_220 : decode cX8_block 220 = .ok (.lstore 12, 2) := by decide +kernel
theorem dX8_block_222 : decode cX8_block 222 = .ok (.aload_n 0, 1) := by decide +kernel
theorem dX8_block_223 : decode cX8_block 223 = .ok (.getfield 189, 3) := by decide +kernel
theorem dX8_block_226 : decode cX8_block 226 = .ok (.bipush 6, 2) := by decide +kernel
theorem dX8_block_228 : decode cX8_block 228 = .ok (.laload, 1) := by decide +kernel
theorem dX8_block_229 : decode cX8_block 229 = .ok (.lstore 14, 2) := by decide +kernel
theorem dX8_block_231 : decode cX8_block 231 = .ok (.aload_n 0, 1) := by decide +kernel
theorem dX8_block_232 : decode cX8_block 232 = .ok (.getfield 189, 3) := by decide +kernel
theorem dX8_block_235 : decode cX8_block 235 = .ok (.bipush 7, 2) := by decide +kernel
theorem dX8_block_237 : decode cX8_block 237 = .ok (.laload, 1) := by decide +kernel
theorem dX8_block_238 : decode cX8_block 238 = .ok (.lstore 16, 2) := by decide +kernel
theorem dX8_block_240 : decode cX8_block 240 = .ok (.iconst 0, 1) := by decide +kernel
theorem dX8_block_241 : decode cX8_block 241 = .ok (.istore 18, 2) := by decide +kernel
theorem dX8_block_243 : decode cX8_block 243 = .ok (.iload 18, 2) := by decide +kernel
theorem dX8_block_245 : decode cX8_block 245 = .ok (.bipush 64, 2) := by decide +kernel
theorem dX8_block_247 : decode cX8_block 247 = .ok (.if_icmp .ge 150, 3) := by decide +kernel
theorem dX8_block_250 : decode cX8_block 250 = .ok (.lload 16, 2) := by decide +kernel
theorem dX8_block_252 : decode cX8_block 252 = .ok (.lload 10, 2) := by decide +kernel
theorem dX8_block_254 : decode cX8_block 254 = .ok (.bipush 6, 2) := by decide +kernel
theorem dX8_block_256 : decode cX8_block 256 = .ok (.invokestatic 231, 3) := by decide +kernel
theorem dX8_block_259 : decode cX8_block 259 = .ok (.lload 10, 2) := by decide +kernel
theorem dX8_block_261 : decode cX8_block 261 = .ok (.bipush 11, 2) := by decide +kernel
theorem dX8_block_263 : decode cX8_block 263 = .ok (.invokestatic 231, 3) := by decide +kernel
theorem dX8_block_266 : decode cX8_block 266 = .ok (.lxor, 1) := by decide +kernel
theorem dX8_block_267 : decode cX8_block 267 = .ok (.lload 10, 2) := by decide +kernel
theorem dX8_block_269 : decode cX8_block 269 = .ok (.bipush 25, 2) := by decide +kernel
theorem dX8_block_271 : decode cX8_block 271 = .ok (.invokestatic 231, 3) := by decide +kernel
theorem dX8_block_274 : decode cX8_block 274 = .ok (.lxor, 1) := by decide +kernel
theorem dX8_block_275 : decode cX8_block 275 = .ok (.ladd, 1) := by decide +kernel
theorem dX8_block_276 : decode cX8_block 276 = .ok (.lload 10, 2) := by decide +kernel
theorem dX8_block_278 : decode cX8_block 278 = .ok (.lload 12, 2) := by decide +kernel
theorem dX8_block_280 : decode cX8_block 280 = .ok (.land, 1) := by decide +kernel
theorem dX8_block_281 : decode cX8_block 281 = .ok (.ldc2_w 206, 3) := by decide +kernel
theorem dX8_block_284 : decode cX8_block 284 = .ok (.lload 10, 2) := by decide +kernel
theorem dX8_block_286 : decode cX8_block 286 = .ok (.lsub, 1) := by decide +kernel
theorem dX8_block_287 : decode cX8_block 287 = .ok (.lload 14, 2) := by decide +kernel
theorem dX8_block_289 : decode cX8_block 289 = .ok (.land, 1) := by decide +kernel
theorem dX8_block_290 : decode cX8_block 290 = .ok (.lxor, 1) := by decide +kernel
theorem dX8_block_291 : decode cX8_block 291 = .ok (.ladd, 1) := by decide +kernel
theorem dX8_block_292 : decode cX8_block 292 = .ok (.aload_n 0, 1) := by decide +kernel
theorem dX8_block_293 : decode cX8_block 293 = .ok (.getfield 141, 3) := by decide +kernel
theorem dX8_block_296 : decode cX8_block 296 = .ok (.iload 18, 2) := by decide +kernel
theorem dX8_block_298 : decode cX8_block 298 = .ok (.laload, 1) := by decide +kernel
theorem dX8_block_299 : decode cX8_block 299 = .ok (.ladd, 1) := by decide +kernel
theorem dX8_block_300 : decode cX8_block 300 = .ok (.aload_n 0, 1) := by decide +kernel
theorem dX8_block_301 : decode cX8_block 301 = .ok (.getfield 192, 3) := by decide +kernel
theorem dX8_block_304 : decode cX8_block 304 = .ok (.iload 18, 2) := by decide +kernel
theorem dX8_block_306 : decode cX8_block 306 = .ok (.laload, 1) := by decide +kernel
theorem dX8_block_307 : decode cX8_block 307 = .ok (.ladd, 1) := by decide +kernel
theorem dX8_block_308 : decode cX8_block 308 = .ok (.lstore 19, 2) := by decide +kernel
theorem dX8_block_310 : decode cX8_block 310 = .ok (.lload_n 2, 1) := by decide +kernel
theorem dX8_block_311 : decode cX8_block 311 = .ok (.iconst 2, 1) := by decide +kernel
theorem dX8_block_312 : decode cX8_block 312 = .ok (.invokestatic 231, 3) := by decide +kernel
theorem dX8_block_315 : decode cX8_block 315 = .ok (.lload_n 2, 1) := by decide +kernel
theorem dX8_block_316 : decode cX8_block 316 = .ok (.bipush 13, 2) := by decide +kernel
theorem dX8_block_318 : decode cX8_block 318 = .ok (.invokestatic 231, 3) := by decide +kernel
theorem dX8_block_321 : decode cX8_block 321 = .ok (.lxor, 1) := by decide +kernel
theorem dX8_block_322 : decode cX8_block 322 = .ok (.lload_n 2, 1) := by decide +kernel
theorem dX8_block_323 : decode cX8_block 323 = .ok (.bipush 22, 2) := by decide +kernel
theorem dX8_block_325 : decode cX8_block 325 = .ok (.invokestatic 231, 3) := by decide +kernel
theorem dX8_block_328 : decode cX8_block 328 = .ok (.lxor, 1) := by decide +kernel
theorem dX8_block_329 : decode cX8_block 329 = .ok (.lload_n 2, 1) := by decide +kernel
theorem dX8_block_330 : decode cX8_block 330 = .ok (.lload 4, 2) := by decide +kernel
theorem dX8_block_332 : decode cX8_block 332 = .ok (.land, 1) := by decide +kernel
theorem dX8_block_333 : decode cX8_block 333 = .ok (.lload_n 2, 1) := by decide +kernel
theorem dX8_block_334 : decode cX8_block 334 = .ok (.lload 6, 2) := by decide +kernel
theorem dX8_block_336 : decode cX8_block 336 = .ok (.land, 1) := by decide +kernel
theorem dX8_block_337 : decode cX8_block 337 = .ok (.lxor, 1) := by decide +kernel
theorem dX8_block_338 : decode cX8_block 338 = .ok (.lload 4, 2) := by decide +kernel
theorem dX8_block_340 : decode cX8_block 340 = .ok (.lload 6, 2) := by decide +kernel
theorem dX8_block_342 : decode cX8_block 342 = .ok (.land, 1) := by decide +kernel
theorem dX8_block_343 : decode cX8_block 343 = .ok (.lxor, 1) := by decide +kernel
theorem dX8_block_344 : decode cX8_block 344 = .ok (.ladd, 1) := by decide +kernel
theorem dX8_block_345 : decode cX8_block 345 = .ok (.lstore 21, 2) := by decide +kernel
theorem dX8_block_347 : decode cX8_block 347 = .ok (.lload 14, 2) := by decide +kernel
theorem dX8_block_349 : decode cX8_block 349 = .ok (.lstore 16, 2) := by decide +kernel
theorem dX8_block_351 : decode cX8_block 351 = .ok (.lload 12, 2) := by decide +kernel
theorem dX8_block_353 : decode cX8_block 353 = .ok (.lstore 14, 2) := by decide +kernel
theorem dX8_block_355 : decode cX8_block 355 = .ok (.lload 10, 2) := by decide +kernel
theorem dX8_block_357 : decode cX8_block 357 = .ok (.lstore 12, 2) := by decide +kernel
theorem dX8_block_359 : decode cX8_block 359 = .ok (.lload 8, 2) := by decide +kernel
theorem dX8_block_361 : decode cX8_block 361 = .ok (.lload 19, 2) := by decide +kernel
theorem dX8_block_363 : decode cX8_block 363 = .ok (.ladd, 1) := by decide +kernel
theorem dX8_block_364 : decode cX8_block 364 = .ok (.ldc2_w 206, 3) := by decide +kernel
theorem dX8_block_367 : decode cX8_block 367 = .ok (.land, 1) := by decide +kernel
theorem dX8_block_368 : decode cX8_block 368 = .ok (.lstore 10, 2) := by decide +kernel
theorem dX8_block_370 : decode cX8_block 370 = .ok (.lload 6, 2) := by decide +kernel
theorem dX8_block_372 : decode cX8_block 372 = .ok (.lstore 8, 2) := by decide +kernel
theorem dX8_block_374 : decode cX8_block 374 = .ok (.lload 4, 2) := by decide +kernel
theorem dX8_block_376 : decode cX8_block 376 = .ok (.lstore 6, 2) := by decide +kernel
theorem dX8_block_378 : decode cX8_block 378 = .ok (.lload_n 2, 1) := by decide +kernel
theorem dX8_block_379 : decode cX8_block 379 = .ok (.lstore 4, 2) := by decide +kernel
theorem dX8_block_381 : decode cX8_block 381 = .ok (.lload 19, 2) := by decide +kernel
theorem dX8_block_383 : decode cX8_block 383 = .ok (.lload 21, 2) := by decide +kernel
theorem dX8_block_385 : decode cX8_block 385 = .ok (.ladd, 1) := by decide +kernel
theorem dX8_block_386 : decode cX8_block 386 = .ok (.ldc2_w 206, 3) := by decide +kernel
theorem dX8_block_389 : decode cX8_block 389 = .ok (.land, 1) := by decide +kernel
theorem dX8_block_390 : decode cX8_block 390 = .ok (.lstore_n 2, 1) := by decide +kernel
theorem dX8_block_391 : decode cX8_block 391 = .ok (.iinc 18 1, 3) := by decide +kernel
theorem dX8_block_394 : decode cX8_block 394 = .ok (.goto (-151), 3) := by decide +kernel
theorem dX8_block_397 : decode cX8_block 397 = .ok (.aload_n 0, 1) := by decide +kernel
theorem dX8_block_398 : decode cX8_block 398 = .ok (.getfield 189, 3) := by decide +kernel
theorem dX8_block_401 : decode cX8_block 401 = .ok (.iconst 0, 1) := by decide +kernel
theorem dX8_block_402 : decode cX8_block 402 = .ok (.aload_n 0, 1) := by decide +kernel
theorem dX8_block_403 : decode cX8_block 403 = .ok (.getfield 189, 3) := by decide +kernel
theorem dX8_block_406 : decode cX8_block 406 = .ok (.iconst 0, 1) := by decide +kernel
theorem dX8_block_407 : decode cX8_block 407 = .ok (.laload, 1) := by decide +kernel
theorem dX8_block_408 : decode cX8_block 408 = .ok (.lload_n 2, 1) := by decide +kernel
theorem dX8_block_409 : decode cX8_block 409 = .ok (.ladd, 1) := by decide +kernel
theorem dX8_block_410 : decode cX8_block 410 = .ok (.ldc2_w 206, 3) := by decide +kernel
theorem dX8_block_413 : decode cX8_block 413 = .ok (.land, 1) := by decide +kernel
theorem dX8_block_414 : decode cX8_block 414 = .ok (.lastore, 1) := by decide +kernel
theorem dX8_block_415 : decode cX8_block 415 = .ok (.aload_n 0, 1) := by decide +kernel
theorem dX8_block_416 : decode cX8_block 416 = .ok (.getfield 189, 3) := by decide +kernel
theorem dX8_block_419 : decode cX8_block 419 = .ok (.iconst 1, 1) := by decide +kernel
theorem dX8_block_420 : decode cX8_block 420 = .ok (.aload_n 0, 1) := by decide +kernel
theorem dX8_block_421 : decode cX8_block 421 = .ok (.getfield 189, 3) := by decide +kernel
theorem dX8_block_424 : decode cX8_block 424 = .ok (.iconst 1, 1) := by decide +kernel
theorem dX8_block_425 : decode cX8_block 425 = .ok (.laload, 1) := by decide +kernel
theorem dX8_block_426 : decode cX8_block 426 = .ok (.lload 4, 2) := by decide +kernel
theorem dX8_block_428 : decode cX8_block 428 = .ok (.ladd, 1) := by decide +kernel
theorem dX8_block_429 : decode cX8_block 429 = .ok (.ldc2_w 206, 3) := by decide +kernel
theorem dX8_block_432 : decode cX8_block 432 = .ok (.land, 1) := by decide +kernel
theorem dX8_block_433 : decode cX8_block 433 = .ok (.lastore, 1) := by decide +kernel
theorem dX8_block_434 : decode cX8_block 434 = .ok (.aload_n 0, 1) := by decide +kernel
theorem dX8_block_435 : decode cX8_block 435 = .ok (.getfield 189, 3) := by decide +kernel
theorem dX8_block_438 : decode cX8_block 438 = .ok (.iconst 2, 1) := by decide +kernel
theorem dX8_block_439 : decode cX8_block 439 = .ok (.aload_n 0, 1) := by decide +kernel
theorem dX8_block_440 : decode cX8_block 440 = .ok (.getfield 189, 3) := by decide +kernel
theorem dX8_block_443 : decode cX8_block 443 = .ok (.iconst 2, 1) := by decide +kernel
theorem dX8_block_444 : decode cX8_block 444 = .ok (.laload, 1) := by decide +kernel
theorem dX8_block_445 : decode cX8_block 445 = .ok (.lload 6, 2) := by decide +kernel
theorem dX8_block_447 : decode cX8_block 447 = .ok (.ladd, 1) := by decide +kernel
theorem dX8_block_448 : decode cX8_block 448 = .ok (.ldc2_w 206, 3) := by decide +kernel
theorem dX8_block_451 : decode cX8_block 451 = .ok (.land, 1) := by decide +kernel
theorem dX8_block_452 : decode cX8_block 452 = .ok (.lastore, 1) := by decide +kernel
theorem dX8_block_453 : decode cX8_block 453 = .ok (.aload_n 0, 1) := by decide +kernel
theorem dX8_block_454 : decode cX8_block 454 = .ok (.getfield 189, 3) := by decide +kernel
theorem dX8_block_457 : decode cX8_block 457 = .ok (.iconst 3, 1) := by decide +kernel
theorem dX8_block_458 : decode cX8_block 458 = .ok (.aload_n 0, 1) := by decide +kernel
theorem dX8_block_459 : decode cX8_block 459 = .ok (.getfield 189, 3) := by decide +kernel
theorem dX8_block_462 : decode cX8_block 462 = .ok (.iconst 3, 1) := by decide +kernel
theorem dX8_block_463 : decode cX8_block 463 = .ok (.laload, 1) := by decide +kernel
theorem dX8_block_464 : decode cX8_block 464 = .ok (.lload 8, 2) := by decide +kernel
theorem dX8_block_466 : decode cX8_block 466 = .ok (.ladd, 1) := by decide +kernel
theorem dX8_block_467 : decode cX8_block 467 = .ok (.ldc2_w 206, 3) := by decide +kernel
theorem dX8_block_470 : decode cX8_block 470 = .ok (.land, 1) := by decide +kernel
theorem dX8_block_471 : decode cX8_block 471 = .ok (.lastore, 1) := by decide +kernel
theorem dX8_block_472 : decode cX8_block 472 = .ok (.aload_n 0, 1) := by decide +kernel
theorem dX8_block_473 : decode cX8_block 473 = .ok (.getfield 189, 3) := by decide +kernel
theorem dX8_block_476 : decode cX8_block 476 = .ok (.iconst 4, 1) := by decide +kernel
theorem dX8_block_477 : decode cX8_block 477 = .ok (.aload_n 0, 1) := by decide +kernel
theorem dX8_block_478 : decode cX8_block 478 = .ok (.getfield 189, 3) := by decide +kernel
theorem dX8_block_481 : decode cX8_block 481 = .ok (.iconst 4, 1) := by decide +kernel
theorem dX8_block_482 : decode cX8_block 482 = .ok (.laload, 1) := by decide +kernel
theorem dX8_block_483 : decode cX8_block 483 = .ok (.lload 10, 2) := by decide +kernel
theorem dX8_block_485 : decode cX8_block 485 = .ok (.ladd, 1) := by decide +kernel
theorem dX8_block_486 : decode cX8_block 486 = .ok (.ldc2_w 206, 3) := by decide +kernel
theorem dX8_block_489 : decode cX8_block 489 = .ok (.land, 1) := by decide +kernel
theorem dX8_block_490 : decode cX8_block 490 = .ok (.lastore, 1) := by decide +kernel
theorem dX8_block_491 : decode cX8_block 491 = .ok (.aload_n 0, 1) := by decide +kernel
theorem dX8_block_492 : decode cX8_block 492 = .ok (.getfield 189, 3) := by decide +kernel
theorem dX8_block_495 : decode cX8_block 495 = .ok (.iconst 5, 1) := by decide +kernel
theorem dX8_block_496 : decode cX8_block 496 = .ok (.aload_n 0, 1) := by decide +kernel
theorem dX8_block_497 : decode cX8_block 497 = .ok (.getfield 189, 3) := by decide +kernel
theorem dX8_block_500 : decode cX8_block 500 = .ok (.iconst 5, 1) := by decide +kernel
theorem dX8_block_501 : decode cX8_block 501 = .ok (.laload, 1) := by decide +kernel
theorem dX8_block_502 : decode cX8_block 502 = .ok (.lload 12, 2) := by decide +kernel
theorem dX8_block_504 : decode cX8_block 504 = .ok (.ladd, 1) := by decide +kernel
theorem dX8_block_505 : decode cX8_block 505 = .ok (.ldc2_w 206, 3) := by decide +kernel
theorem dX8_block_508 : decode cX8_block 508 = .ok (.land, 1) := by decide +kernel
theorem dX8_block_509 : decode cX8_block 509 = .ok (.lastore, 1) := by decide +kernel
theorem dX8_block_510 : decode cX8_block 510 = .ok (.aload_n 0, 1) := by decide +kernel
theorem dX8_block_511 : decode cX8_block 511 = .ok (.getfield 189, 3) := by decide +kernel
theorem dX8_block_514 : decode cX8_block 514 = .ok (.bipush 6, 2) := by decide +kernel
theorem dX8_block_516 : decode cX8_block 516 = .ok (.aload_n 0, 1) := by decide +kernel
theorem dX8_block_517 : decode cX8_block 517 = .ok (.getfield 189, 3) := by decide +kernel
theorem dX8_block_520 : decode cX8_block 520 = .ok (.bipush 6, 2) := by decide +kernel
theorem dX8_block_522 : decode cX8_block 522 = .ok (.laload, 1) := by decide +kernel
theorem dX8_block_523 : decode cX8_block 523 = .ok (.lload 14, 2) := by decide +kernel
theorem dX8_block_525 : decode cX8_block 525 = .ok (.ladd, 1) := by decide +kernel
theorem dX8_block_526 : decode cX8_block 526 = .ok (.ldc2_w 206, 3) := by decide +kernel
theorem dX8_block_529 : decode cX8_block 529 = .ok (.land, 1) := by decide +kernel
theorem dX8_block_530 : decode cX8_block 530 = .ok (.lastore, 1) := by decide +kernel
theorem dX8_block_531 : decode cX8_block 531 = .ok (.aload_n 0, 1) := by decide +kernel
theorem dX8_block_532 : decode cX8_block 532 = .ok (.getfield 189, 3) := by decide +kernel
theorem dX8_block_535 : decode cX8_block 535 = .ok (.bipush 7, 2) := by decide +kernel
theorem dX8_block_537 : decode cX8_block 537 = .ok (.aload_n 0, 1) := by decide +kernel
theorem dX8_block_538 : decode cX8_block 538 = .ok (.getfield 189, 3) := by decide +kernel
theorem dX8_block_541 : decode cX8_block 541 = .ok (.bipush 7, 2) := by decide +kernel
theorem dX8_block_543 : decode cX8_block 543 = .ok (.laload, 1) := by decide +kernel
theorem dX8_block_544 : decode cX8_block 544 = .ok (.lload 16, 2) := by decide +kernel
theorem dX8_block_546 : decode cX8_block 546 = .ok (.ladd, 1) := by decide +kernel
theorem dX8_block_547 : decode cX8_block 547 = .ok (.ldc2_w 206, 3) := by decide +kernel
theorem dX8_block_550 : decode cX8_block 550 = .ok (.land, 1) := by decide +kernel
theorem dX8_block_551 : decode cX8_block 551 = .ok (.lastore, 1) := by decide +kernel
theorem dX8_block_552 : decode cX8_block 552 = .ok (.return_, 1) := by decide +kernel
theorem dX8_octetsOf_0 : decode cX8_octetsOf 0 = .ok (.iconst 0, 1) := by decide +kernel
theorem dX8_octetsOf_1 : decode cX8_octetsOf 1 = .ok (.istore_n 1, 1) := by decide +kernel
theorem dX8_octetsOf_2 : decode cX8_octetsOf 2 = .ok (.iload_n 1, 1) := by decide +kernel
theorem dX8_octetsOf_3 : decode cX8_octetsOf 3 = .ok (.bipush 32, 2) := by decide +kernel
theorem dX8_octetsOf_5 : decode cX8_octetsOf 5 = .ok (.if_icmp .ge 35, 3) := by decide +kernel
theorem dX8_octetsOf_8 : decode cX8_octetsOf 8 = .ok (.aload_n 0, 1) := by decide +kernel
theorem dX8_octetsOf_9 : decode cX8_octetsOf 9 = .ok (.getfield 179, 3) := by decide +kernel
theorem dX8_octetsOf_12 : decode cX8_octetsOf 12 = .ok (.iload_n 1, 1) := by decide +kernel
theorem dX8_octetsOf_13 : decode cX8_octetsOf 13 = .ok (.aload_n 0, 1) := by decide +kernel
theorem dX8_octetsOf_14 : decode cX8_octetsOf 14 = .ok (.getfield 189, 3) := by decide +kernel
theorem dX8_octetsOf_17 : decode cX8_octetsOf 17 = .ok (.iload_n 1, 1) := by decide +kernel
theorem dX8_octetsOf_18 : decode cX8_octetsOf 18 = .ok (.iconst 4, 1) := by decide +kernel
theorem dX8_octetsOf_19 : decode cX8_octetsOf 19 = .ok (.idiv, 1) := by decide +kernel
theorem dX8_octetsOf_20 : decode cX8_octetsOf 20 = .ok (.laload, 1) := by decide +kernel
theorem dX8_octetsOf_21 : decode cX8_octetsOf 21 = .ok (.bipush 24, 2) := by decide +kernel
theorem dX8_octetsOf_23 : decode cX8_octetsOf 23 = .ok (.bipush 8, 2) := by decide +kernel
theorem dX8_octetsOf_25 : decode cX8_octetsOf 25 = .ok (.iload_n 1, 1) := by decide +kernel
theorem dX8_octetsOf_26 : decode cX8_octetsOf 26 = .ok (.iconst 4, 1) := by decide +kernel
theorem dX8_octetsOf_27 : decode cX8_octetsOf 27 = .ok (.irem, 1) := by decide +kernel
theorem dX8_octetsOf_28 : decode cX8_octetsOf 28 = .ok (.imul, 1) := by decide +kernel
theorem dX8_octetsOf_29 : decode cX8_octetsOf 29 = .ok (.isub, 1) := by decide +kernel
theorem dX8_octetsOf_30 : decode cX8_octetsOf 30 = .ok (.lshr, 1) := by decide +kernel
theorem dX8_octetsOf_31 : decode cX8_octetsOf 31 = .ok (.l2i, 1) := by decide +kernel
theorem dX8_octetsOf_32 : decode cX8_octetsOf 32 = .ok (.i2b, 1) := by decide +kernel
theorem dX8_octetsOf_33 : decode cX8_octetsOf 33 = .ok (.bastore, 1) := by decide +kernel
theorem dX8_octetsOf_34 : decode cX8_octetsOf 34 = .ok (.iinc 1 1, 3) := by decide +kernel
theorem dX8_octetsOf_37 : decode cX8_octetsOf 37 = .ok (.goto (-35), 3) := by decide +kernel
theorem dX8_octetsOf_40 : decode cX8_octetsOf 40 = .ok (.return_, 1) := by decide +kernel
theorem dX8_say_0 : decode cX8_say 0 = .ok (.aload_n 0, 1) := by decide +kernel
theorem dX8_say_1 : decode cX8_say 1 = .ok (.getfield 186, 3) := by decide +kernel
theorem dX8_say_4 : decode cX8_say 4 = .ok (.aload_n 0, 1) := by decide +kernel
theorem dX8_say_5 : decode cX8_say 5 = .ok (.getfield 235, 3) := by decide +kernel
theorem dX8_say_8 : decode cX8_say 8 = .ok (.iload_n 1, 1) := by decide +kernel
theorem dX8_say_9 : decode cX8_say 9 = .ok (.i2b, 1) := by decide +kernel
theorem dX8_say_10 : decode cX8_say 10 = .ok (.bastore, 1) := by decide +kernel
theorem dX8_say_11 : decode cX8_say 11 = .ok (.aload_n 0, 1) := by decide +kernel
theorem dX8_say_12 : decode cX8_say 12 = .ok (.dup, 1) := by decide +kernel
theorem dX8_say_13 : decode cX8_say 13 = .ok (.getfield 235, 3) := by decide +kernel
theorem dX8_say_16 : decode cX8_say 16 = .ok (.iconst 1, 1) := by decide +kernel
theorem dX8_say_17 : decode cX8_say 17 = .ok (.iadd, 1) := by decide +kernel
theorem dX8_say_18 : decode cX8_say 18 = .ok (.putfield 235, 3) := by decide +kernel
theorem dX8_say_21 : decode cX8_say 21 = .ok (.return_, 1) := by decide +kernel
theorem dX8_sayNumber_0 : decode cX8_sayNumber 0 = .ok (.iconst 3, 1) := by decide +kernel
theorem dX8_sayNumber_1 : decode cX8_sayNumber 1 = .ok (.istore_n 3, 1) := by decide +kernel
theorem dX8_sayNumber_2 : decode cX8_sayNumber 2 = .ok (.iload_n 3, 1) := by decide +kernel
theorem dX8_sayNumber_3 : decode cX8_sayNumber 3 = .ok (.ifCond .lt 20, 3) := by decide +kernel
theorem dX8_sayNumber_6 : decode cX8_sayNumber 6 = .ok (.aload_n 0, 1) := by decide +kernel
theorem dX8_sayNumber_7 : decode cX8_sayNumber 7 = .ok (.lload_n 1, 1) := by decide +kernel
theorem dX8_sayNumber_8 : decode cX8_sayNumber 8 = .ok (.bipush 8, 2) := by decide +kernel
theorem dX8_sayNumber_10 : decode cX8_sayNumber 10 = .ok (.iload_n 3, 1) := by decide +kernel
theorem dX8_sayNumber_11 : decode cX8_sayNumber 11 = .ok (.imul, 1) := by decide +kernel
theorem dX8_sayNumber_12 : decode cX8_sayNumber 12 = .ok (.lshr, 1) := by decide +kernel
theorem dX8_sayNumber_13 : decode cX8_sayNumber 13 = .ok (.l2i, 1) := by decide +kernel
theorem dX8_sayNumber_14 : decode cX8_sayNumber 14 = .ok (.invokevirtual 238, 3) := by decide +kernel
theorem dX8_sayNumber_17 : decode cX8_sayNumber 17 = .ok (.iinc 3 (-1), 3) := by decide +kernel
theorem dX8_sayNumber_20 : decode cX8_sayNumber 20 = .ok (.goto (-18), 3) := by decide +kernel
theorem dX8_sayNumber_23 : decode cX8_sayNumber 23 = .ok (.return_, 1) := by decide +kernel
theorem dX8_at_0 : decode cX8_at 0 = .ok (.bipush 120, 2) := by decide +kernel
theorem dX8_at_2 : decode cX8_at 2 = .ok (.iload_n 0, 1) := by decide +kernel
theorem dX8_at_3 : decode cX8_at 3 = .ok (.imul, 1) := by decide +kernel
theorem dX8_at_4 : decode cX8_at 4 = .ok (.iconst 3, 1) := by decide +kernel
theorem dX8_at_5 : decode cX8_at 5 = .ok (.iload_n 1, 1) := by decide +kernel
theorem dX8_at_6 : decode cX8_at 6 = .ok (.imul, 1) := by decide +kernel
theorem dX8_at_7 : decode cX8_at 7 = .ok (.iadd, 1) := by decide +kernel
theorem dX8_at_8 : decode cX8_at 8 = .ok (.ireturn, 1) := by decide +kernel
theorem dX8_blank_0 : decode cX8_blank 0 = .ok (.aload_n 0, 1) := by decide +kernel
theorem dX8_blank_1 : decode cX8_blank 1 = .ok (.iconst 0, 1) := by decide +kernel
theorem dX8_blank_2 : decode cX8_blank 2 = .ok (.putfield 1, 3) := by decide +kernel
theorem dX8_blank_5 : decode cX8_blank 5 = .ok (.aload_n 0, 1) := by decide +kernel
theorem dX8_blank_6 : decode cX8_blank 6 = .ok (.getfield 145, 3) := by decide +kernel
theorem dX8_blank_9 : decode cX8_blank 9 = .ok (.bipush 8, 2) := by decide +kernel
theorem dX8_blank_11 : decode cX8_blank 11 = .ok (.iaload, 1) := by decide +kernel
theorem dX8_blank_12 : decode cX8_blank 12 = .ok (.bipush 8, 2) := by decide +kernel
theorem dX8_blank_14 : decode cX8_blank 14 = .ok (.if_icmp .ne 6, 3) := by decide +kernel
theorem dX8_blank_17 : decode cX8_blank 17 = .ok (.bipush (-2), 2) := by decide +kernel
theorem dX8_blank_19 : decode cX8_blank 19 = .ok (.ireturn, 1) := by decide +kernel
theorem dX8_blank_20 : decode cX8_blank 20 = .ok (.aload_n 0, 1) := by decide +kernel
theorem dX8_blank_21 : decode cX8_blank 21 = .ok (.getfield 145, 3) := by decide +kernel
theorem dX8_blank_24 : decode cX8_blank 24 = .ok (.bipush 8, 2) := by decide +kernel
theorem dX8_blank_26 : decode cX8_blank 26 = .ok (.dup2, 1) := by decide +kernel
theorem dX8_blank_27 : decode cX8_blank 27 = .ok (.iaload, 1) := by decide +kernel
theorem dX8_blank_28 : decode cX8_blank 28 = .ok (.iconst 1, 1) := by decide +kernel
theorem dX8_blank_29 : decode cX8_blank 29 = .ok (.iadd, 1) := by decide +kernel
theorem dX8_blank_30 : decode cX8_blank 30 = .ok (.iastore, 1) := by decide +kernel
theorem dX8_blank_31 : decode cX8_blank 31 = .ok (.aload_n 0, 1) := by decide +kernel
theorem dX8_blank_32 : decode cX8_blank 32 = .ok (.iconst 0, 1) := by decide +kernel
theorem dX8_blank_33 : decode cX8_blank 33 = .ok (.putfield 241, 3) := by decide +kernel
theorem dX8_blank_36 : decode cX8_blank 36 = .ok (.aload_n 0, 1) := by decide +kernel
theorem dX8_blank_37 : decode cX8_blank 37 = .ok (.getfield 145, 3) := by decide +kernel
