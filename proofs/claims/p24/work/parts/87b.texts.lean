/-! the law's texts -/
set_option maxRecDepth 100000 in
set_option maxHeartbeats 8000000 in
theorem walk_texts {k : zC} {G : zG} (hg : zGeo G 47) (ok : zOk k G 47 cL_texts RL 9 218) (old : zOld k G 47) (hI : ∀ i, i < 4 → zIn k i) {w : xW} {H : Nat → Int32} (h : zQ w (rT tb_0) 0 0 (tT 0) H) (fin : ∀ w lv, zZ k G 47 w 572 lv [.int (nI 1)]) : zZ k G 47 w 8 [(0, .ref (zad G 0))] [] := by
  have hN : 47 ≤ 47 := Nat.le_refl 47
  refine z_aload_n ok dL_texts_8 0 rfl ?_
  obtain ⟨w1, a1, h1⟩ := Q_play h fk_214 fk_215 fk_216
  refine z_callVi ok old dL_texts_9 [] (zM_eq (r := nI 0) (c_X2_play G 47 hN hg w) a1) zy_X2_play zw_489 0 (by omega) (zE_0 G _) rfl rfl rfl rfl rfl (by decide) (Nat.le_of_ble_eq_true rfl) ?_
  refine z_if_ne ok dL_texts_12 25 (by decide) (fun q => absurd q (by decide)) (fun _ => ?_)
  refine z_aload_n ok dL_texts_15 0 rfl ?_
  refine z_bipush ok dL_texts_16 (x := nI 8) (by decide) ?_
  refine z_callVi ok old dL_texts_18 [] (zM_eq1 (r := nI 1) (c_X2_count G 47 hN hg w1 (nI 8)) (Q_count h1 fk_217)) zy_X2_count zw_292 0 (by omega) (zE_0 G _) rfl rfl rfl rfl rfl (by decide) (Nat.le_of_ble_eq_true rfl) ?_
  refine z_iconst ok dL_texts_21 (x := nI 1) (by decide) ?_
  refine z_icmp_eq ok dL_texts_22 27 (by decide) (fun _ => ?_) (fun q => absurd q (by decide))
  refine z_aload_n ok dL_texts_27 0 rfl ?_
  refine z_callSV ok old dL_texts_28 [] (Q_state hN hg h1) zy_L_state zw_407 rfl rfl (by decide) (Nat.le_of_ble_eq_true rfl) ?_
  refine z_lstore_n ok dL_texts_31 (hI 2 (by decide)) (lv' := [(1, .long (stO (rT tb_0))), (0, .ref (zad G 0))]) rfl ?_
  refine z_aload_n ok dL_texts_32 1 rfl ?_
  refine z_ldc2 ok dL_texts_33 zw_497 ?_
  refine z_lconst ok dL_texts_36 (g := 0) (by decide) ?_
  refine z_bipush ok dL_texts_37 (x := (-4)) (by decide) ?_
  refine z_bipush ok dL_texts_39 (x := (-4)) (by decide) ?_
  obtain ⟨w2, a2, h2⟩ := c_L_isFault hN hg h1 fk_218 fk_219 fk_220
  refine z_callSi ok old dL_texts_41 [] a2 zy_L_isFault zw_498 rfl rfl (by decide) (Nat.le_of_ble_eq_true rfl) ?_
  refine z_if_eq ok dL_texts_44 86 (by decide) (fun q => absurd q (by decide)) (fun _ => ?_)
  refine z_aload_n ok dL_texts_47 1 rfl ?_
  refine z_lconst ok dL_texts_48 (g := 0) (by decide) ?_
  refine z_lconst ok dL_texts_49 (g := 0) (by decide) ?_
  refine z_bipush ok dL_texts_50 (x := (-4)) (by decide) ?_
  refine z_bipush ok dL_texts_52 (x := (-4)) (by decide) ?_
  obtain ⟨w3, a3, h3⟩ := c_L_isFault hN hg h2 fk_221 fk_222 fk_223
  refine z_callSi ok old dL_texts_54 [] a3 zy_L_isFault zw_498 rfl rfl (by decide) (Nat.le_of_ble_eq_true rfl) ?_
  refine z_if_eq ok dL_texts_57 86 (by decide) (fun q => absurd q (by decide)) (fun _ => ?_)
  refine z_aload_n ok dL_texts_60 1 rfl ?_
  refine z_ldc2 ok dL_texts_61 zw_509 ?_
  refine z_lconst ok dL_texts_64 (g := 0) (by decide) ?_
  refine z_iconst ok dL_texts_65 (x := nI 0) (by decide) ?_
  refine z_iconst ok dL_texts_66 (x := nI 1) (by decide) ?_
  obtain ⟨w4, a4, h4⟩ := c_L_isFault hN hg h3 fk_224 fk_225 fk_226
  refine z_callSi ok old dL_texts_67 [] a4 zy_L_isFault zw_498 rfl rfl (by decide) (Nat.le_of_ble_eq_true rfl) ?_
  refine z_if_eq ok dL_texts_70 86 (by decide) (fun q => absurd q (by decide)) (fun _ => ?_)
  refine z_aload_n ok dL_texts_73 1 rfl ?_
  refine z_ldc2 ok dL_texts_74 zw_510 ?_
  refine z_lconst ok dL_texts_77 (g := 0) (by decide) ?_
  refine z_iconst ok dL_texts_78 (x := nI 0) (by decide) ?_
  refine z_iconst ok dL_texts_79 (x := nI 1) (by decide) ?_
  obtain ⟨w5, a5, h5⟩ := c_L_isFault hN hg h4 fk_227 fk_228 fk_229
  refine z_callSi ok old dL_texts_80 [] a5 zy_L_isFault zw_498 rfl rfl (by decide) (Nat.le_of_ble_eq_true rfl) ?_
  refine z_if_ne ok dL_texts_83 88 (by decide) (fun _ => ?_) (fun q => absurd q (by decide))
  refine z_aload_n ok dL_texts_88 1 rfl ?_
  refine z_ldc2 ok dL_texts_89 zw_511 ?_
  refine z_lconst ok dL_texts_92 (g := 0) (by decide) ?_
  refine z_iconst ok dL_texts_93 (x := nI 0) (by decide) ?_
  refine z_iconst ok dL_texts_94 (x := nI 1) (by decide) ?_
  obtain ⟨w6, a6, h6⟩ := c_L_isFault hN hg h5 fk_230 fk_231 fk_232
  refine z_callSi ok old dL_texts_95 [] a6 zy_L_isFault zw_498 rfl rfl (by decide) (Nat.le_of_ble_eq_true rfl) ?_
  refine z_if_eq ok dL_texts_98 140 (by decide) (fun q => absurd q (by decide)) (fun _ => ?_)
  refine z_aload_n ok dL_texts_101 1 rfl ?_
  refine z_ldc2 ok dL_texts_102 zw_512 ?_
  refine z_lconst ok dL_texts_105 (g := 0) (by decide) ?_
  refine z_iconst ok dL_texts_106 (x := nI 0) (by decide) ?_
  refine z_iconst ok dL_texts_107 (x := nI 3) (by decide) ?_
  obtain ⟨w7, a7, h7⟩ := c_L_isFault hN hg h6 fk_233 fk_234 fk_235
  refine z_callSi ok old dL_texts_108 [] a7 zy_L_isFault zw_498 rfl rfl (by decide) (Nat.le_of_ble_eq_true rfl) ?_
  refine z_if_eq ok dL_texts_111 140 (by decide) (fun q => absurd q (by decide)) (fun _ => ?_)
  refine z_aload_n ok dL_texts_114 1 rfl ?_
  refine z_ldc2 ok dL_texts_115 zw_513 ?_
  refine z_lconst ok dL_texts_118 (g := 0) (by decide) ?_
  refine z_iconst ok dL_texts_119 (x := nI 0) (by decide) ?_
  refine z_iconst ok dL_texts_120 (x := nI 4) (by decide) ?_
  obtain ⟨w8, a8, h8⟩ := c_L_isFault hN hg h7 fk_236 fk_237 fk_238
  refine z_callSi ok old dL_texts_121 [] a8 zy_L_isFault zw_498 rfl rfl (by decide) (Nat.le_of_ble_eq_true rfl) ?_
  refine z_if_eq ok dL_texts_124 140 (by decide) (fun q => absurd q (by decide)) (fun _ => ?_)
  refine z_aload_n ok dL_texts_127 1 rfl ?_
  refine z_ldc2 ok dL_texts_128 zw_514 ?_
  refine z_lconst ok dL_texts_131 (g := 0) (by decide) ?_
  refine z_iconst ok dL_texts_132 (x := nI 0) (by decide) ?_
  refine z_iconst ok dL_texts_133 (x := nI 5) (by decide) ?_
  obtain ⟨w9, a9, h9⟩ := c_L_isFault hN hg h8 fk_239 fk_240 fk_241
  refine z_callSi ok old dL_texts_134 [] a9 zy_L_isFault zw_498 rfl rfl (by decide) (Nat.le_of_ble_eq_true rfl) ?_
  refine z_if_ne ok dL_texts_137 142 (by decide) (fun _ => ?_) (fun q => absurd q (by decide))
  refine z_aload_n ok dL_texts_142 1 rfl ?_
  refine z_ldc2 ok dL_texts_143 zw_515 ?_
  refine z_lconst ok dL_texts_146 (g := 0) (by decide) ?_
  refine z_iconst ok dL_texts_147 (x := nI 0) (by decide) ?_
  refine z_iconst ok dL_texts_148 (x := nI 5) (by decide) ?_
  obtain ⟨w10, a10, h10⟩ := c_L_isFault hN hg h9 fk_242 fk_243 fk_244
  refine z_callSi ok old dL_texts_149 [] a10 zy_L_isFault zw_498 rfl rfl (by decide) (Nat.le_of_ble_eq_true rfl) ?_
  refine z_if_eq ok dL_texts_152 197 (by decide) (fun q => absurd q (by decide)) (fun _ => ?_)
  refine z_aload_n ok dL_texts_155 1 rfl ?_
  refine z_ldc2 ok dL_texts_156 zw_516 ?_
  refine z_lconst ok dL_texts_159 (g := 0) (by decide) ?_
  refine z_iconst ok dL_texts_160 (x := nI 0) (by decide) ?_
  refine z_bipush ok dL_texts_161 (x := nI 6) (by decide) ?_
  obtain ⟨w11, a11, h11⟩ := c_L_isFault hN hg h10 fk_245 fk_246 fk_247
  refine z_callSi ok old dL_texts_163 [] a11 zy_L_isFault zw_498 rfl rfl (by decide) (Nat.le_of_ble_eq_true rfl) ?_
  refine z_if_eq ok dL_texts_166 197 (by decide) (fun q => absurd q (by decide)) (fun _ => ?_)
  refine z_aload_n ok dL_texts_169 1 rfl ?_
  refine z_ldc2 ok dL_texts_170 zw_517 ?_
  refine z_lconst ok dL_texts_173 (g := 0) (by decide) ?_
  refine z_iconst ok dL_texts_174 (x := nI 0) (by decide) ?_
  refine z_bipush ok dL_texts_175 (x := nI 6) (by decide) ?_
  obtain ⟨w12, a12, h12⟩ := c_L_isFault hN hg h11 fk_248 fk_249 fk_250
  refine z_callSi ok old dL_texts_177 [] a12 zy_L_isFault zw_498 rfl rfl (by decide) (Nat.le_of_ble_eq_true rfl) ?_
  refine z_if_eq ok dL_texts_180 197 (by decide) (fun q => absurd q (by decide)) (fun _ => ?_)
  refine z_aload_n ok dL_texts_183 1 rfl ?_
  refine z_ldc2 ok dL_texts_184 zw_518 ?_
  refine z_lconst ok dL_texts_187 (g := 0) (by decide) ?_
  refine z_iconst ok dL_texts_188 (x := nI 0) (by decide) ?_
  refine z_bipush ok dL_texts_189 (x := nI 8) (by decide) ?_
  obtain ⟨w13, a13, h13⟩ := c_L_isFault hN hg h12 fk_251 fk_252 fk_253
  refine z_callSi ok old dL_texts_191 [] a13 zy_L_isFault zw_498 rfl rfl (by decide) (Nat.le_of_ble_eq_true rfl) ?_
  refine z_if_ne ok dL_texts_194 199 (by decide) (fun _ => ?_) (fun q => absurd q (by decide))
  refine z_aload_n ok dL_texts_199 1 rfl ?_
  refine z_ldc2 ok dL_texts_200 zw_519 ?_
  refine z_lconst ok dL_texts_203 (g := 0) (by decide) ?_
  refine z_iconst ok dL_texts_204 (x := nI 0) (by decide) ?_
  refine z_iconst ok dL_texts_205 (x := nI 1) (by decide) ?_
  obtain ⟨w14, a14, h14⟩ := c_L_isFault hN hg h13 fk_254 fk_255 fk_256
  refine z_callSi ok old dL_texts_206 [] a14 zy_L_isFault zw_498 rfl rfl (by decide) (Nat.le_of_ble_eq_true rfl) ?_
  refine z_if_eq ok dL_texts_209 261 (by decide) (fun q => absurd q (by decide)) (fun _ => ?_)
  refine z_aload_n ok dL_texts_212 1 rfl ?_
  refine z_ldc2 ok dL_texts_213 zw_520 ?_
  refine z_ldc2 ok dL_texts_216 zw_521 ?_
  refine z_bipush ok dL_texts_219 (x := (-4)) (by decide) ?_
  refine z_bipush ok dL_texts_221 (x := (-4)) (by decide) ?_
  obtain ⟨w15, a15, h15⟩ := c_L_isFault hN hg h14 fk_257 fk_258 fk_259
  refine z_callSi ok old dL_texts_223 [] a15 zy_L_isFault zw_498 rfl rfl (by decide) (Nat.le_of_ble_eq_true rfl) ?_
  refine z_if_eq ok dL_texts_226 261 (by decide) (fun q => absurd q (by decide)) (fun _ => ?_)
  refine z_aload_n ok dL_texts_229 1 rfl ?_
  refine z_ldc2 ok dL_texts_230 zw_522 ?_
  refine z_ldc2 ok dL_texts_233 zw_521 ?_
  refine z_iconst ok dL_texts_236 (x := nI 5) (by decide) ?_
  refine z_iconst ok dL_texts_237 (x := nI 4) (by decide) ?_
  obtain ⟨w16, a16, h16⟩ := c_L_isFault hN hg h15 fk_260 fk_261 fk_262
  refine z_callSi ok old dL_texts_238 [] a16 zy_L_isFault zw_498 rfl rfl (by decide) (Nat.le_of_ble_eq_true rfl) ?_
  refine z_if_eq ok dL_texts_241 261 (by decide) (fun q => absurd q (by decide)) (fun _ => ?_)
  refine z_aload_n ok dL_texts_244 1 rfl ?_
  refine z_ldc2 ok dL_texts_245 zw_523 ?_
  refine z_ldc2 ok dL_texts_248 zw_521 ?_
  refine z_bipush ok dL_texts_251 (x := (-4)) (by decide) ?_
  refine z_bipush ok dL_texts_253 (x := (-4)) (by decide) ?_
  obtain ⟨w17, a17, h17⟩ := c_L_isFault hN hg h16 fk_263 fk_264 fk_265
  refine z_callSi ok old dL_texts_255 [] a17 zy_L_isFault zw_498 rfl rfl (by decide) (Nat.le_of_ble_eq_true rfl) ?_
  refine z_if_ne ok dL_texts_258 263 (by decide) (fun _ => ?_) (fun q => absurd q (by decide))
  refine z_aload_n ok dL_texts_263 1 rfl ?_
  refine z_ldc2 ok dL_texts_264 zw_524 ?_
  refine z_lconst ok dL_texts_267 (g := 0) (by decide) ?_
  refine z_iconst ok dL_texts_268 (x := nI 5) (by decide) ?_
  refine z_iconst ok dL_texts_269 (x := nI 1) (by decide) ?_
  obtain ⟨w18, a18, h18⟩ := c_L_isFault hN hg h17 fk_266 fk_267 fk_268
  refine z_callSi ok old dL_texts_270 [] a18 zy_L_isFault zw_498 rfl rfl (by decide) (Nat.le_of_ble_eq_true rfl) ?_
  refine z_if_eq ok dL_texts_273 316 (by decide) (fun q => absurd q (by decide)) (fun _ => ?_)
  refine z_aload_n ok dL_texts_276 1 rfl ?_
  refine z_ldc2 ok dL_texts_277 zw_525 ?_
  refine z_lconst ok dL_texts_280 (g := 0) (by decide) ?_
  refine z_iconst ok dL_texts_281 (x := nI 5) (by decide) ?_
  refine z_bipush ok dL_texts_282 (x := nI 8) (by decide) ?_
  obtain ⟨w19, a19, h19⟩ := c_L_isFault hN hg h18 fk_269 fk_270 fk_271
  refine z_callSi ok old dL_texts_284 [] a19 zy_L_isFault zw_498 rfl rfl (by decide) (Nat.le_of_ble_eq_true rfl) ?_
  refine z_if_eq ok dL_texts_287 316 (by decide) (fun q => absurd q (by decide)) (fun _ => ?_)
  refine z_aload_n ok dL_texts_290 1 rfl ?_
  refine z_ldc2 ok dL_texts_291 zw_526 ?_
  refine z_lconst ok dL_texts_294 (g := 0) (by decide) ?_
  refine z_iconst ok dL_texts_295 (x := nI 0) (by decide) ?_
  refine z_iconst ok dL_texts_296 (x := nI 1) (by decide) ?_
  obtain ⟨w20, a20, h20⟩ := c_L_isFault hN hg h19 fk_272 fk_273 fk_274
  refine z_callSi ok old dL_texts_297 [] a20 zy_L_isFault zw_498 rfl rfl (by decide) (Nat.le_of_ble_eq_true rfl) ?_
  refine z_if_eq ok dL_texts_300 316 (by decide) (fun q => absurd q (by decide)) (fun _ => ?_)
  refine z_aload_n ok dL_texts_303 1 rfl ?_
  refine z_ldc2 ok dL_texts_304 zw_527 ?_
  refine z_lconst ok dL_texts_307 (g := 0) (by decide) ?_
  refine z_iconst ok dL_texts_308 (x := nI 5) (by decide) ?_
  refine z_iconst ok dL_texts_309 (x := nI 1) (by decide) ?_
  obtain ⟨w21, a21, h21⟩ := c_L_isFault hN hg h20 fk_275 fk_276 fk_277
  refine z_callSi ok old dL_texts_310 [] a21 zy_L_isFault zw_498 rfl rfl (by decide) (Nat.le_of_ble_eq_true rfl) ?_
  refine z_if_ne ok dL_texts_313 318 (by decide) (fun _ => ?_) (fun q => absurd q (by decide))
  refine z_aload_n ok dL_texts_318 1 rfl ?_
  refine z_ldc2 ok dL_texts_319 zw_528 ?_
  refine z_lconst ok dL_texts_322 (g := 0) (by decide) ?_
  refine z_iconst ok dL_texts_323 (x := nI 0) (by decide) ?_
  refine z_iconst ok dL_texts_324 (x := nI 1) (by decide) ?_
  obtain ⟨w22, a22, h22⟩ := c_L_isFault hN hg h21 fk_278 fk_279 fk_280
  refine z_callSi ok old dL_texts_325 [] a22 zy_L_isFault zw_498 rfl rfl (by decide) (Nat.le_of_ble_eq_true rfl) ?_
  refine z_if_eq ok dL_texts_328 381 (by decide) (fun q => absurd q (by decide)) (fun _ => ?_)
  refine z_aload_n ok dL_texts_331 1 rfl ?_
  refine z_ldc2 ok dL_texts_332 zw_529 ?_
  refine z_ldc2 ok dL_texts_335 zw_521 ?_
  refine z_iconst ok dL_texts_338 (x := nI 5) (by decide) ?_
  refine z_bipush ok dL_texts_339 (x := nI 6) (by decide) ?_
  obtain ⟨w23, a23, h23⟩ := c_L_isFault hN hg h22 fk_281 fk_282 fk_283
  refine z_callSi ok old dL_texts_341 [] a23 zy_L_isFault zw_498 rfl rfl (by decide) (Nat.le_of_ble_eq_true rfl) ?_
  refine z_if_eq ok dL_texts_344 381 (by decide) (fun q => absurd q (by decide)) (fun _ => ?_)
  refine z_aload_n ok dL_texts_347 1 rfl ?_
  refine z_ldc2 ok dL_texts_348 zw_530 ?_
  refine z_ldc2 ok dL_texts_351 zw_531 ?_
  refine z_bipush ok dL_texts_354 (x := (-4)) (by decide) ?_
  refine z_bipush ok dL_texts_356 (x := (-4)) (by decide) ?_
  obtain ⟨w24, a24, h24⟩ := c_L_isFault hN hg h23 fk_284 fk_285 fk_286
  refine z_callSi ok old dL_texts_358 [] a24 zy_L_isFault zw_498 rfl rfl (by decide) (Nat.le_of_ble_eq_true rfl) ?_
  refine z_if_eq ok dL_texts_361 381 (by decide) (fun q => absurd q (by decide)) (fun _ => ?_)
  refine z_aload_n ok dL_texts_364 1 rfl ?_
  refine z_ldc2 ok dL_texts_365 zw_523 ?_
  refine z_ldc2 ok dL_texts_368 zw_532 ?_
  refine z_bipush ok dL_texts_371 (x := nI 10) (by decide) ?_
  refine z_bipush ok dL_texts_373 (x := nI 6) (by decide) ?_
  obtain ⟨w25, a25, h25⟩ := c_L_isFault hN hg h24 fk_287 fk_288 fk_289
  refine z_callSi ok old dL_texts_375 [] a25 zy_L_isFault zw_498 rfl rfl (by decide) (Nat.le_of_ble_eq_true rfl) ?_
  refine z_if_ne ok dL_texts_378 383 (by decide) (fun _ => ?_) (fun q => absurd q (by decide))
  refine z_aload_n ok dL_texts_383 1 rfl ?_
  refine z_callSV ok old dL_texts_384 [] (Q_state hN hg h25) zy_L_state zw_407 rfl rfl (by decide) (Nat.le_of_ble_eq_true rfl) ?_
  refine z_lload_n ok dL_texts_387 0 rfl ?_
  refine z_lcmp ok dL_texts_388 ?_
  refine z_if_ne ok dL_texts_389 492 (by decide) (fun c => absurd (lcmp_0 rfl) c) (fun _ => ?_)
  refine z_aload_n ok dL_texts_392 1 rfl ?_
  obtain ⟨w26, a26, h26⟩ := Q_play_no h25 fk_290
  refine z_callVi ok old dL_texts_393 [] (zM_eq (r := (-2)) (c_X2_play G 47 hN hg w25) a26) zy_X2_play zw_489 0 (by omega) (zE_0 G _) rfl rfl rfl rfl rfl (by decide) (Nat.le_of_ble_eq_true rfl) ?_
  refine z_bipush ok dL_texts_396 (x := (-2)) (by decide) ?_
  refine z_icmp_ne ok dL_texts_398 492 (by decide) (fun q => absurd q (by decide)) (fun _ => ?_)
  refine z_aload_n ok dL_texts_401 1 rfl ?_
  refine z_ldc2 ok dL_texts_402 zw_530 ?_
  refine z_ldc2 ok dL_texts_405 zw_531 ?_
  refine z_bipush ok dL_texts_408 (x := (-4)) (by decide) ?_
  refine z_bipush ok dL_texts_410 (x := (-4)) (by decide) ?_
  obtain ⟨w27, a27, h27⟩ := c_L_isFault hN hg h26 fk_284 fk_285 fk_286
  refine z_callSi ok old dL_texts_412 [] a27 zy_L_isFault zw_498 rfl rfl (by decide) (Nat.le_of_ble_eq_true rfl) ?_
  refine z_if_eq ok dL_texts_415 492 (by decide) (fun q => absurd q (by decide)) (fun _ => ?_)
  refine z_aload_n ok dL_texts_418 1 rfl ?_
  obtain ⟨w28, a28, h28⟩ := Q_play h27 fk_291 fk_292 fk_293
  refine z_callVi ok old dL_texts_419 [] (zM_eq (r := nI 3) (c_X2_play G 47 hN hg w27) a28) zy_X2_play zw_489 0 (by omega) (zE_0 G _) rfl rfl rfl rfl rfl (by decide) (Nat.le_of_ble_eq_true rfl) ?_
  refine z_iconst ok dL_texts_422 (x := nI 3) (by decide) ?_
  refine z_icmp_ne ok dL_texts_423 492 (by decide) (fun q => absurd q (by decide)) (fun _ => ?_)
  refine z_aload_n ok dL_texts_426 1 rfl ?_
  refine z_iconst ok dL_texts_427 (x := nI 3) (by decide) ?_
  refine z_callVi ok old dL_texts_428 [] (zM_eq1 (r := nI 3) (c_X2_count G 47 hN hg w28 (nI 3)) (Q_count h28 fk_294)) zy_X2_count zw_292 0 (by omega) (zE_0 G _) rfl rfl rfl rfl rfl (by decide) (Nat.le_of_ble_eq_true rfl) ?_
  refine z_iconst ok dL_texts_431 (x := nI 3) (by decide) ?_
  refine z_icmp_ne ok dL_texts_432 492 (by decide) (fun q => absurd q (by decide)) (fun _ => ?_)
  refine z_aload_n ok dL_texts_435 1 rfl ?_
  refine z_bipush ok dL_texts_436 (x := nI 27) (by decide) ?_
  refine z_iconst ok dL_texts_438 (x := nI 1) (by decide) ?_
  refine z_callVi ok old dL_texts_439 [] (zM_eq1 (r := nI 3) (c_X2_cell G 47 hN hg w28 (nI 27) (nI 1)) (Q_cell h28 (c := 27) (f := 1) (by decide) (by decide) fk_295)) zy_X2_cell zw_415 0 (by omega) (zE_0 G _) rfl rfl rfl rfl rfl (by decide) (Nat.le_of_ble_eq_true rfl) ?_
  refine z_iconst ok dL_texts_442 (x := nI 3) (by decide) ?_
  refine z_icmp_ne ok dL_texts_443 492 (by decide) (fun q => absurd q (by decide)) (fun _ => ?_)
  refine z_aload_n ok dL_texts_446 1 rfl ?_
  refine z_bipush ok dL_texts_447 (x := nI 27) (by decide) ?_
  refine z_iconst ok dL_texts_449 (x := nI 0) (by decide) ?_
  refine z_callVi ok old dL_texts_450 [] (zM_eq1 (r := nI 0) (c_X2_cell G 47 hN hg w28 (nI 27) (nI 0)) (Q_cell h28 (c := 27) (f := 0) (by decide) (by decide) fk_296)) zy_X2_cell zw_415 0 (by omega) (zE_0 G _) rfl rfl rfl rfl rfl (by decide) (Nat.le_of_ble_eq_true rfl) ?_
  refine z_if_ne ok dL_texts_453 492 (by decide) (fun q => absurd q (by decide)) (fun _ => ?_)
  refine z_aload_n ok dL_texts_456 1 rfl ?_
  refine z_bipush ok dL_texts_457 (x := nI 8) (by decide) ?_
  refine z_callVi ok old dL_texts_459 [] (zM_eq1 (r := nI 2) (c_X2_count G 47 hN hg w28 (nI 8)) (Q_count h28 fk_297)) zy_X2_count zw_292 0 (by omega) (zE_0 G _) rfl rfl rfl rfl rfl (by decide) (Nat.le_of_ble_eq_true rfl) ?_
  refine z_iconst ok dL_texts_462 (x := nI 2) (by decide) ?_
  refine z_icmp_ne ok dL_texts_463 492 (by decide) (fun q => absurd q (by decide)) (fun _ => ?_)
  refine z_aload_n ok dL_texts_466 1 rfl ?_
  obtain ⟨w29, Hw29, a29, h29⟩ := Q_undo (k := 1) h28
  refine z_callVi ok old dL_texts_467 [] (zM_eq (r := nI 1) (c_X2_undo G 47 hN hg w28) a29) zy_X2_undo zw_308 0 (by omega) (zE_0 G _) rfl rfl rfl rfl rfl (by decide) (Nat.le_of_ble_eq_true rfl) ?_
  refine z_iconst ok dL_texts_470 (x := nI 1) (by decide) ?_
  refine z_icmp_ne ok dL_texts_471 492 (by decide) (fun q => absurd q (by decide)) (fun _ => ?_)
  refine z_aload_n ok dL_texts_474 1 rfl ?_
  refine z_callSV ok old dL_texts_475 [] (Q_state hN hg h29) zy_L_state zw_407 rfl rfl (by decide) (Nat.le_of_ble_eq_true rfl) ?_
  refine z_lload_n ok dL_texts_478 0 rfl ?_
  refine z_lcmp ok dL_texts_479 ?_
  refine z_if_ne ok dL_texts_480 492 (by decide) (fun c => absurd (lcmp_0 rfl) c) (fun _ => ?_)
  refine z_aload_n ok dL_texts_483 1 rfl ?_
  obtain ⟨w30, a30, h30⟩ := Q_clear0 h29
  refine z_callVi ok old dL_texts_484 [] (zM_eq (r := nI 15) (c_X2_clearText G 47 hN hg w29) a30) zy_X2_clearText zw_501 0 (by omega) (zE_0 G _) rfl rfl rfl rfl rfl (by decide) (Nat.le_of_ble_eq_true rfl) ?_
  refine z_bipush ok dL_texts_487 (x := nI 15) (by decide) ?_
  refine z_icmp_eq ok dL_texts_489 494 (by decide) (fun _ => ?_) (fun q => absurd q (by decide))
  refine z_iconst ok dL_texts_494 (x := nI 1) (by decide) ?_
  refine z_istore_n ok dL_texts_495 (hI 3 (by decide)) (lv' := [(3, .int (nI 1)), (1, .long (stO (rT tb_0))), (0, .ref (zad G 0))]) rfl ?_
  refine z_iload_n ok dL_texts_496 0 rfl ?_
  refine z_bipush ok dL_texts_497 (x := nI 80) (by decide) ?_
  refine z_icmp_gt ok dL_texts_499 520 (by decide) (fun q => absurd q (by decide)) (fun _ => ?_)
  refine z_aload_n ok dL_texts_502 2 rfl ?_
  refine z_bipush ok dL_texts_503 (x := nI 97) (by decide) ?_
  obtain ⟨w31, a31, h31⟩ := Q_type h30 (n := 0) (by decide) (by decide) (by decide) (T' := tT 97) (rEq_at 1 fk_298)
  refine z_callVi ok old dL_texts_505 [] (zM_eq (r := nI 1) (c_X2_type G 47 hN hg w30 (nI 97)) a31) zy_X2_type zw_482 0 (by omega) (zE_0 G _) rfl rfl rfl rfl rfl (by decide) (Nat.le_of_ble_eq_true rfl) ?_
  refine z_iload_n ok dL_texts_508 0 rfl ?_
  refine z_icmp_eq ok dL_texts_509 514 (by decide) (fun _ => ?_) (fun q => absurd q (by decide))
  refine z_iinc ok dL_texts_514 (hI 3 (by decide)) 0 rfl (y := nI 2) (by decide) (lv' := [(3, .int (nI 2)), (1, .long (stO (rT tb_0))), (0, .ref (zad G 0))]) rfl ?_
  refine z_goto ok dL_texts_517 496 (by decide) ?_
  refine z_iload_n ok dL_texts_496 0 rfl ?_
  refine z_bipush ok dL_texts_497 (x := nI 80) (by decide) ?_
  refine z_icmp_gt ok dL_texts_499 520 (by decide) (fun q => absurd q (by decide)) (fun _ => ?_)
  refine z_aload_n ok dL_texts_502 2 rfl ?_
  refine z_bipush ok dL_texts_503 (x := nI 97) (by decide) ?_
  obtain ⟨w32, a32, h32⟩ := Q_type h31 (n := 1) (by decide) (by decide) (by decide) (T' := tT 24929) (rEq_at 2 fk_299)
  refine z_callVi ok old dL_texts_505 [] (zM_eq (r := nI 2) (c_X2_type G 47 hN hg w31 (nI 97)) a32) zy_X2_type zw_482 0 (by omega) (zE_0 G _) rfl rfl rfl rfl rfl (by decide) (Nat.le_of_ble_eq_true rfl) ?_
  refine z_iload_n ok dL_texts_508 0 rfl ?_
  refine z_icmp_eq ok dL_texts_509 514 (by decide) (fun _ => ?_) (fun q => absurd q (by decide))
  refine z_iinc ok dL_texts_514 (hI 3 (by decide)) 0 rfl (y := nI 3) (by decide) (lv' := [(3, .int (nI 3)), (1, .long (stO (rT tb_0))), (0, .ref (zad G 0))]) rfl ?_
  refine z_goto ok dL_texts_517 496 (by decide) ?_
  refine z_iload_n ok dL_texts_496 0 rfl ?_
  refine z_bipush ok dL_texts_497 (x := nI 80) (by decide) ?_
  refine z_icmp_gt ok dL_texts_499 520 (by decide) (fun q => absurd q (by decide)) (fun _ => ?_)
  refine z_aload_n ok dL_texts_502 2 rfl ?_
  refine z_bipush ok dL_texts_503 (x := nI 97) (by decide) ?_
  obtain ⟨w33, a33, h33⟩ := Q_type h32 (n := 2) (by decide) (by decide) (by decide) (T' := tT 6381921) (rEq_at 3 fk_300)
  refine z_callVi ok old dL_texts_505 [] (zM_eq (r := nI 3) (c_X2_type G 47 hN hg w32 (nI 97)) a33) zy_X2_type zw_482 0 (by omega) (zE_0 G _) rfl rfl rfl rfl rfl (by decide) (Nat.le_of_ble_eq_true rfl) ?_
  refine z_iload_n ok dL_texts_508 0 rfl ?_
  refine z_icmp_eq ok dL_texts_509 514 (by decide) (fun _ => ?_) (fun q => absurd q (by decide))
  refine z_iinc ok dL_texts_514 (hI 3 (by decide)) 0 rfl (y := nI 4) (by decide) (lv' := [(3, .int (nI 4)), (1, .long (stO (rT tb_0))), (0, .ref (zad G 0))]) rfl ?_
  refine z_goto ok dL_texts_517 496 (by decide) ?_
  refine z_iload_n ok dL_texts_496 0 rfl ?_
  refine z_bipush ok dL_texts_497 (x := nI 80) (by decide) ?_
  refine z_icmp_gt ok dL_texts_499 520 (by decide) (fun q => absurd q (by decide)) (fun _ => ?_)
  refine z_aload_n ok dL_texts_502 2 rfl ?_
  refine z_bipush ok dL_texts_503 (x := nI 97) (by decide) ?_
  obtain ⟨w34, a34, h34⟩ := Q_type h33 (n := 3) (by decide) (by decide) (by decide) (T' := tT 1633771873) (rEq_at 4 fk_301)
  refine z_callVi ok old dL_texts_505 [] (zM_eq (r := nI 4) (c_X2_type G 47 hN hg w33 (nI 97)) a34) zy_X2_type zw_482 0 (by omega) (zE_0 G _) rfl rfl rfl rfl rfl (by decide) (Nat.le_of_ble_eq_true rfl) ?_
  refine z_iload_n ok dL_texts_508 0 rfl ?_
  refine z_icmp_eq ok dL_texts_509 514 (by decide) (fun _ => ?_) (fun q => absurd q (by decide))
  refine z_iinc ok dL_texts_514 (hI 3 (by decide)) 0 rfl (y := nI 5) (by decide) (lv' := [(3, .int (nI 5)), (1, .long (stO (rT tb_0))), (0, .ref (zad G 0))]) rfl ?_
  refine z_goto ok dL_texts_517 496 (by decide) ?_
  refine z_iload_n ok dL_texts_496 0 rfl ?_
  refine z_bipush ok dL_texts_497 (x := nI 80) (by decide) ?_
  refine z_icmp_gt ok dL_texts_499 520 (by decide) (fun q => absurd q (by decide)) (fun _ => ?_)
  refine z_aload_n ok dL_texts_502 2 rfl ?_
  refine z_bipush ok dL_texts_503 (x := nI 97) (by decide) ?_
  obtain ⟨w35, a35, h35⟩ := Q_type h34 (n := 4) (by decide) (by decide) (by decide) (T' := tT 418245599585) (rEq_at 5 fk_302)
  refine z_callVi ok old dL_texts_505 [] (zM_eq (r := nI 5) (c_X2_type G 47 hN hg w34 (nI 97)) a35) zy_X2_type zw_482 0 (by omega) (zE_0 G _) rfl rfl rfl rfl rfl (by decide) (Nat.le_of_ble_eq_true rfl) ?_
  refine z_iload_n ok dL_texts_508 0 rfl ?_
  refine z_icmp_eq ok dL_texts_509 514 (by decide) (fun _ => ?_) (fun q => absurd q (by decide))
  refine z_iinc ok dL_texts_514 (hI 3 (by decide)) 0 rfl (y := nI 6) (by decide) (lv' := [(3, .int (nI 6)), (1, .long (stO (rT tb_0))), (0, .ref (zad G 0))]) rfl ?_
  refine z_goto ok dL_texts_517 496 (by decide) ?_
  refine z_iload_n ok dL_texts_496 0 rfl ?_
  refine z_bipush ok dL_texts_497 (x := nI 80) (by decide) ?_
  refine z_icmp_gt ok dL_texts_499 520 (by decide) (fun q => absurd q (by decide)) (fun _ => ?_)
  refine z_aload_n ok dL_texts_502 2 rfl ?_
  refine z_bipush ok dL_texts_503 (x := nI 97) (by decide) ?_
  obtain ⟨w36, a36, h36⟩ := Q_type h35 (n := 5) (by decide) (by decide) (by decide) (T' := tT 107070873493857) (rEq_at 6 fk_303)
  refine z_callVi ok old dL_texts_505 [] (zM_eq (r := nI 6) (c_X2_type G 47 hN hg w35 (nI 97)) a36) zy_X2_type zw_482 0 (by omega) (zE_0 G _) rfl rfl rfl rfl rfl (by decide) (Nat.le_of_ble_eq_true rfl) ?_
  refine z_iload_n ok dL_texts_508 0 rfl ?_
  refine z_icmp_eq ok dL_texts_509 514 (by decide) (fun _ => ?_) (fun q => absurd q (by decide))
  refine z_iinc ok dL_texts_514 (hI 3 (by decide)) 0 rfl (y := nI 7) (by decide) (lv' := [(3, .int (nI 7)), (1, .long (stO (rT tb_0))), (0, .ref (zad G 0))]) rfl ?_
  refine z_goto ok dL_texts_517 496 (by decide) ?_
  refine z_iload_n ok dL_texts_496 0 rfl ?_
  refine z_bipush ok dL_texts_497 (x := nI 80) (by decide) ?_
  refine z_icmp_gt ok dL_texts_499 520 (by decide) (fun q => absurd q (by decide)) (fun _ => ?_)
  refine z_aload_n ok dL_texts_502 2 rfl ?_
  refine z_bipush ok dL_texts_503 (x := nI 97) (by decide) ?_
  obtain ⟨w37, a37, h37⟩ := Q_type h36 (n := 6) (by decide) (by decide) (by decide) (T' := tT 27410143614427489) (rEq_at 7 fk_304)
  refine z_callVi ok old dL_texts_505 [] (zM_eq (r := nI 7) (c_X2_type G 47 hN hg w36 (nI 97)) a37) zy_X2_type zw_482 0 (by omega) (zE_0 G _) rfl rfl rfl rfl rfl (by decide) (Nat.le_of_ble_eq_true rfl) ?_
  refine z_iload_n ok dL_texts_508 0 rfl ?_
  refine z_icmp_eq ok dL_texts_509 514 (by decide) (fun _ => ?_) (fun q => absurd q (by decide))
  refine z_iinc ok dL_texts_514 (hI 3 (by decide)) 0 rfl (y := nI 8) (by decide) (lv' := [(3, .int (nI 8)), (1, .long (stO (rT tb_0))), (0, .ref (zad G 0))]) rfl ?_
  refine z_goto ok dL_texts_517 496 (by decide) ?_
  refine z_iload_n ok dL_texts_496 0 rfl ?_
  refine z_bipush ok dL_texts_497 (x := nI 80) (by decide) ?_
  refine z_icmp_gt ok dL_texts_499 520 (by decide) (fun q => absurd q (by decide)) (fun _ => ?_)
  refine z_aload_n ok dL_texts_502 2 rfl ?_
  refine z_bipush ok dL_texts_503 (x := nI 97) (by decide) ?_
  obtain ⟨w38, a38, h38⟩ := Q_type h37 (n := 7) (by decide) (by decide) (by decide) (T' := tT 7016996765293437281) (rEq_at 8 fk_305)
  refine z_callVi ok old dL_texts_505 [] (zM_eq (r := nI 8) (c_X2_type G 47 hN hg w37 (nI 97)) a38) zy_X2_type zw_482 0 (by omega) (zE_0 G _) rfl rfl rfl rfl rfl (by decide) (Nat.le_of_ble_eq_true rfl) ?_
  refine z_iload_n ok dL_texts_508 0 rfl ?_
  refine z_icmp_eq ok dL_texts_509 514 (by decide) (fun _ => ?_) (fun q => absurd q (by decide))
  refine z_iinc ok dL_texts_514 (hI 3 (by decide)) 0 rfl (y := nI 9) (by decide) (lv' := [(3, .int (nI 9)), (1, .long (stO (rT tb_0))), (0, .ref (zad G 0))]) rfl ?_
  refine z_goto ok dL_texts_517 496 (by decide) ?_
  refine z_iload_n ok dL_texts_496 0 rfl ?_
  refine z_bipush ok dL_texts_497 (x := nI 80) (by decide) ?_
  refine z_icmp_gt ok dL_texts_499 520 (by decide) (fun q => absurd q (by decide)) (fun _ => ?_)
  refine z_aload_n ok dL_texts_502 2 rfl ?_
  refine z_bipush ok dL_texts_503 (x := nI 97) (by decide) ?_
  obtain ⟨w39, a39, h39⟩ := Q_type h38 (n := 8) (by decide) (by decide) (by decide) (T' := tT 1796351171915119944033) (rEq_at 9 fk_306)
  refine z_callVi ok old dL_texts_505 [] (zM_eq (r := nI 9) (c_X2_type G 47 hN hg w38 (nI 97)) a39) zy_X2_type zw_482 0 (by omega) (zE_0 G _) rfl rfl rfl rfl rfl (by decide) (Nat.le_of_ble_eq_true rfl) ?_
  refine z_iload_n ok dL_texts_508 0 rfl ?_
  refine z_icmp_eq ok dL_texts_509 514 (by decide) (fun _ => ?_) (fun q => absurd q (by decide))
  refine z_iinc ok dL_texts_514 (hI 3 (by decide)) 0 rfl (y := nI 10) (by decide) (lv' := [(3, .int (nI 10)), (1, .long (stO (rT tb_0))), (0, .ref (zad G 0))]) rfl ?_
  refine z_goto ok dL_texts_517 496 (by decide) ?_
  refine z_iload_n ok dL_texts_496 0 rfl ?_
  refine z_bipush ok dL_texts_497 (x := nI 80) (by decide) ?_
  refine z_icmp_gt ok dL_texts_499 520 (by decide) (fun q => absurd q (by decide)) (fun _ => ?_)
  refine z_aload_n ok dL_texts_502 2 rfl ?_
  refine z_bipush ok dL_texts_503 (x := nI 97) (by decide) ?_
  obtain ⟨w40, a40, h40⟩ := Q_type h39 (n := 9) (by decide) (by decide) (by decide) (T' := tT 459865900010270705672545) (rEq_at 10 fk_307)
  refine z_callVi ok old dL_texts_505 [] (zM_eq (r := nI 10) (c_X2_type G 47 hN hg w39 (nI 97)) a40) zy_X2_type zw_482 0 (by omega) (zE_0 G _) rfl rfl rfl rfl rfl (by decide) (Nat.le_of_ble_eq_true rfl) ?_
  refine z_iload_n ok dL_texts_508 0 rfl ?_
  refine z_icmp_eq ok dL_texts_509 514 (by decide) (fun _ => ?_) (fun q => absurd q (by decide))
  refine z_iinc ok dL_texts_514 (hI 3 (by decide)) 0 rfl (y := nI 11) (by decide) (lv' := [(3, .int (nI 11)), (1, .long (stO (rT tb_0))), (0, .ref (zad G 0))]) rfl ?_
  refine z_goto ok dL_texts_517 496 (by decide) ?_
  refine z_iload_n ok dL_texts_496 0 rfl ?_
  refine z_bipush ok dL_texts_497 (x := nI 80) (by decide) ?_
  refine z_icmp_gt ok dL_texts_499 520 (by decide) (fun q => absurd q (by decide)) (fun _ => ?_)
  refine z_aload_n ok dL_texts_502 2 rfl ?_
  refine z_bipush ok dL_texts_503 (x := nI 97) (by decide) ?_
  obtain ⟨w41, a41, h41⟩ := Q_type h40 (n := 10) (by decide) (by decide) (by decide) (T' := tT 117725670402629300652171617) (rEq_at 11 fk_308)
  refine z_callVi ok old dL_texts_505 [] (zM_eq (r := nI 11) (c_X2_type G 47 hN hg w40 (nI 97)) a41) zy_X2_type zw_482 0 (by omega) (zE_0 G _) rfl rfl rfl rfl rfl (by decide) (Nat.le_of_ble_eq_true rfl) ?_
  refine z_iload_n ok dL_texts_508 0 rfl ?_
  refine z_icmp_eq ok dL_texts_509 514 (by decide) (fun _ => ?_) (fun q => absurd q (by decide))
  refine z_iinc ok dL_texts_514 (hI 3 (by decide)) 0 rfl (y := nI 12) (by decide) (lv' := [(3, .int (nI 12)), (1, .long (stO (rT tb_0))), (0, .ref (zad G 0))]) rfl ?_
  refine z_goto ok dL_texts_517 496 (by decide) ?_
  refine z_iload_n ok dL_texts_496 0 rfl ?_
  refine z_bipush ok dL_texts_497 (x := nI 80) (by decide) ?_
  refine z_icmp_gt ok dL_texts_499 520 (by decide) (fun q => absurd q (by decide)) (fun _ => ?_)
  refine z_aload_n ok dL_texts_502 2 rfl ?_
  refine z_bipush ok dL_texts_503 (x := nI 97) (by decide) ?_
  obtain ⟨w42, a42, h42⟩ := Q_type h41 (n := 11) (by decide) (by decide) (by decide) (T' := tT 30137771623073100966955934049) (rEq_at 12 fk_309)
  refine z_callVi ok old dL_texts_505 [] (zM_eq (r := nI 12) (c_X2_type G 47 hN hg w41 (nI 97)) a42) zy_X2_type zw_482 0 (by omega) (zE_0 G _) rfl rfl rfl rfl rfl (by decide) (Nat.le_of_ble_eq_true rfl) ?_
  refine z_iload_n ok dL_texts_508 0 rfl ?_
  refine z_icmp_eq ok dL_texts_509 514 (by decide) (fun _ => ?_) (fun q => absurd q (by decide))
  refine z_iinc ok dL_texts_514 (hI 3 (by decide)) 0 rfl (y := nI 13) (by decide) (lv' := [(3, .int (nI 13)), (1, .long (stO (rT tb_0))), (0, .ref (zad G 0))]) rfl ?_
  refine z_goto ok dL_texts_517 496 (by decide) ?_
  refine z_iload_n ok dL_texts_496 0 rfl ?_
  refine z_bipush ok dL_texts_497 (x := nI 80) (by decide) ?_
  refine z_icmp_gt ok dL_texts_499 520 (by decide) (fun q => absurd q (by decide)) (fun _ => ?_)
  refine z_aload_n ok dL_texts_502 2 rfl ?_
  refine z_bipush ok dL_texts_503 (x := nI 97) (by decide) ?_
  obtain ⟨w43, a43, h43⟩ := Q_type h42 (n := 12) (by decide) (by decide) (by decide) (T' := tT 7715269535506713847540719116641) (rEq_at 13 fk_310)
  refine z_callVi ok old dL_texts_505 [] (zM_eq (r := nI 13) (c_X2_type G 47 hN hg w42 (nI 97)) a43) zy_X2_type zw_482 0 (by omega) (zE_0 G _) rfl rfl rfl rfl rfl (by decide) (Nat.le_of_ble_eq_true rfl) ?_
  refine z_iload_n ok dL_texts_508 0 rfl ?_
  refine z_icmp_eq ok dL_texts_509 514 (by decide) (fun _ => ?_) (fun q => absurd q (by decide))
  refine z_iinc ok dL_texts_514 (hI 3 (by decide)) 0 rfl (y := nI 14) (by decide) (lv' := [(3, .int (nI 14)), (1, .long (stO (rT tb_0))), (0, .ref (zad G 0))]) rfl ?_
  refine z_goto ok dL_texts_517 496 (by decide) ?_
  refine z_iload_n ok dL_texts_496 0 rfl ?_
  refine z_bipush ok dL_texts_497 (x := nI 80) (by decide) ?_
  refine z_icmp_gt ok dL_texts_499 520 (by decide) (fun q => absurd q (by decide)) (fun _ => ?_)
  refine z_aload_n ok dL_texts_502 2 rfl ?_
  refine z_bipush ok dL_texts_503 (x := nI 97) (by decide) ?_
  obtain ⟨w44, a44, h44⟩ := Q_type h43 (n := 13) (by decide) (by decide) (by decide) (T' := tT 1975109001089718744970424093860193) (rEq_at 14 fk_311)
  refine z_callVi ok old dL_texts_505 [] (zM_eq (r := nI 14) (c_X2_type G 47 hN hg w43 (nI 97)) a44) zy_X2_type zw_482 0 (by omega) (zE_0 G _) rfl rfl rfl rfl rfl (by decide) (Nat.le_of_ble_eq_true rfl) ?_
  refine z_iload_n ok dL_texts_508 0 rfl ?_
  refine z_icmp_eq ok dL_texts_509 514 (by decide) (fun _ => ?_) (fun q => absurd q (by decide))
  refine z_iinc ok dL_texts_514 (hI 3 (by decide)) 0 rfl (y := nI 15) (by decide) (lv' := [(3, .int (nI 15)), (1, .long (stO (rT tb_0))), (0, .ref (zad G 0))]) rfl ?_
  refine z_goto ok dL_texts_517 496 (by decide) ?_
  refine z_iload_n ok dL_texts_496 0 rfl ?_
  refine z_bipush ok dL_texts_497 (x := nI 80) (by decide) ?_
  refine z_icmp_gt ok dL_texts_499 520 (by decide) (fun q => absurd q (by decide)) (fun _ => ?_)
  refine z_aload_n ok dL_texts_502 2 rfl ?_
  refine z_bipush ok dL_texts_503 (x := nI 97) (by decide) ?_
  obtain ⟨w45, a45, h45⟩ := Q_type h44 (n := 14) (by decide) (by decide) (by decide) (T' := tT 505627904278967998712428568028209505) (rEq_at 15 fk_312)
  refine z_callVi ok old dL_texts_505 [] (zM_eq (r := nI 15) (c_X2_type G 47 hN hg w44 (nI 97)) a45) zy_X2_type zw_482 0 (by omega) (zE_0 G _) rfl rfl rfl rfl rfl (by decide) (Nat.le_of_ble_eq_true rfl) ?_
  refine z_iload_n ok dL_texts_508 0 rfl ?_
  refine z_icmp_eq ok dL_texts_509 514 (by decide) (fun _ => ?_) (fun q => absurd q (by decide))
  refine z_iinc ok dL_texts_514 (hI 3 (by decide)) 0 rfl (y := nI 16) (by decide) (lv' := [(3, .int (nI 16)), (1, .long (stO (rT tb_0))), (0, .ref (zad G 0))]) rfl ?_
  refine z_goto ok dL_texts_517 496 (by decide) ?_
  refine z_iload_n ok dL_texts_496 0 rfl ?_
  refine z_bipush ok dL_texts_497 (x := nI 80) (by decide) ?_
  refine z_icmp_gt ok dL_texts_499 520 (by decide) (fun q => absurd q (by decide)) (fun _ => ?_)
  refine z_aload_n ok dL_texts_502 2 rfl ?_
  refine z_bipush ok dL_texts_503 (x := nI 97) (by decide) ?_
  obtain ⟨w46, a46, h46⟩ := Q_type h45 (n := 15) (by decide) (by decide) (by decide) (T' := tT 129440743495415807670381713415221633377) (rEq_at 16 fk_313)
  refine z_callVi ok old dL_texts_505 [] (zM_eq (r := nI 16) (c_X2_type G 47 hN hg w45 (nI 97)) a46) zy_X2_type zw_482 0 (by omega) (zE_0 G _) rfl rfl rfl rfl rfl (by decide) (Nat.le_of_ble_eq_true rfl) ?_
  refine z_iload_n ok dL_texts_508 0 rfl ?_
  refine z_icmp_eq ok dL_texts_509 514 (by decide) (fun _ => ?_) (fun q => absurd q (by decide))
  refine z_iinc ok dL_texts_514 (hI 3 (by decide)) 0 rfl (y := nI 17) (by decide) (lv' := [(3, .int (nI 17)), (1, .long (stO (rT tb_0))), (0, .ref (zad G 0))]) rfl ?_
  refine z_goto ok dL_texts_517 496 (by decide) ?_
  refine z_iload_n ok dL_texts_496 0 rfl ?_
  refine z_bipush ok dL_texts_497 (x := nI 80) (by decide) ?_
  refine z_icmp_gt ok dL_texts_499 520 (by decide) (fun q => absurd q (by decide)) (fun _ => ?_)
  refine z_aload_n ok dL_texts_502 2 rfl ?_
  refine z_bipush ok dL_texts_503 (x := nI 97) (by decide) ?_
  obtain ⟨w47, a47, h47⟩ := Q_type h46 (n := 16) (by decide) (by decide) (by decide) (T' := tT 33136830334826446763617718634296738144609) (rEq_at 17 fk_314)
  refine z_callVi ok old dL_texts_505 [] (zM_eq (r := nI 17) (c_X2_type G 47 hN hg w46 (nI 97)) a47) zy_X2_type zw_482 0 (by omega) (zE_0 G _) rfl rfl rfl rfl rfl (by decide) (Nat.le_of_ble_eq_true rfl) ?_
  refine z_iload_n ok dL_texts_508 0 rfl ?_
  refine z_icmp_eq ok dL_texts_509 514 (by decide) (fun _ => ?_) (fun q => absurd q (by decide))
  refine z_iinc ok dL_texts_514 (hI 3 (by decide)) 0 rfl (y := nI 18) (by decide) (lv' := [(3, .int (nI 18)), (1, .long (stO (rT tb_0))), (0, .ref (zad G 0))]) rfl ?_
  refine z_goto ok dL_texts_517 496 (by decide) ?_
  refine z_iload_n ok dL_texts_496 0 rfl ?_
  refine z_bipush ok dL_texts_497 (x := nI 80) (by decide) ?_
  refine z_icmp_gt ok dL_texts_499 520 (by decide) (fun q => absurd q (by decide)) (fun _ => ?_)
  refine z_aload_n ok dL_texts_502 2 rfl ?_
  refine z_bipush ok dL_texts_503 (x := nI 97) (by decide) ?_
  obtain ⟨w48, a48, h48⟩ := Q_type h47 (n := 17) (by decide) (by decide) (by decide) (T' := tT 8483028565715570371486135970379964965020001) (rEq_at 18 fk_315)
  refine z_callVi ok old dL_texts_505 [] (zM_eq (r := nI 18) (c_X2_type G 47 hN hg w47 (nI 97)) a48) zy_X2_type zw_482 0 (by omega) (zE_0 G _) rfl rfl rfl rfl rfl (by decide) (Nat.le_of_ble_eq_true rfl) ?_
  refine z_iload_n ok dL_texts_508 0 rfl ?_
  refine z_icmp_eq ok dL_texts_509 514 (by decide) (fun _ => ?_) (fun q => absurd q (by decide))
  refine z_iinc ok dL_texts_514 (hI 3 (by decide)) 0 rfl (y := nI 19) (by decide) (lv' := [(3, .int (nI 19)), (1, .long (stO (rT tb_0))), (0, .ref (zad G 0))]) rfl ?_
  refine z_goto ok dL_texts_517 496 (by decide) ?_
  refine z_iload_n ok dL_texts_496 0 rfl ?_
  refine z_bipush ok dL_texts_497 (x := nI 80) (by decide) ?_
  refine z_icmp_gt ok dL_texts_499 520 (by decide) (fun q => absurd q (by decide)) (fun _ => ?_)
  refine z_aload_n ok dL_texts_502 2 rfl ?_
  refine z_bipush ok dL_texts_503 (x := nI 97) (by decide) ?_
  obtain ⟨w49, a49, h49⟩ := Q_type h48 (n := 18) (by decide) (by decide) (by decide) (T' := tT 2171655312823186015100450808417271031045120353) (rEq_at 19 fk_316)
  refine z_callVi ok old dL_texts_505 [] (zM_eq (r := nI 19) (c_X2_type G 47 hN hg w48 (nI 97)) a49) zy_X2_type zw_482 0 (by omega) (zE_0 G _) rfl rfl rfl rfl rfl (by decide) (Nat.le_of_ble_eq_true rfl) ?_
  refine z_iload_n ok dL_texts_508 0 rfl ?_
  refine z_icmp_eq ok dL_texts_509 514 (by decide) (fun _ => ?_) (fun q => absurd q (by decide))
  refine z_iinc ok dL_texts_514 (hI 3 (by decide)) 0 rfl (y := nI 20) (by decide) (lv' := [(3, .int (nI 20)), (1, .long (stO (rT tb_0))), (0, .ref (zad G 0))]) rfl ?_
  refine z_goto ok dL_texts_517 496 (by decide) ?_
  refine z_iload_n ok dL_texts_496 0 rfl ?_
  refine z_bipush ok dL_texts_497 (x := nI 80) (by decide) ?_
  refine z_icmp_gt ok dL_texts_499 520 (by decide) (fun q => absurd q (by decide)) (fun _ => ?_)
  refine z_aload_n ok dL_texts_502 2 rfl ?_
  refine z_bipush ok dL_texts_503 (x := nI 97) (by decide) ?_
  obtain ⟨w50, a50, h50⟩ := Q_type h49 (n := 19) (by decide) (by decide) (by decide) (T' := tT 555943760082735619865715406954821383947550810465) (rEq_at 20 fk_317)
  refine z_callVi ok old dL_texts_505 [] (zM_eq (r := nI 20) (c_X2_type G 47 hN hg w49 (nI 97)) a50) zy_X2_type zw_482 0 (by omega) (zE_0 G _) rfl rfl rfl rfl rfl (by decide) (Nat.le_of_ble_eq_true rfl) ?_
  refine z_iload_n ok dL_texts_508 0 rfl ?_
  refine z_icmp_eq ok dL_texts_509 514 (by decide) (fun _ => ?_) (fun q => absurd q (by decide))
  refine z_iinc ok dL_texts_514 (hI 3 (by decide)) 0 rfl (y := nI 21) (by decide) (lv' := [(3, .int (nI 21)), (1, .long (stO (rT tb_0))), (0, .ref (zad G 0))]) rfl ?_
  refine z_goto ok dL_texts_517 496 (by decide) ?_
  refine z_iload_n ok dL_texts_496 0 rfl ?_
  refine z_bipush ok dL_texts_497 (x := nI 80) (by decide) ?_
  refine z_icmp_gt ok dL_texts_499 520 (by decide) (fun q => absurd q (by decide)) (fun _ => ?_)
  refine z_aload_n ok dL_texts_502 2 rfl ?_
  refine z_bipush ok dL_texts_503 (x := nI 97) (by decide) ?_
  obtain ⟨w51, a51, h51⟩ := Q_type h50 (n := 20) (by decide) (by decide) (by decide) (T' := tT 142321602581180318685623144180434274290573007479137) (rEq_at 21 fk_318)
  refine z_callVi ok old dL_texts_505 [] (zM_eq (r := nI 21) (c_X2_type G 47 hN hg w50 (nI 97)) a51) zy_X2_type zw_482 0 (by omega) (zE_0 G _) rfl rfl rfl rfl rfl (by decide) (Nat.le_of_ble_eq_true rfl) ?_
  refine z_iload_n ok dL_texts_508 0 rfl ?_
  refine z_icmp_eq ok dL_texts_509 514 (by decide) (fun _ => ?_) (fun q => absurd q (by decide))
  refine z_iinc ok dL_texts_514 (hI 3 (by decide)) 0 rfl (y := nI 22) (by decide) (lv' := [(3, .int (nI 22)), (1, .long (stO (rT tb_0))), (0, .ref (zad G 0))]) rfl ?_
  refine z_goto ok dL_texts_517 496 (by decide) ?_
  refine z_iload_n ok dL_texts_496 0 rfl ?_
  refine z_bipush ok dL_texts_497 (x := nI 80) (by decide) ?_
  refine z_icmp_gt ok dL_texts_499 520 (by decide) (fun q => absurd q (by decide)) (fun _ => ?_)
  refine z_aload_n ok dL_texts_502 2 rfl ?_
  refine z_bipush ok dL_texts_503 (x := nI 97) (by decide) ?_
  obtain ⟨w52, a52, h52⟩ := Q_type h51 (n := 21) (by decide) (by decide) (by decide) (T' := tT 36434330260782161583519524910191174218386689914659169) (rEq_at 22 fk_319)
  refine z_callVi ok old dL_texts_505 [] (zM_eq (r := nI 22) (c_X2_type G 47 hN hg w51 (nI 97)) a52) zy_X2_type zw_482 0 (by omega) (zE_0 G _) rfl rfl rfl rfl rfl (by decide) (Nat.le_of_ble_eq_true rfl) ?_
  refine z_iload_n ok dL_texts_508 0 rfl ?_
  refine z_icmp_eq ok dL_texts_509 514 (by decide) (fun _ => ?_) (fun q => absurd q (by decide))
  refine z_iinc ok dL_texts_514 (hI 3 (by decide)) 0 rfl (y := nI 23) (by decide) (lv' := [(3, .int (nI 23)), (1, .long (stO (rT tb_0))), (0, .ref (zad G 0))]) rfl ?_
  refine z_goto ok dL_texts_517 496 (by decide) ?_
  refine z_iload_n ok dL_texts_496 0 rfl ?_
  refine z_bipush ok dL_texts_497 (x := nI 80) (by decide) ?_
  refine z_icmp_gt ok dL_texts_499 520 (by decide) (fun q => absurd q (by decide)) (fun _ => ?_)
  refine z_aload_n ok dL_texts_502 2 rfl ?_
  refine z_bipush ok dL_texts_503 (x := nI 97) (by decide) ?_
  obtain ⟨w53, a53, h53⟩ := Q_type h52 (n := 22) (by decide) (by decide) (by decide) (T' := tT 9327188546760233365380998377008940599906992618152747361) (rEq_at 23 fk_320)
  refine z_callVi ok old dL_texts_505 [] (zM_eq (r := nI 23) (c_X2_type G 47 hN hg w52 (nI 97)) a53) zy_X2_type zw_482 0 (by omega) (zE_0 G _) rfl rfl rfl rfl rfl (by decide) (Nat.le_of_ble_eq_true rfl) ?_
  refine z_iload_n ok dL_texts_508 0 rfl ?_
  refine z_icmp_eq ok dL_texts_509 514 (by decide) (fun _ => ?_) (fun q => absurd q (by decide))
  refine z_iinc ok dL_texts_514 (hI 3 (by decide)) 0 rfl (y := nI 24) (by decide) (lv' := [(3, .int (nI 24)), (1, .long (stO (rT tb_0))), (0, .ref (zad G 0))]) rfl ?_
  refine z_goto ok dL_texts_517 496 (by decide) ?_
  refine z_iload_n ok dL_texts_496 0 rfl ?_
  refine z_bipush ok dL_texts_497 (x := nI 80) (by decide) ?_
  refine z_icmp_gt ok dL_texts_499 520 (by decide) (fun q => absurd q (by decide)) (fun _ => ?_)
  refine z_aload_n ok dL_texts_502 2 rfl ?_
  refine z_bipush ok dL_texts_503 (x := nI 97) (by decide) ?_
  obtain ⟨w54, a54, h54⟩ := Q_type h53 (n := 23) (by decide) (by decide) (by decide) (T' := tT 2387760267970619741537535584514288793576190110247103324513) (rEq_at 24 fk_321)
  refine z_callVi ok old dL_texts_505 [] (zM_eq (r := nI 24) (c_X2_type G 47 hN hg w53 (nI 97)) a54) zy_X2_type zw_482 0 (by omega) (zE_0 G _) rfl rfl rfl rfl rfl (by decide) (Nat.le_of_ble_eq_true rfl) ?_
  refine z_iload_n ok dL_texts_508 0 rfl ?_
  refine z_icmp_eq ok dL_texts_509 514 (by decide) (fun _ => ?_) (fun q => absurd q (by decide))
  refine z_iinc ok dL_texts_514 (hI 3 (by decide)) 0 rfl (y := nI 25) (by decide) (lv' := [(3, .int (nI 25)), (1, .long (stO (rT tb_0))), (0, .ref (zad G 0))]) rfl ?_
  refine z_goto ok dL_texts_517 496 (by decide) ?_
  refine z_iload_n ok dL_texts_496 0 rfl ?_
  refine z_bipush ok dL_texts_497 (x := nI 80) (by decide) ?_
  refine z_icmp_gt ok dL_texts_499 520 (by decide) (fun q => absurd q (by decide)) (fun _ => ?_)
  refine z_aload_n ok dL_texts_502 2 rfl ?_
  refine z_bipush ok dL_texts_503 (x := nI 97) (by decide) ?_
  obtain ⟨w55, a55, h55⟩ := Q_type h54 (n := 24) (by decide) (by decide) (by decide) (T' := tT 611266628600478653833609109635657931155504668223258451075425) (rEq_at 25 fk_322)
  refine z_callVi ok old dL_texts_505 [] (zM_eq (r := nI 25) (c_X2_type G 47 hN hg w54 (nI 97)) a55) zy_X2_type zw_482 0 (by omega) (zE_0 G _) rfl rfl rfl rfl rfl (by decide) (Nat.le_of_ble_eq_true rfl) ?_
  refine z_iload_n ok dL_texts_508 0 rfl ?_
  refine z_icmp_eq ok dL_texts_509 514 (by decide) (fun _ => ?_) (fun q => absurd q (by decide))
  refine z_iinc ok dL_texts_514 (hI 3 (by decide)) 0 rfl (y := nI 26) (by decide) (lv' := [(3, .int (nI 26)), (1, .long (stO (rT tb_0))), (0, .ref (zad G 0))]) rfl ?_
  refine z_goto ok dL_texts_517 496 (by decide) ?_
  refine z_iload_n ok dL_texts_496 0 rfl ?_
  refine z_bipush ok dL_texts_497 (x := nI 80) (by decide) ?_
  refine z_icmp_gt ok dL_texts_499 520 (by decide) (fun q => absurd q (by decide)) (fun _ => ?_)
  refine z_aload_n ok dL_texts_502 2 rfl ?_
  refine z_bipush ok dL_texts_503 (x := nI 97) (by decide) ?_
  obtain ⟨w56, a56, h56⟩ := Q_type h55 (n := 25) (by decide) (by decide) (by decide) (T' := tT 156484256921722535381403932066728430375809195065154163475308897) (rEq_at 26 fk_323)
  refine z_callVi ok old dL_texts_505 [] (zM_eq (r := nI 26) (c_X2_type G 47 hN hg w55 (nI 97)) a56) zy_X2_type zw_482 0 (by omega) (zE_0 G _) rfl rfl rfl rfl rfl (by decide) (Nat.le_of_ble_eq_true rfl) ?_
  refine z_iload_n ok dL_texts_508 0 rfl ?_
  refine z_icmp_eq ok dL_texts_509 514 (by decide) (fun _ => ?_) (fun q => absurd q (by decide))
  refine z_iinc ok dL_texts_514 (hI 3 (by decide)) 0 rfl (y := nI 27) (by decide) (lv' := [(3, .int (nI 27)), (1, .long (stO (rT tb_0))), (0, .ref (zad G 0))]) rfl ?_
  refine z_goto ok dL_texts_517 496 (by decide) ?_
  refine z_iload_n ok dL_texts_496 0 rfl ?_
  refine z_bipush ok dL_texts_497 (x := nI 80) (by decide) ?_
  refine z_icmp_gt ok dL_texts_499 520 (by decide) (fun q => absurd q (by decide)) (fun _ => ?_)
  refine z_aload_n ok dL_texts_502 2 rfl ?_
  refine z_bipush ok dL_texts_503 (x := nI 97) (by decide) ?_
  obtain ⟨w57, a57, h57⟩ := Q_type h56 (n := 26) (by decide) (by decide) (by decide) (T' := tT 40059969771960969057639406609082478176207153936679465849679077729) (rEq_at 27 fk_324)
  refine z_callVi ok old dL_texts_505 [] (zM_eq (r := nI 27) (c_X2_type G 47 hN hg w56 (nI 97)) a57) zy_X2_type zw_482 0 (by omega) (zE_0 G _) rfl rfl rfl rfl rfl (by decide) (Nat.le_of_ble_eq_true rfl) ?_
  refine z_iload_n ok dL_texts_508 0 rfl ?_
  refine z_icmp_eq ok dL_texts_509 514 (by decide) (fun _ => ?_) (fun q => absurd q (by decide))
  refine z_iinc ok dL_texts_514 (hI 3 (by decide)) 0 rfl (y := nI 28) (by decide) (lv' := [(3, .int (nI 28)), (1, .long (stO (rT tb_0))), (0, .ref (zad G 0))]) rfl ?_
  refine z_goto ok dL_texts_517 496 (by decide) ?_
  refine z_iload_n ok dL_texts_496 0 rfl ?_
  refine z_bipush ok dL_texts_497 (x := nI 80) (by decide) ?_
  refine z_icmp_gt ok dL_texts_499 520 (by decide) (fun q => absurd q (by decide)) (fun _ => ?_)
  refine z_aload_n ok dL_texts_502 2 rfl ?_
  refine z_bipush ok dL_texts_503 (x := nI 97) (by decide) ?_
  obtain ⟨w58, a58, h58⟩ := Q_type h57 (n := 27) (by decide) (by decide) (by decide) (T' := tT 10255352261622008078755688091925114413109031407789943257517843898721) (rEq_at 28 fk_325)
  refine z_callVi ok old dL_texts_505 [] (zM_eq (r := nI 28) (c_X2_type G 47 hN hg w57 (nI 97)) a58) zy_X2_type zw_482 0 (by omega) (zE_0 G _) rfl rfl rfl rfl rfl (by decide) (Nat.le_of_ble_eq_true rfl) ?_
  refine z_iload_n ok dL_texts_508 0 rfl ?_
  refine z_icmp_eq ok dL_texts_509 514 (by decide) (fun _ => ?_) (fun q => absurd q (by decide))
  refine z_iinc ok dL_texts_514 (hI 3 (by decide)) 0 rfl (y := nI 29) (by decide) (lv' := [(3, .int (nI 29)), (1, .long (stO (rT tb_0))), (0, .ref (zad G 0))]) rfl ?_
  refine z_goto ok dL_texts_517 496 (by decide) ?_
  refine z_iload_n ok dL_texts_496 0 rfl ?_
  refine z_bipush ok dL_texts_497 (x := nI 80) (by decide) ?_
  refine z_icmp_gt ok dL_texts_499 520 (by decide) (fun q => absurd q (by decide)) (fun _ => ?_)
  refine z_aload_n ok dL_texts_502 2 rfl ?_
  refine z_bipush ok dL_texts_503 (x := nI 97) (by decide) ?_
  obtain ⟨w59, a59, h59⟩ := Q_type h58 (n := 28) (by decide) (by decide) (by decide) (T' := tT 2625370178975234068161456151532829289755912040394225473924568038072673) (rEq_at 29 fk_326)
  refine z_callVi ok old dL_texts_505 [] (zM_eq (r := nI 29) (c_X2_type G 47 hN hg w58 (nI 97)) a59) zy_X2_type zw_482 0 (by omega) (zE_0 G _) rfl rfl rfl rfl rfl (by decide) (Nat.le_of_ble_eq_true rfl) ?_
  refine z_iload_n ok dL_texts_508 0 rfl ?_
  refine z_icmp_eq ok dL_texts_509 514 (by decide) (fun _ => ?_) (fun q => absurd q (by decide))
  refine z_iinc ok dL_texts_514 (hI 3 (by decide)) 0 rfl (y := nI 30) (by decide) (lv' := [(3, .int (nI 30)), (1, .long (stO (rT tb_0))), (0, .ref (zad G 0))]) rfl ?_
  refine z_goto ok dL_texts_517 496 (by decide) ?_
  refine z_iload_n ok dL_texts_496 0 rfl ?_
  refine z_bipush ok dL_texts_497 (x := nI 80) (by decide) ?_
  refine z_icmp_gt ok dL_texts_499 520 (by decide) (fun q => absurd q (by decide)) (fun _ => ?_)
  refine z_aload_n ok dL_texts_502 2 rfl ?_
  refine z_bipush ok dL_texts_503 (x := nI 97) (by decide) ?_
  obtain ⟨w60, a60, h60⟩ := Q_type h59 (n := 29) (by decide) (by decide) (by decide) (T' := tT 672094765817659921449332774792404298177513482340921721324689417746604385) (rEq_at 30 fk_327)
  refine z_callVi ok old dL_texts_505 [] (zM_eq (r := nI 30) (c_X2_type G 47 hN hg w59 (nI 97)) a60) zy_X2_type zw_482 0 (by omega) (zE_0 G _) rfl rfl rfl rfl rfl (by decide) (Nat.le_of_ble_eq_true rfl) ?_
  refine z_iload_n ok dL_texts_508 0 rfl ?_
  refine z_icmp_eq ok dL_texts_509 514 (by decide) (fun _ => ?_) (fun q => absurd q (by decide))
  refine z_iinc ok dL_texts_514 (hI 3 (by decide)) 0 rfl (y := nI 31) (by decide) (lv' := [(3, .int (nI 31)), (1, .long (stO (rT tb_0))), (0, .ref (zad G 0))]) rfl ?_
  refine z_goto ok dL_texts_517 496 (by decide) ?_
  refine z_iload_n ok dL_texts_496 0 rfl ?_
  refine z_bipush ok dL_texts_497 (x := nI 80) (by decide) ?_
  refine z_icmp_gt ok dL_texts_499 520 (by decide) (fun q => absurd q (by decide)) (fun _ => ?_)
  refine z_aload_n ok dL_texts_502 2 rfl ?_
  refine z_bipush ok dL_texts_503 (x := nI 97) (by decide) ?_
  obtain ⟨w61, a61, h61⟩ := Q_type h60 (n := 30) (by decide) (by decide) (by decide) (T' := tT 172056260049320939891029190346855500333443451479275960659120490943130722657) (rEq_at 31 fk_328)
  refine z_callVi ok old dL_texts_505 [] (zM_eq (r := nI 31) (c_X2_type G 47 hN hg w60 (nI 97)) a61) zy_X2_type zw_482 0 (by omega) (zE_0 G _) rfl rfl rfl rfl rfl (by decide) (Nat.le_of_ble_eq_true rfl) ?_
  refine z_iload_n ok dL_texts_508 0 rfl ?_
  refine z_icmp_eq ok dL_texts_509 514 (by decide) (fun _ => ?_) (fun q => absurd q (by decide))
  refine z_iinc ok dL_texts_514 (hI 3 (by decide)) 0 rfl (y := nI 32) (by decide) (lv' := [(3, .int (nI 32)), (1, .long (stO (rT tb_0))), (0, .ref (zad G 0))]) rfl ?_
  refine z_goto ok dL_texts_517 496 (by decide) ?_
  refine z_iload_n ok dL_texts_496 0 rfl ?_
  refine z_bipush ok dL_texts_497 (x := nI 80) (by decide) ?_
  refine z_icmp_gt ok dL_texts_499 520 (by decide) (fun q => absurd q (by decide)) (fun _ => ?_)
  refine z_aload_n ok dL_texts_502 2 rfl ?_
  refine z_bipush ok dL_texts_503 (x := nI 97) (by decide) ?_
  obtain ⟨w62, a62, h62⟩ := Q_type h61 (n := 31) (by decide) (by decide) (by decide) (T' := tT 44046402572626160612103472728795008085361523578694645928734845681441465000289) (rEq_at 32 fk_329)
  refine z_callVi ok old dL_texts_505 [] (zM_eq (r := nI 32) (c_X2_type G 47 hN hg w61 (nI 97)) a62) zy_X2_type zw_482 0 (by omega) (zE_0 G _) rfl rfl rfl rfl rfl (by decide) (Nat.le_of_ble_eq_true rfl) ?_
  refine z_iload_n ok dL_texts_508 0 rfl ?_
  refine z_icmp_eq ok dL_texts_509 514 (by decide) (fun _ => ?_) (fun q => absurd q (by decide))
  refine z_iinc ok dL_texts_514 (hI 3 (by decide)) 0 rfl (y := nI 33) (by decide) (lv' := [(3, .int (nI 33)), (1, .long (stO (rT tb_0))), (0, .ref (zad G 0))]) rfl ?_
  refine z_goto ok dL_texts_517 496 (by decide) ?_
  refine z_iload_n ok dL_texts_496 0 rfl ?_
  refine z_bipush ok dL_texts_497 (x := nI 80) (by decide) ?_
  refine z_icmp_gt ok dL_texts_499 520 (by decide) (fun q => absurd q (by decide)) (fun _ => ?_)
  refine z_aload_n ok dL_texts_502 2 rfl ?_
  refine z_bipush ok dL_texts_503 (x := nI 97) (by decide) ?_
  obtain ⟨w63, a63, h63⟩ := Q_type h62 (n := 32) (by decide) (by decide) (by decide) (T' := tT 11275879058592297116698489018571522069852550036145829357756120494449015040074081) (rEq_at 33 fk_330)
  refine z_callVi ok old dL_texts_505 [] (zM_eq (r := nI 33) (c_X2_type G 47 hN hg w62 (nI 97)) a63) zy_X2_type zw_482 0 (by omega) (zE_0 G _) rfl rfl rfl rfl rfl (by decide) (Nat.le_of_ble_eq_true rfl) ?_
  refine z_iload_n ok dL_texts_508 0 rfl ?_
  refine z_icmp_eq ok dL_texts_509 514 (by decide) (fun _ => ?_) (fun q => absurd q (by decide))
  refine z_iinc ok dL_texts_514 (hI 3 (by decide)) 0 rfl (y := nI 34) (by decide) (lv' := [(3, .int (nI 34)), (1, .long (stO (rT tb_0))), (0, .ref (zad G 0))]) rfl ?_
  refine z_goto ok dL_texts_517 496 (by decide) ?_
  refine z_iload_n ok dL_texts_496 0 rfl ?_
  refine z_bipush ok dL_texts_497 (x := nI 80) (by decide) ?_
  refine z_icmp_gt ok dL_texts_499 520 (by decide) (fun q => absurd q (by decide)) (fun _ => ?_)
  refine z_aload_n ok dL_texts_502 2 rfl ?_
  refine z_bipush ok dL_texts_503 (x := nI 97) (by decide) ?_
  obtain ⟨w64, a64, h64⟩ := Q_type h63 (n := 33) (by decide) (by decide) (by decide) (T' := tT 2886625038999628061874813188754309649882252809253332315585566846578947850258964833) (rEq_at 34 fk_331)
  refine z_callVi ok old dL_texts_505 [] (zM_eq (r := nI 34) (c_X2_type G 47 hN hg w63 (nI 97)) a64) zy_X2_type zw_482 0 (by omega) (zE_0 G _) rfl rfl rfl rfl rfl (by decide) (Nat.le_of_ble_eq_true rfl) ?_
  refine z_iload_n ok dL_texts_508 0 rfl ?_
  refine z_icmp_eq ok dL_texts_509 514 (by decide) (fun _ => ?_) (fun q => absurd q (by decide))
  refine z_iinc ok dL_texts_514 (hI 3 (by decide)) 0 rfl (y := nI 35) (by decide) (lv' := [(3, .int (nI 35)), (1, .long (stO (rT tb_0))), (0, .ref (zad G 0))]) rfl ?_
  refine z_goto ok dL_texts_517 496 (by decide) ?_
  refine z_iload_n ok dL_texts_496 0 rfl ?_
  refine z_bipush ok dL_texts_497 (x := nI 80) (by decide) ?_
  refine z_icmp_gt ok dL_texts_499 520 (by decide) (fun q => absurd q (by decide)) (fun _ => ?_)
  refine z_aload_n ok dL_texts_502 2 rfl ?_
  refine z_bipush ok dL_texts_503 (x := nI 97) (by decide) ?_
  obtain ⟨w65, a65, h65⟩ := Q_type h64 (n := 34) (by decide) (by decide) (by decide) (T' := tT 738976009983904783839952176321103270369856719168853072789905112724210649666294997345) (rEq_at 35 fk_332)
  refine z_callVi ok old dL_texts_505 [] (zM_eq (r := nI 35) (c_X2_type G 47 hN hg w64 (nI 97)) a65) zy_X2_type zw_482 0 (by omega) (zE_0 G _) rfl rfl rfl rfl rfl (by decide) (Nat.le_of_ble_eq_true rfl) ?_
  refine z_iload_n ok dL_texts_508 0 rfl ?_
  refine z_icmp_eq ok dL_texts_509 514 (by decide) (fun _ => ?_) (fun q => absurd q (by decide))
  refine z_iinc ok dL_texts_514 (hI 3 (by decide)) 0 rfl (y := nI 36) (by decide) (lv' := [(3, .int (nI 36)), (1, .long (stO (rT tb_0))), (0, .ref (zad G 0))]) rfl ?_
  refine z_goto ok dL_texts_517 496 (by decide) ?_
  refine z_iload_n ok dL_texts_496 0 rfl ?_
  refine z_bipush ok dL_texts_497 (x := nI 80) (by decide) ?_
  refine z_icmp_gt ok dL_texts_499 520 (by decide) (fun q => absurd q (by decide)) (fun _ => ?_)
  refine z_aload_n ok dL_texts_502 2 rfl ?_
  refine z_bipush ok dL_texts_503 (x := nI 97) (by decide) ?_
  obtain ⟨w66, a66, h66⟩ := Q_type h65 (n := 35) (by decide) (by decide) (by decide) (T' := tT 189177858555879624663027757138202437214683320107226386634215708857397926314571519320417) (rEq_at 36 fk_333)
  refine z_callVi ok old dL_texts_505 [] (zM_eq (r := nI 36) (c_X2_type G 47 hN hg w65 (nI 97)) a66) zy_X2_type zw_482 0 (by omega) (zE_0 G _) rfl rfl rfl rfl rfl (by decide) (Nat.le_of_ble_eq_true rfl) ?_
  refine z_iload_n ok dL_texts_508 0 rfl ?_
  refine z_icmp_eq ok dL_texts_509 514 (by decide) (fun _ => ?_) (fun q => absurd q (by decide))
  refine z_iinc ok dL_texts_514 (hI 3 (by decide)) 0 rfl (y := nI 37) (by decide) (lv' := [(3, .int (nI 37)), (1, .long (stO (rT tb_0))), (0, .ref (zad G 0))]) rfl ?_
  refine z_goto ok dL_texts_517 496 (by decide) ?_
  refine z_iload_n ok dL_texts_496 0 rfl ?_
  refine z_bipush ok dL_texts_497 (x := nI 80) (by decide) ?_
  refine z_icmp_gt ok dL_texts_499 520 (by decide) (fun q => absurd q (by decide)) (fun _ => ?_)
  refine z_aload_n ok dL_texts_502 2 rfl ?_
  refine z_bipush ok dL_texts_503 (x := nI 97) (by decide) ?_
  obtain ⟨w67, a67, h67⟩ := Q_type h66 (n := 36) (by decide) (by decide) (by decide) (T' := tT 48429531790305183913735105827379823926958929947449954978359221467493869136530308946026849) (rEq_at 37 fk_334)
  refine z_callVi ok old dL_texts_505 [] (zM_eq (r := nI 37) (c_X2_type G 47 hN hg w66 (nI 97)) a67) zy_X2_type zw_482 0 (by omega) (zE_0 G _) rfl rfl rfl rfl rfl (by decide) (Nat.le_of_ble_eq_true rfl) ?_
  refine z_iload_n ok dL_texts_508 0 rfl ?_
  refine z_icmp_eq ok dL_texts_509 514 (by decide) (fun _ => ?_) (fun q => absurd q (by decide))
  refine z_iinc ok dL_texts_514 (hI 3 (by decide)) 0 rfl (y := nI 38) (by decide) (lv' := [(3, .int (nI 38)), (1, .long (stO (rT tb_0))), (0, .ref (zad G 0))]) rfl ?_
  refine z_goto ok dL_texts_517 496 (by decide) ?_
  refine z_iload_n ok dL_texts_496 0 rfl ?_
  refine z_bipush ok dL_texts_497 (x := nI 80) (by decide) ?_
  refine z_icmp_gt ok dL_texts_499 520 (by decide) (fun q => absurd q (by decide)) (fun _ => ?_)
  refine z_aload_n ok dL_texts_502 2 rfl ?_
  refine z_bipush ok dL_texts_503 (x := nI 97) (by decide) ?_
  obtain ⟨w68, a68, h68⟩ := Q_type h67 (n := 37) (by decide) (by decide) (by decide) (T' := tT 12397960138318127081916187091809234925301486066547188474459960695678430498951759090182873441) (rEq_at 38 fk_335)
  refine z_callVi ok old dL_texts_505 [] (zM_eq (r := nI 38) (c_X2_type G 47 hN hg w67 (nI 97)) a68) zy_X2_type zw_482 0 (by omega) (zE_0 G _) rfl rfl rfl rfl rfl (by decide) (Nat.le_of_ble_eq_true rfl) ?_
  refine z_iload_n ok dL_texts_508 0 rfl ?_
  refine z_icmp_eq ok dL_texts_509 514 (by decide) (fun _ => ?_) (fun q => absurd q (by decide))
  refine z_iinc ok dL_texts_514 (hI 3 (by decide)) 0 rfl (y := nI 39) (by decide) (lv' := [(3, .int (nI 39)), (1, .long (stO (rT tb_0))), (0, .ref (zad G 0))]) rfl ?_
  refine z_goto ok dL_texts_517 496 (by decide) ?_
  refine z_iload_n ok dL_texts_496 0 rfl ?_
  refine z_bipush ok dL_texts_497 (x := nI 80) (by decide) ?_
  refine z_icmp_gt ok dL_texts_499 520 (by decide) (fun q => absurd q (by decide)) (fun _ => ?_)
  refine z_aload_n ok dL_texts_502 2 rfl ?_
  refine z_bipush ok dL_texts_503 (x := nI 97) (by decide) ?_
  obtain ⟨w69, a69, h69⟩ := Q_type h68 (n := 38) (by decide) (by decide) (by decide) (T' := tT 3173877795409440532970543895503164140877180433036080249461749938093678207731650327086815600993) (rEq_at 39 fk_336)
  refine z_callVi ok old dL_texts_505 [] (zM_eq (r := nI 39) (c_X2_type G 47 hN hg w68 (nI 97)) a69) zy_X2_type zw_482 0 (by omega) (zE_0 G _) rfl rfl rfl rfl rfl (by decide) (Nat.le_of_ble_eq_true rfl) ?_
  refine z_iload_n ok dL_texts_508 0 rfl ?_
  refine z_icmp_eq ok dL_texts_509 514 (by decide) (fun _ => ?_) (fun q => absurd q (by decide))
  refine z_iinc ok dL_texts_514 (hI 3 (by decide)) 0 rfl (y := nI 40) (by decide) (lv' := [(3, .int (nI 40)), (1, .long (stO (rT tb_0))), (0, .ref (zad G 0))]) rfl ?_
  refine z_goto ok dL_texts_517 496 (by decide) ?_
  refine z_iload_n ok dL_texts_496 0 rfl ?_
  refine z_bipush ok dL_texts_497 (x := nI 80) (by decide) ?_
  refine z_icmp_gt ok dL_texts_499 520 (by decide) (fun q => absurd q (by decide)) (fun _ => ?_)
  refine z_aload_n ok dL_texts_502 2 rfl ?_
  refine z_bipush ok dL_texts_503 (x := nI 97) (by decide) ?_
  obtain ⟨w70, a70, h70⟩ := Q_type h69 (n := 39) (by decide) (by decide) (by decide) (T' := tT 812512715624816776440459237248810020064558190857236543862207984151981621179302483734224793854305) (rEq_at 40 fk_337)
  refine z_callVi ok old dL_texts_505 [] (zM_eq (r := nI 40) (c_X2_type G 47 hN hg w69 (nI 97)) a70) zy_X2_type zw_482 0 (by omega) (zE_0 G _) rfl rfl rfl rfl rfl (by decide) (Nat.le_of_ble_eq_true rfl) ?_
  refine z_iload_n ok dL_texts_508 0 rfl ?_
  refine z_icmp_eq ok dL_texts_509 514 (by decide) (fun _ => ?_) (fun q => absurd q (by decide))
  refine z_iinc ok dL_texts_514 (hI 3 (by decide)) 0 rfl (y := nI 41) (by decide) (lv' := [(3, .int (nI 41)), (1, .long (stO (rT tb_0))), (0, .ref (zad G 0))]) rfl ?_
  refine z_goto ok dL_texts_517 496 (by decide) ?_
  refine z_iload_n ok dL_texts_496 0 rfl ?_
  refine z_bipush ok dL_texts_497 (x := nI 80) (by decide) ?_
  refine z_icmp_gt ok dL_texts_499 520 (by decide) (fun q => absurd q (by decide)) (fun _ => ?_)
  refine z_aload_n ok dL_texts_502 2 rfl ?_
  refine z_bipush ok dL_texts_503 (x := nI 97) (by decide) ?_
  obtain ⟨w71, a71, h71⟩ := Q_type h70 (n := 40) (by decide) (by decide) (by decide) (T' := tT 208003255199953094768757564735695365136526896859452555228725243942907295021901435835961547226702177) (rEq_at 41 fk_338)
  refine z_callVi ok old dL_texts_505 [] (zM_eq (r := nI 41) (c_X2_type G 47 hN hg w70 (nI 97)) a71) zy_X2_type zw_482 0 (by omega) (zE_0 G _) rfl rfl rfl rfl rfl (by decide) (Nat.le_of_ble_eq_true rfl) ?_
  refine z_iload_n ok dL_texts_508 0 rfl ?_
  refine z_icmp_eq ok dL_texts_509 514 (by decide) (fun _ => ?_) (fun q => absurd q (by decide))
  refine z_iinc ok dL_texts_514 (hI 3 (by decide)) 0 rfl (y := nI 42) (by decide) (lv' := [(3, .int (nI 42)), (1, .long (stO (rT tb_0))), (0, .ref (zad G 0))]) rfl ?_
  refine z_goto ok dL_texts_517 496 (by decide) ?_
  refine z_iload_n ok dL_texts_496 0 rfl ?_
  refine z_bipush ok dL_texts_497 (x := nI 80) (by decide) ?_
  refine z_icmp_gt ok dL_texts_499 520 (by decide) (fun q => absurd q (by decide)) (fun _ => ?_)
  refine z_aload_n ok dL_texts_502 2 rfl ?_
  refine z_bipush ok dL_texts_503 (x := nI 97) (by decide) ?_
  obtain ⟨w72, a72, h72⟩ := Q_type h71 (n := 41) (by decide) (by decide) (by decide) (T' := tT 53248833331187992260801936572338013474950885596019854138553662449384267525606767574006156090035757409) (rEq_at 42 fk_339)
  refine z_callVi ok old dL_texts_505 [] (zM_eq (r := nI 42) (c_X2_type G 47 hN hg w71 (nI 97)) a72) zy_X2_type zw_482 0 (by omega) (zE_0 G _) rfl rfl rfl rfl rfl (by decide) (Nat.le_of_ble_eq_true rfl) ?_
  refine z_iload_n ok dL_texts_508 0 rfl ?_
  refine z_icmp_eq ok dL_texts_509 514 (by decide) (fun _ => ?_) (fun q => absurd q (by decide))
  refine z_iinc ok dL_texts_514 (hI 3 (by decide)) 0 rfl (y := nI 43) (by decide) (lv' := [(3, .int (nI 43)), (1, .long (stO (rT tb_0))), (0, .ref (zad G 0))]) rfl ?_
  refine z_goto ok dL_texts_517 496 (by decide) ?_
  refine z_iload_n ok dL_texts_496 0 rfl ?_
  refine z_bipush ok dL_texts_497 (x := nI 80) (by decide) ?_
  refine z_icmp_gt ok dL_texts_499 520 (by decide) (fun q => absurd q (by decide)) (fun _ => ?_)
  refine z_aload_n ok dL_texts_502 2 rfl ?_
  refine z_bipush ok dL_texts_503 (x := nI 97) (by decide) ?_
  obtain ⟨w73, a73, h73⟩ := Q_type h72 (n := 42) (by decide) (by decide) (by decide) (T' := tT 13631701332784126018765295762518531449587426712581082659469737587042372486555332498945575959049153896801) (rEq_at 43 fk_340)
  refine z_callVi ok old dL_texts_505 [] (zM_eq (r := nI 43) (c_X2_type G 47 hN hg w72 (nI 97)) a73) zy_X2_type zw_482 0 (by omega) (zE_0 G _) rfl rfl rfl rfl rfl (by decide) (Nat.le_of_ble_eq_true rfl) ?_
  refine z_iload_n ok dL_texts_508 0 rfl ?_
  refine z_icmp_eq ok dL_texts_509 514 (by decide) (fun _ => ?_) (fun q => absurd q (by decide))
  refine z_iinc ok dL_texts_514 (hI 3 (by decide)) 0 rfl (y := nI 44) (by decide) (lv' := [(3, .int (nI 44)), (1, .long (stO (rT tb_0))), (0, .ref (zad G 0))]) rfl ?_
  refine z_goto ok dL_texts_517 496 (by decide) ?_
  refine z_iload_n ok dL_texts_496 0 rfl ?_
  refine z_bipush ok dL_texts_497 (x := nI 80) (by decide) ?_
  refine z_icmp_gt ok dL_texts_499 520 (by decide) (fun q => absurd q (by decide)) (fun _ => ?_)
  refine z_aload_n ok dL_texts_502 2 rfl ?_
  refine z_bipush ok dL_texts_503 (x := nI 97) (by decide) ?_
  obtain ⟨w74, a74, h74⟩ := Q_type h73 (n := 43) (by decide) (by decide) (by decide) (T' := tT 3489715541192736260803915715204744051094381238420757160824252822282847356558165119730067445516583397581153) (rEq_at 44 fk_341)
  refine z_callVi ok old dL_texts_505 [] (zM_eq (r := nI 44) (c_X2_type G 47 hN hg w73 (nI 97)) a74) zy_X2_type zw_482 0 (by omega) (zE_0 G _) rfl rfl rfl rfl rfl (by decide) (Nat.le_of_ble_eq_true rfl) ?_
  refine z_iload_n ok dL_texts_508 0 rfl ?_
  refine z_icmp_eq ok dL_texts_509 514 (by decide) (fun _ => ?_) (fun q => absurd q (by decide))
  refine z_iinc ok dL_texts_514 (hI 3 (by decide)) 0 rfl (y := nI 45) (by decide) (lv' := [(3, .int (nI 45)), (1, .long (stO (rT tb_0))), (0, .ref (zad G 0))]) rfl ?_
  refine z_goto ok dL_texts_517 496 (by decide) ?_
  refine z_iload_n ok dL_texts_496 0 rfl ?_
  refine z_bipush ok dL_texts_497 (x := nI 80) (by decide) ?_
  refine z_icmp_gt ok dL_texts_499 520 (by decide) (fun q => absurd q (by decide)) (fun _ => ?_)
  refine z_aload_n ok dL_texts_502 2 rfl ?_
  refine z_bipush ok dL_texts_503 (x := nI 97) (by decide) ?_
  obtain ⟨w75, a75, h75⟩ := Q_type h74 (n := 44) (by decide) (by decide) (by decide) (T' := tT 893367178545340482765802423092414477080161597035713833171008722504408923278890270650897266052245349780775265) (rEq_at 45 fk_342)
  refine z_callVi ok old dL_texts_505 [] (zM_eq (r := nI 45) (c_X2_type G 47 hN hg w74 (nI 97)) a75) zy_X2_type zw_482 0 (by omega) (zE_0 G _) rfl rfl rfl rfl rfl (by decide) (Nat.le_of_ble_eq_true rfl) ?_
  refine z_iload_n ok dL_texts_508 0 rfl ?_
  refine z_icmp_eq ok dL_texts_509 514 (by decide) (fun _ => ?_) (fun q => absurd q (by decide))
  refine z_iinc ok dL_texts_514 (hI 3 (by decide)) 0 rfl (y := nI 46) (by decide) (lv' := [(3, .int (nI 46)), (1, .long (stO (rT tb_0))), (0, .ref (zad G 0))]) rfl ?_
  refine z_goto ok dL_texts_517 496 (by decide) ?_
  refine z_iload_n ok dL_texts_496 0 rfl ?_
  refine z_bipush ok dL_texts_497 (x := nI 80) (by decide) ?_
  refine z_icmp_gt ok dL_texts_499 520 (by decide) (fun q => absurd q (by decide)) (fun _ => ?_)
  refine z_aload_n ok dL_texts_502 2 rfl ?_
  refine z_bipush ok dL_texts_503 (x := nI 97) (by decide) ?_
  obtain ⟨w76, a76, h76⟩ := Q_type h75 (n := 45) (by decide) (by decide) (by decide) (T' := tT 228701997707607163588045420311658106132521368841142741291778232961128684359395909286629700109374809543878467937) (rEq_at 46 fk_343)
  refine z_callVi ok old dL_texts_505 [] (zM_eq (r := nI 46) (c_X2_type G 47 hN hg w75 (nI 97)) a76) zy_X2_type zw_482 0 (by omega) (zE_0 G _) rfl rfl rfl rfl rfl (by decide) (Nat.le_of_ble_eq_true rfl) ?_
  refine z_iload_n ok dL_texts_508 0 rfl ?_
  refine z_icmp_eq ok dL_texts_509 514 (by decide) (fun _ => ?_) (fun q => absurd q (by decide))
  refine z_iinc ok dL_texts_514 (hI 3 (by decide)) 0 rfl (y := nI 47) (by decide) (lv' := [(3, .int (nI 47)), (1, .long (stO (rT tb_0))), (0, .ref (zad G 0))]) rfl ?_
  refine z_goto ok dL_texts_517 496 (by decide) ?_
  refine z_iload_n ok dL_texts_496 0 rfl ?_
  refine z_bipush ok dL_texts_497 (x := nI 80) (by decide) ?_
  refine z_icmp_gt ok dL_texts_499 520 (by decide) (fun q => absurd q (by decide)) (fun _ => ?_)
  refine z_aload_n ok dL_texts_502 2 rfl ?_
  refine z_bipush ok dL_texts_503 (x := nI 97) (by decide) ?_
  obtain ⟨w77, a77, h77⟩ := Q_type h76 (n := 46) (by decide) (by decide) (by decide) (T' := tT 58547711413147433878539627599784475169925470423332541770695227638048943196005352777377203227999951243232887791969) (rEq_at 47 fk_344)
  refine z_callVi ok old dL_texts_505 [] (zM_eq (r := nI 47) (c_X2_type G 47 hN hg w76 (nI 97)) a77) zy_X2_type zw_482 0 (by omega) (zE_0 G _) rfl rfl rfl rfl rfl (by decide) (Nat.le_of_ble_eq_true rfl) ?_
  refine z_iload_n ok dL_texts_508 0 rfl ?_
  refine z_icmp_eq ok dL_texts_509 514 (by decide) (fun _ => ?_) (fun q => absurd q (by decide))
  refine z_iinc ok dL_texts_514 (hI 3 (by decide)) 0 rfl (y := nI 48) (by decide) (lv' := [(3, .int (nI 48)), (1, .long (stO (rT tb_0))), (0, .ref (zad G 0))]) rfl ?_
  refine z_goto ok dL_texts_517 496 (by decide) ?_
  refine z_iload_n ok dL_texts_496 0 rfl ?_
  refine z_bipush ok dL_texts_497 (x := nI 80) (by decide) ?_
  refine z_icmp_gt ok dL_texts_499 520 (by decide) (fun q => absurd q (by decide)) (fun _ => ?_)
  refine z_aload_n ok dL_texts_502 2 rfl ?_
  refine z_bipush ok dL_texts_503 (x := nI 97) (by decide) ?_
  obtain ⟨w78, a78, h78⟩ := Q_type h77 (n := 47) (by decide) (by decide) (by decide) (T' := tT 14988214121765743072906144665544825643500920428373130693297978275340529458177370311008564026367987518267619274744161) (rEq_at 48 fk_345)
  refine z_callVi ok old dL_texts_505 [] (zM_eq (r := nI 48) (c_X2_type G 47 hN hg w77 (nI 97)) a78) zy_X2_type zw_482 0 (by omega) (zE_0 G _) rfl rfl rfl rfl rfl (by decide) (Nat.le_of_ble_eq_true rfl) ?_
  refine z_iload_n ok dL_texts_508 0 rfl ?_
  refine z_icmp_eq ok dL_texts_509 514 (by decide) (fun _ => ?_) (fun q => absurd q (by decide))
  refine z_iinc ok dL_texts_514 (hI 3 (by decide)) 0 rfl (y := nI 49) (by decide) (lv' := [(3, .int (nI 49)), (1, .long (stO (rT tb_0))), (0, .ref (zad G 0))]) rfl ?_
  refine z_goto ok dL_texts_517 496 (by decide) ?_
  refine z_iload_n ok dL_texts_496 0 rfl ?_
  refine z_bipush ok dL_texts_497 (x := nI 80) (by decide) ?_
  refine z_icmp_gt ok dL_texts_499 520 (by decide) (fun q => absurd q (by decide)) (fun _ => ?_)
  refine z_aload_n ok dL_texts_502 2 rfl ?_
  refine z_bipush ok dL_texts_503 (x := nI 97) (by decide) ?_
  obtain ⟨w79, a79, h79⟩ := Q_type h78 (n := 48) (by decide) (by decide) (by decide) (T' := tT 3836982815172030226663973034379475364736235629663521457484282438487175541293406799618192390750204804676510534334505313) (rEq_at 49 fk_346)
  refine z_callVi ok old dL_texts_505 [] (zM_eq (r := nI 49) (c_X2_type G 47 hN hg w78 (nI 97)) a79) zy_X2_type zw_482 0 (by omega) (zE_0 G _) rfl rfl rfl rfl rfl (by decide) (Nat.le_of_ble_eq_true rfl) ?_
  refine z_iload_n ok dL_texts_508 0 rfl ?_
  refine z_icmp_eq ok dL_texts_509 514 (by decide) (fun _ => ?_) (fun q => absurd q (by decide))
  refine z_iinc ok dL_texts_514 (hI 3 (by decide)) 0 rfl (y := nI 50) (by decide) (lv' := [(3, .int (nI 50)), (1, .long (stO (rT tb_0))), (0, .ref (zad G 0))]) rfl ?_
  refine z_goto ok dL_texts_517 496 (by decide) ?_
  refine z_iload_n ok dL_texts_496 0 rfl ?_
  refine z_bipush ok dL_texts_497 (x := nI 80) (by decide) ?_
  refine z_icmp_gt ok dL_texts_499 520 (by decide) (fun q => absurd q (by decide)) (fun _ => ?_)
  refine z_aload_n ok dL_texts_502 2 rfl ?_
  refine z_bipush ok dL_texts_503 (x := nI 97) (by decide) ?_
  obtain ⟨w80, a80, h80⟩ := Q_type h79 (n := 49) (by decide) (by decide) (by decide) (T' := tT 982267600684039738025977096801145693372476321193861493115976304252716938571112140702257252032052429997186696789633360225) (rEq_at 50 fk_347)
  refine z_callVi ok old dL_texts_505 [] (zM_eq (r := nI 50) (c_X2_type G 47 hN hg w79 (nI 97)) a80) zy_X2_type zw_482 0 (by omega) (zE_0 G _) rfl rfl rfl rfl rfl (by decide) (Nat.le_of_ble_eq_true rfl) ?_
  refine z_iload_n ok dL_texts_508 0 rfl ?_
  refine z_icmp_eq ok dL_texts_509 514 (by decide) (fun _ => ?_) (fun q => absurd q (by decide))
  refine z_iinc ok dL_texts_514 (hI 3 (by decide)) 0 rfl (y := nI 51) (by decide) (lv' := [(3, .int (nI 51)), (1, .long (stO (rT tb_0))), (0, .ref (zad G 0))]) rfl ?_
  refine z_goto ok dL_texts_517 496 (by decide) ?_
  refine z_iload_n ok dL_texts_496 0 rfl ?_
  refine z_bipush ok dL_texts_497 (x := nI 80) (by decide) ?_
  refine z_icmp_gt ok dL_texts_499 520 (by decide) (fun q => absurd q (by decide)) (fun _ => ?_)
  refine z_aload_n ok dL_texts_502 2 rfl ?_
  refine z_bipush ok dL_texts_503 (x := nI 97) (by decide) ?_
  obtain ⟨w81, a81, h81⟩ := Q_type h80 (n := 50) (by decide) (by decide) (by decide) (T' := tT 251460505775114172934650136781093297503353938225628542237689933888695536274204708019777856520205422079279794378146140217697) (rEq_at 51 fk_348)
  refine z_callVi ok old dL_texts_505 [] (zM_eq (r := nI 51) (c_X2_type G 47 hN hg w80 (nI 97)) a81) zy_X2_type zw_482 0 (by omega) (zE_0 G _) rfl rfl rfl rfl rfl (by decide) (Nat.le_of_ble_eq_true rfl) ?_
  refine z_iload_n ok dL_texts_508 0 rfl ?_
  refine z_icmp_eq ok dL_texts_509 514 (by decide) (fun _ => ?_) (fun q => absurd q (by decide))
  refine z_iinc ok dL_texts_514 (hI 3 (by decide)) 0 rfl (y := nI 52) (by decide) (lv' := [(3, .int (nI 52)), (1, .long (stO (rT tb_0))), (0, .ref (zad G 0))]) rfl ?_
  refine z_goto ok dL_texts_517 496 (by decide) ?_
  refine z_iload_n ok dL_texts_496 0 rfl ?_
  refine z_bipush ok dL_texts_497 (x := nI 80) (by decide) ?_
  refine z_icmp_gt ok dL_texts_499 520 (by decide) (fun q => absurd q (by decide)) (fun _ => ?_)
  refine z_aload_n ok dL_texts_502 2 rfl ?_
  refine z_bipush ok dL_texts_503 (x := nI 97) (by decide) ?_
  obtain ⟨w82, a82, h82⟩ := Q_type h81 (n := 51) (by decide) (by decide) (by decide) (T' := tT 64373889478429228271270435015959884160858608185760906812848623075506057286196405253063131269172588052295627360805411895730529) (rEq_at 52 fk_349)
  refine z_callVi ok old dL_texts_505 [] (zM_eq (r := nI 52) (c_X2_type G 47 hN hg w81 (nI 97)) a82) zy_X2_type zw_482 0 (by omega) (zE_0 G _) rfl rfl rfl rfl rfl (by decide) (Nat.le_of_ble_eq_true rfl) ?_
  refine z_iload_n ok dL_texts_508 0 rfl ?_
  refine z_icmp_eq ok dL_texts_509 514 (by decide) (fun _ => ?_) (fun q => absurd q (by decide))
  refine z_iinc ok dL_texts_514 (hI 3 (by decide)) 0 rfl (y := nI 53) (by decide) (lv' := [(3, .int (nI 53)), (1, .long (stO (rT tb_0))), (0, .ref (zad G 0))]) rfl ?_
  refine z_goto ok dL_texts_517 496 (by decide) ?_
  refine z_iload_n ok dL_texts_496 0 rfl ?_
  refine z_bipush ok dL_texts_497 (x := nI 80) (by decide) ?_
  refine z_icmp_gt ok dL_texts_499 520 (by decide) (fun q => absurd q (by decide)) (fun _ => ?_)
  refine z_aload_n ok dL_texts_502 2 rfl ?_
  refine z_bipush ok dL_texts_503 (x := nI 97) (by decide) ?_
  obtain ⟨w83, a83, h83⟩ := Q_type h82 (n := 52) (by decide) (by decide) (by decide) (T' := tT 16479715706477882437445231364085730345179803695554792144089247507329550665266279744784161604908182541387680604366185445307015521) (rEq_at 53 fk_350)
  refine z_callVi ok old dL_texts_505 [] (zM_eq (r := nI 53) (c_X2_type G 47 hN hg w82 (nI 97)) a83) zy_X2_type zw_482 0 (by omega) (zE_0 G _) rfl rfl rfl rfl rfl (by decide) (Nat.le_of_ble_eq_true rfl) ?_
  refine z_iload_n ok dL_texts_508 0 rfl ?_
  refine z_icmp_eq ok dL_texts_509 514 (by decide) (fun _ => ?_) (fun q => absurd q (by decide))
  refine z_iinc ok dL_texts_514 (hI 3 (by decide)) 0 rfl (y := nI 54) (by decide) (lv' := [(3, .int (nI 54)), (1, .long (stO (rT tb_0))), (0, .ref (zad G 0))]) rfl ?_
  refine z_goto ok dL_texts_517 496 (by decide) ?_
  refine z_iload_n ok dL_texts_496 0 rfl ?_
  refine z_bipush ok dL_texts_497 (x := nI 80) (by decide) ?_
  refine z_icmp_gt ok dL_texts_499 520 (by decide) (fun q => absurd q (by decide)) (fun _ => ?_)
  refine z_aload_n ok dL_texts_502 2 rfl ?_
  refine z_bipush ok dL_texts_503 (x := nI 97) (by decide) ?_
  obtain ⟨w84, a84, h84⟩ := Q_type h83 (n := 53) (by decide) (by decide) (by decide) (T' := tT 4218807220858337903985979229205946968366029746062026788886847361876364970308167614664745370856494730595246234717743473998595973473) (rEq_at 54 fk_351)
  refine z_callVi ok old dL_texts_505 [] (zM_eq (r := nI 54) (c_X2_type G 47 hN hg w83 (nI 97)) a84) zy_X2_type zw_482 0 (by omega) (zE_0 G _) rfl rfl rfl rfl rfl (by decide) (Nat.le_of_ble_eq_true rfl) ?_
  refine z_iload_n ok dL_texts_508 0 rfl ?_
  refine z_icmp_eq ok dL_texts_509 514 (by decide) (fun _ => ?_) (fun q => absurd q (by decide))
  refine z_iinc ok dL_texts_514 (hI 3 (by decide)) 0 rfl (y := nI 55) (by decide) (lv' := [(3, .int (nI 55)), (1, .long (stO (rT tb_0))), (0, .ref (zad G 0))]) rfl ?_
  refine z_goto ok dL_texts_517 496 (by decide) ?_
  refine z_iload_n ok dL_texts_496 0 rfl ?_
  refine z_bipush ok dL_texts_497 (x := nI 80) (by decide) ?_
  refine z_icmp_gt ok dL_texts_499 520 (by decide) (fun q => absurd q (by decide)) (fun _ => ?_)
  refine z_aload_n ok dL_texts_502 2 rfl ?_
  refine z_bipush ok dL_texts_503 (x := nI 97) (by decide) ?_
  obtain ⟨w85, a85, h85⟩ := Q_type h84 (n := 54) (by decide) (by decide) (by decide) (T' := tT 1080014648539734503420410682676722423901703614991878857955032924640349432398890909354174814939262651032383036087742329343640569209185) (rEq_at 55 fk_352)
  refine z_callVi ok old dL_texts_505 [] (zM_eq (r := nI 55) (c_X2_type G 47 hN hg w84 (nI 97)) a85) zy_X2_type zw_482 0 (by omega) (zE_0 G _) rfl rfl rfl rfl rfl (by decide) (Nat.le_of_ble_eq_true rfl) ?_
  refine z_iload_n ok dL_texts_508 0 rfl ?_
  refine z_icmp_eq ok dL_texts_509 514 (by decide) (fun _ => ?_) (fun q => absurd q (by decide))
  refine z_iinc ok dL_texts_514 (hI 3 (by decide)) 0 rfl (y := nI 56) (by decide) (lv' := [(3, .int (nI 56)), (1, .long (stO (rT tb_0))), (0, .ref (zad G 0))]) rfl ?_
  refine z_goto ok dL_texts_517 496 (by decide) ?_
  refine z_iload_n ok dL_texts_496 0 rfl ?_
  refine z_bipush ok dL_texts_497 (x := nI 80) (by decide) ?_
  refine z_icmp_gt ok dL_texts_499 520 (by decide) (fun q => absurd q (by decide)) (fun _ => ?_)
  refine z_aload_n ok dL_texts_502 2 rfl ?_
  refine z_bipush ok dL_texts_503 (x := nI 97) (by decide) ?_
  obtain ⟨w86, a86, h86⟩ := Q_type h85 (n := 55) (by decide) (by decide) (by decide) (T' := tT 276483750026172032875625134765240940518836125437920987636488428707929454694116072794668752624451238664290057238462036311971985717551457) (rEq_at 56 fk_353)
  refine z_callVi ok old dL_texts_505 [] (zM_eq (r := nI 56) (c_X2_type G 47 hN hg w85 (nI 97)) a86) zy_X2_type zw_482 0 (by omega) (zE_0 G _) rfl rfl rfl rfl rfl (by decide) (Nat.le_of_ble_eq_true rfl) ?_
  refine z_iload_n ok dL_texts_508 0 rfl ?_
  refine z_icmp_eq ok dL_texts_509 514 (by decide) (fun _ => ?_) (fun q => absurd q (by decide))
  refine z_iinc ok dL_texts_514 (hI 3 (by decide)) 0 rfl (y := nI 57) (by decide) (lv' := [(3, .int (nI 57)), (1, .long (stO (rT tb_0))), (0, .ref (zad G 0))]) rfl ?_
  refine z_goto ok dL_texts_517 496 (by decide) ?_
  refine z_iload_n ok dL_texts_496 0 rfl ?_
  refine z_bipush ok dL_texts_497 (x := nI 80) (by decide) ?_
  refine z_icmp_gt ok dL_texts_499 520 (by decide) (fun q => absurd q (by decide)) (fun _ => ?_)
  refine z_aload_n ok dL_texts_502 2 rfl ?_
  refine z_bipush ok dL_texts_503 (x := nI 97) (by decide) ?_
  obtain ⟨w87, a87, h87⟩ := Q_type h86 (n := 56) (by decide) (by decide) (by decide) (T' := tT 70779840006700040416160034499901680772822048112107772834941037749229940401693714635435200671859517098058254653046281295864828343693173089) (rEq_at 57 fk_354)
  refine z_callVi ok old dL_texts_505 [] (zM_eq (r := nI 57) (c_X2_type G 47 hN hg w86 (nI 97)) a87) zy_X2_type zw_482 0 (by omega) (zE_0 G _) rfl rfl rfl rfl rfl (by decide) (Nat.le_of_ble_eq_true rfl) ?_
  refine z_iload_n ok dL_texts_508 0 rfl ?_
  refine z_icmp_eq ok dL_texts_509 514 (by decide) (fun _ => ?_) (fun q => absurd q (by decide))
  refine z_iinc ok dL_texts_514 (hI 3 (by decide)) 0 rfl (y := nI 58) (by decide) (lv' := [(3, .int (nI 58)), (1, .long (stO (rT tb_0))), (0, .ref (zad G 0))]) rfl ?_
  refine z_goto ok dL_texts_517 496 (by decide) ?_
  refine z_iload_n ok dL_texts_496 0 rfl ?_
  refine z_bipush ok dL_texts_497 (x := nI 80) (by decide) ?_
  refine z_icmp_gt ok dL_texts_499 520 (by decide) (fun q => absurd q (by decide)) (fun _ => ?_)
  refine z_aload_n ok dL_texts_502 2 rfl ?_
  refine z_bipush ok dL_texts_503 (x := nI 97) (by decide) ?_
  obtain ⟨w88, a88, h88⟩ := Q_type h87 (n := 57) (by decide) (by decide) (by decide) (T' := tT 18119639041715210346536968831974830277842444316699589845744905663802864742833590946671411371996036377102913191179848011741396055985452310881) (rEq_at 58 fk_355)
  refine z_callVi ok old dL_texts_505 [] (zM_eq (r := nI 58) (c_X2_type G 47 hN hg w87 (nI 97)) a88) zy_X2_type zw_482 0 (by omega) (zE_0 G _) rfl rfl rfl rfl rfl (by decide) (Nat.le_of_ble_eq_true rfl) ?_
  refine z_iload_n ok dL_texts_508 0 rfl ?_
  refine z_icmp_eq ok dL_texts_509 514 (by decide) (fun _ => ?_) (fun q => absurd q (by decide))
  refine z_iinc ok dL_texts_514 (hI 3 (by decide)) 0 rfl (y := nI 59) (by decide) (lv' := [(3, .int (nI 59)), (1, .long (stO (rT tb_0))), (0, .ref (zad G 0))]) rfl ?_
  refine z_goto ok dL_texts_517 496 (by decide) ?_
  refine z_iload_n ok dL_texts_496 0 rfl ?_
  refine z_bipush ok dL_texts_497 (x := nI 80) (by decide) ?_
  refine z_icmp_gt ok dL_texts_499 520 (by decide) (fun q => absurd q (by decide)) (fun _ => ?_)
  refine z_aload_n ok dL_texts_502 2 rfl ?_
  refine z_bipush ok dL_texts_503 (x := nI 97) (by decide) ?_
  obtain ⟨w89, a89, h89⟩ := Q_type h88 (n := 58) (by decide) (by decide) (by decide) (T' := tT 4638627594679093848713464020985556551127665745075095000510695849933533374165399282347881311230985312538345776942041091005797390332275791585633) (rEq_at 59 fk_356)
  refine z_callVi ok old dL_texts_505 [] (zM_eq (r := nI 59) (c_X2_type G 47 hN hg w88 (nI 97)) a89) zy_X2_type zw_482 0 (by omega) (zE_0 G _) rfl rfl rfl rfl rfl (by decide) (Nat.le_of_ble_eq_true rfl) ?_
  refine z_iload_n ok dL_texts_508 0 rfl ?_
  refine z_icmp_eq ok dL_texts_509 514 (by decide) (fun _ => ?_) (fun q => absurd q (by decide))
  refine z_iinc ok dL_texts_514 (hI 3 (by decide)) 0 rfl (y := nI 60) (by decide) (lv' := [(3, .int (nI 60)), (1, .long (stO (rT tb_0))), (0, .ref (zad G 0))]) rfl ?_
  refine z_goto ok dL_texts_517 496 (by decide) ?_
  refine z_iload_n ok dL_texts_496 0 rfl ?_
  refine z_bipush ok dL_texts_497 (x := nI 80) (by decide) ?_
  refine z_icmp_gt ok dL_texts_499 520 (by decide) (fun q => absurd q (by decide)) (fun _ => ?_)
  refine z_aload_n ok dL_texts_502 2 rfl ?_
  refine z_bipush ok dL_texts_503 (x := nI 97) (by decide) ?_
  obtain ⟨w90, a90, h90⟩ := Q_type h89 (n := 59) (by decide) (by decide) (by decide) (T' := tT 1187488664237848025270646789372302477088682430739224320130738137582984543786342216281057615675132240009816518897162519297484131925062602645922145) (rEq_at 60 fk_357)
  refine z_callVi ok old dL_texts_505 [] (zM_eq (r := nI 60) (c_X2_type G 47 hN hg w89 (nI 97)) a90) zy_X2_type zw_482 0 (by omega) (zE_0 G _) rfl rfl rfl rfl rfl (by decide) (Nat.le_of_ble_eq_true rfl) ?_
  refine z_iload_n ok dL_texts_508 0 rfl ?_
  refine z_icmp_eq ok dL_texts_509 514 (by decide) (fun _ => ?_) (fun q => absurd q (by decide))
  refine z_iinc ok dL_texts_514 (hI 3 (by decide)) 0 rfl (y := nI 61) (by decide) (lv' := [(3, .int (nI 61)), (1, .long (stO (rT tb_0))), (0, .ref (zad G 0))]) rfl ?_
  refine z_goto ok dL_texts_517 496 (by decide) ?_
  refine z_iload_n ok dL_texts_496 0 rfl ?_
  refine z_bipush ok dL_texts_497 (x := nI 80) (by decide) ?_
  refine z_icmp_gt ok dL_texts_499 520 (by decide) (fun q => absurd q (by decide)) (fun _ => ?_)
  refine z_aload_n ok dL_texts_502 2 rfl ?_
  refine z_bipush ok dL_texts_503 (x := nI 97) (by decide) ?_
  obtain ⟨w91, a91, h91⟩ := Q_type h90 (n := 60) (by decide) (by decide) (by decide) (T' := tT 303997098044889094469285578079309434134702702269241425953468963221244043209303607367950749612833853442513028837673604940155937772816026277356069217) (rEq_at 61 fk_358)
  refine z_callVi ok old dL_texts_505 [] (zM_eq (r := nI 61) (c_X2_type G 47 hN hg w90 (nI 97)) a91) zy_X2_type zw_482 0 (by omega) (zE_0 G _) rfl rfl rfl rfl rfl (by decide) (Nat.le_of_ble_eq_true rfl) ?_
  refine z_iload_n ok dL_texts_508 0 rfl ?_
  refine z_icmp_eq ok dL_texts_509 514 (by decide) (fun _ => ?_) (fun q => absurd q (by decide))
  refine z_iinc ok dL_texts_514 (hI 3 (by decide)) 0 rfl (y := nI 62) (by decide) (lv' := [(3, .int (nI 62)), (1, .long (stO (rT tb_0))), (0, .ref (zad G 0))]) rfl ?_
  refine z_goto ok dL_texts_517 496 (by decide) ?_
  refine z_iload_n ok dL_texts_496 0 rfl ?_
  refine z_bipush ok dL_texts_497 (x := nI 80) (by decide) ?_
  refine z_icmp_gt ok dL_texts_499 520 (by decide) (fun q => absurd q (by decide)) (fun _ => ?_)
  refine z_aload_n ok dL_texts_502 2 rfl ?_
  refine z_bipush ok dL_texts_503 (x := nI 97) (by decide) ?_
  obtain ⟨w92, a92, h92⟩ := Q_type h91 (n := 61) (by decide) (by decide) (by decide) (T' := tT 77823257099491608184137107988303215138483891780925805044088054584638475061581723486195391900885466481283335382444442864679920069840902727003153719649) (rEq_at 62 fk_359)
  refine z_callVi ok old dL_texts_505 [] (zM_eq (r := nI 62) (c_X2_type G 47 hN hg w91 (nI 97)) a92) zy_X2_type zw_482 0 (by omega) (zE_0 G _) rfl rfl rfl rfl rfl (by decide) (Nat.le_of_ble_eq_true rfl) ?_
  refine z_iload_n ok dL_texts_508 0 rfl ?_
  refine z_icmp_eq ok dL_texts_509 514 (by decide) (fun _ => ?_) (fun q => absurd q (by decide))
  refine z_iinc ok dL_texts_514 (hI 3 (by decide)) 0 rfl (y := nI 63) (by decide) (lv' := [(3, .int (nI 63)), (1, .long (stO (rT tb_0))), (0, .ref (zad G 0))]) rfl ?_
  refine z_goto ok dL_texts_517 496 (by decide) ?_
  refine z_iload_n ok dL_texts_496 0 rfl ?_
  refine z_bipush ok dL_texts_497 (x := nI 80) (by decide) ?_
  refine z_icmp_gt ok dL_texts_499 520 (by decide) (fun q => absurd q (by decide)) (fun _ => ?_)
  refine z_aload_n ok dL_texts_502 2 rfl ?_
  refine z_bipush ok dL_texts_503 (x := nI 97) (by decide) ?_
  obtain ⟨w93, a93, h93⟩ := Q_type h92 (n := 62) (by decide) (by decide) (by decide) (T' := tT 19922753817469851695139099645005623075451876295917006091286541973667449615764921212466020326626679419208533857905777373358059537879271098112807352230241) (rEq_at 63 fk_360)
  refine z_callVi ok old dL_texts_505 [] (zM_eq (r := nI 63) (c_X2_type G 47 hN hg w92 (nI 97)) a93) zy_X2_type zw_482 0 (by omega) (zE_0 G _) rfl rfl rfl rfl rfl (by decide) (Nat.le_of_ble_eq_true rfl) ?_
  refine z_iload_n ok dL_texts_508 0 rfl ?_
  refine z_icmp_eq ok dL_texts_509 514 (by decide) (fun _ => ?_) (fun q => absurd q (by decide))
  refine z_iinc ok dL_texts_514 (hI 3 (by decide)) 0 rfl (y := nI 64) (by decide) (lv' := [(3, .int (nI 64)), (1, .long (stO (rT tb_0))), (0, .ref (zad G 0))]) rfl ?_
  refine z_goto ok dL_texts_517 496 (by decide) ?_
  refine z_iload_n ok dL_texts_496 0 rfl ?_
  refine z_bipush ok dL_texts_497 (x := nI 80) (by decide) ?_
  refine z_icmp_gt ok dL_texts_499 520 (by decide) (fun q => absurd q (by decide)) (fun _ => ?_)
  refine z_aload_n ok dL_texts_502 2 rfl ?_
  refine z_bipush ok dL_texts_503 (x := nI 97) (by decide) ?_
  obtain ⟨w94, a94, h94⟩ := Q_type h93 (n := 63) (by decide) (by decide) (by decide) (T' := tT 5100224977272282033955609509121439507315680331754753559369354745258867101635819830391301203616429931317384667623879007579663241697093401116878682170941793) (rEq_at 64 fk_361)
  refine z_callVi ok old dL_texts_505 [] (zM_eq (r := nI 64) (c_X2_type G 47 hN hg w93 (nI 97)) a94) zy_X2_type zw_482 0 (by omega) (zE_0 G _) rfl rfl rfl rfl rfl (by decide) (Nat.le_of_ble_eq_true rfl) ?_
  refine z_iload_n ok dL_texts_508 0 rfl ?_
  refine z_icmp_eq ok dL_texts_509 514 (by decide) (fun _ => ?_) (fun q => absurd q (by decide))
  refine z_iinc ok dL_texts_514 (hI 3 (by decide)) 0 rfl (y := nI 65) (by decide) (lv' := [(3, .int (nI 65)), (1, .long (stO (rT tb_0))), (0, .ref (zad G 0))]) rfl ?_
  refine z_goto ok dL_texts_517 496 (by decide) ?_
  refine z_iload_n ok dL_texts_496 0 rfl ?_
  refine z_bipush ok dL_texts_497 (x := nI 80) (by decide) ?_
  refine z_icmp_gt ok dL_texts_499 520 (by decide) (fun q => absurd q (by decide)) (fun _ => ?_)
  refine z_aload_n ok dL_texts_502 2 rfl ?_
  refine z_bipush ok dL_texts_503 (x := nI 97) (by decide) ?_
  obtain ⟨w95, a95, h95⟩ := Q_type h94 (n := 64) (by decide) (by decide) (by decide) (T' := tT 1305657594181704200692636034335088513872814164929216911198554814786269978018769876580173108125806062417250474911713025940393789874455910685920942635761099105) (rEq_at 65 fk_362)
  refine z_callVi ok old dL_texts_505 [] (zM_eq (r := nI 65) (c_X2_type G 47 hN hg w94 (nI 97)) a95) zy_X2_type zw_482 0 (by omega) (zE_0 G _) rfl rfl rfl rfl rfl (by decide) (Nat.le_of_ble_eq_true rfl) ?_
  refine z_iload_n ok dL_texts_508 0 rfl ?_
  refine z_icmp_eq ok dL_texts_509 514 (by decide) (fun _ => ?_) (fun q => absurd q (by decide))
  refine z_iinc ok dL_texts_514 (hI 3 (by decide)) 0 rfl (y := nI 66) (by decide) (lv' := [(3, .int (nI 66)), (1, .long (stO (rT tb_0))), (0, .ref (zad G 0))]) rfl ?_
  refine z_goto ok dL_texts_517 496 (by decide) ?_
  refine z_iload_n ok dL_texts_496 0 rfl ?_
  refine z_bipush ok dL_texts_497 (x := nI 80) (by decide) ?_
  refine z_icmp_gt ok dL_texts_499 520 (by decide) (fun q => absurd q (by decide)) (fun _ => ?_)
  refine z_aload_n ok dL_texts_502 2 rfl ?_
  refine z_bipush ok dL_texts_503 (x := nI 97) (by decide) ?_
  obtain ⟨w96, a96, h96⟩ := Q_type h95 (n := 65) (by decide) (by decide) (by decide) (T' := tT 334248344110516275377314824789782659551440426221879529266830032585285114372805088404524315680206351978816121577398534640740810207860713135595761314754841370977) (rEq_at 66 fk_363)
  refine z_callVi ok old dL_texts_505 [] (zM_eq (r := nI 66) (c_X2_type G 47 hN hg w95 (nI 97)) a96) zy_X2_type zw_482 0 (by omega) (zE_0 G _) rfl rfl rfl rfl rfl (by decide) (Nat.le_of_ble_eq_true rfl) ?_
  refine z_iload_n ok dL_texts_508 0 rfl ?_
  refine z_icmp_eq ok dL_texts_509 514 (by decide) (fun _ => ?_) (fun q => absurd q (by decide))
  refine z_iinc ok dL_texts_514 (hI 3 (by decide)) 0 rfl (y := nI 67) (by decide) (lv' := [(3, .int (nI 67)), (1, .long (stO (rT tb_0))), (0, .ref (zad G 0))]) rfl ?_
  refine z_goto ok dL_texts_517 496 (by decide) ?_
  refine z_iload_n ok dL_texts_496 0 rfl ?_
  refine z_bipush ok dL_texts_497 (x := nI 80) (by decide) ?_
  refine z_icmp_gt ok dL_texts_499 520 (by decide) (fun q => absurd q (by decide)) (fun _ => ?_)
  refine z_aload_n ok dL_texts_502 2 rfl ?_
  refine z_bipush ok dL_texts_503 (x := nI 97) (by decide) ?_
  obtain ⟨w97, a97, h97⟩ := Q_type h96 (n := 66) (by decide) (by decide) (by decide) (T' := tT 85567576092292166496592595146184360845168749112801159492308488341832989279438102631558224814132826106576927123814024868029647413212342562712514896577239390970209) (rEq_at 67 fk_364)
  refine z_callVi ok old dL_texts_505 [] (zM_eq (r := nI 67) (c_X2_type G 47 hN hg w96 (nI 97)) a97) zy_X2_type zw_482 0 (by omega) (zE_0 G _) rfl rfl rfl rfl rfl (by decide) (Nat.le_of_ble_eq_true rfl) ?_
  refine z_iload_n ok dL_texts_508 0 rfl ?_
  refine z_icmp_eq ok dL_texts_509 514 (by decide) (fun _ => ?_) (fun q => absurd q (by decide))
  refine z_iinc ok dL_texts_514 (hI 3 (by decide)) 0 rfl (y := nI 68) (by decide) (lv' := [(3, .int (nI 68)), (1, .long (stO (rT tb_0))), (0, .ref (zad G 0))]) rfl ?_
  refine z_goto ok dL_texts_517 496 (by decide) ?_
  refine z_iload_n ok dL_texts_496 0 rfl ?_
  refine z_bipush ok dL_texts_497 (x := nI 80) (by decide) ?_
  refine z_icmp_gt ok dL_texts_499 520 (by decide) (fun q => absurd q (by decide)) (fun _ => ?_)
  refine z_aload_n ok dL_texts_502 2 rfl ?_
  refine z_bipush ok dL_texts_503 (x := nI 97) (by decide) ?_
  obtain ⟨w98, a98, h98⟩ := Q_type h97 (n := 67) (by decide) (by decide) (by decide) (T' := tT 21905299479626794623127704357423196376363199772877096830030973015509245255536154273678905552418003483283693343696390366215589737782359696054403813523773284088373601) (rEq_at 68 fk_365)
  refine z_callVi ok old dL_texts_505 [] (zM_eq (r := nI 68) (c_X2_type G 47 hN hg w97 (nI 97)) a98) zy_X2_type zw_482 0 (by omega) (zE_0 G _) rfl rfl rfl rfl rfl (by decide) (Nat.le_of_ble_eq_true rfl) ?_
  refine z_iload_n ok dL_texts_508 0 rfl ?_
  refine z_icmp_eq ok dL_texts_509 514 (by decide) (fun _ => ?_) (fun q => absurd q (by decide))
  refine z_iinc ok dL_texts_514 (hI 3 (by decide)) 0 rfl (y := nI 69) (by decide) (lv' := [(3, .int (nI 69)), (1, .long (stO (rT tb_0))), (0, .ref (zad G 0))]) rfl ?_
  refine z_goto ok dL_texts_517 496 (by decide) ?_
  refine z_iload_n ok dL_texts_496 0 rfl ?_
  refine z_bipush ok dL_texts_497 (x := nI 80) (by decide) ?_
  refine z_icmp_gt ok dL_texts_499 520 (by decide) (fun q => absurd q (by decide)) (fun _ => ?_)
  refine z_aload_n ok dL_texts_502 2 rfl ?_
  refine z_bipush ok dL_texts_503 (x := nI 97) (by decide) ?_
  obtain ⟨w99, a99, h99⟩ := Q_type h98 (n := 68) (by decide) (by decide) (by decide) (T' := tT 5607756666784459423520692315500338272348979141856536788487929091970366785417255494061799821419008891720625495986275933751190972872284082189927376262085960726623641953) (rEq_at 69 fk_366)
  refine z_callVi ok old dL_texts_505 [] (zM_eq (r := nI 69) (c_X2_type G 47 hN hg w98 (nI 97)) a99) zy_X2_type zw_482 0 (by omega) (zE_0 G _) rfl rfl rfl rfl rfl (by decide) (Nat.le_of_ble_eq_true rfl) ?_
  refine z_iload_n ok dL_texts_508 0 rfl ?_
  refine z_icmp_eq ok dL_texts_509 514 (by decide) (fun _ => ?_) (fun q => absurd q (by decide))
  refine z_iinc ok dL_texts_514 (hI 3 (by decide)) 0 rfl (y := nI 70) (by decide) (lv' := [(3, .int (nI 70)), (1, .long (stO (rT tb_0))), (0, .ref (zad G 0))]) rfl ?_
  refine z_goto ok dL_texts_517 496 (by decide) ?_
  refine z_iload_n ok dL_texts_496 0 rfl ?_
  refine z_bipush ok dL_texts_497 (x := nI 80) (by decide) ?_
  refine z_icmp_gt ok dL_texts_499 520 (by decide) (fun q => absurd q (by decide)) (fun _ => ?_)
  refine z_aload_n ok dL_texts_502 2 rfl ?_
  refine z_bipush ok dL_texts_503 (x := nI 97) (by decide) ?_
  obtain ⟨w100, a100, h100⟩ := Q_type h99 (n := 69) (by decide) (by decide) (by decide) (T' := tT 1435585706696821612421297232768086597721338660315273417852909847544413897066817406479820754283266276280480126972486639040304889055304725040621408323094005946015652340065) (rEq_at 70 fk_367)
  refine z_callVi ok old dL_texts_505 [] (zM_eq (r := nI 70) (c_X2_type G 47 hN hg w99 (nI 97)) a100) zy_X2_type zw_482 0 (by omega) (zE_0 G _) rfl rfl rfl rfl rfl (by decide) (Nat.le_of_ble_eq_true rfl) ?_
  refine z_iload_n ok dL_texts_508 0 rfl ?_
  refine z_icmp_eq ok dL_texts_509 514 (by decide) (fun _ => ?_) (fun q => absurd q (by decide))
  refine z_iinc ok dL_texts_514 (hI 3 (by decide)) 0 rfl (y := nI 71) (by decide) (lv' := [(3, .int (nI 71)), (1, .long (stO (rT tb_0))), (0, .ref (zad G 0))]) rfl ?_
  refine z_goto ok dL_texts_517 496 (by decide) ?_
  refine z_iload_n ok dL_texts_496 0 rfl ?_
  refine z_bipush ok dL_texts_497 (x := nI 80) (by decide) ?_
  refine z_icmp_gt ok dL_texts_499 520 (by decide) (fun q => absurd q (by decide)) (fun _ => ?_)
  refine z_aload_n ok dL_texts_502 2 rfl ?_
  refine z_bipush ok dL_texts_503 (x := nI 97) (by decide) ?_
  obtain ⟨w101, a101, h101⟩ := Q_type h100 (n := 70) (by decide) (by decide) (by decide) (T' := tT 367509940914386332779852091588630169016662697040709994970344920971369957649105256058834113096516166727802912504956579594318051598158009610399080530712065522180006999056737) (rEq_at 71 fk_368)
  refine z_callVi ok old dL_texts_505 [] (zM_eq (r := nI 71) (c_X2_type G 47 hN hg w100 (nI 97)) a101) zy_X2_type zw_482 0 (by omega) (zE_0 G _) rfl rfl rfl rfl rfl (by decide) (Nat.le_of_ble_eq_true rfl) ?_
  refine z_iload_n ok dL_texts_508 0 rfl ?_
  refine z_icmp_eq ok dL_texts_509 514 (by decide) (fun _ => ?_) (fun q => absurd q (by decide))
  refine z_iinc ok dL_texts_514 (hI 3 (by decide)) 0 rfl (y := nI 72) (by decide) (lv' := [(3, .int (nI 72)), (1, .long (stO (rT tb_0))), (0, .ref (zad G 0))]) rfl ?_
  refine z_goto ok dL_texts_517 496 (by decide) ?_
  refine z_iload_n ok dL_texts_496 0 rfl ?_
  refine z_bipush ok dL_texts_497 (x := nI 80) (by decide) ?_
  refine z_icmp_gt ok dL_texts_499 520 (by decide) (fun q => absurd q (by decide)) (fun _ => ?_)
  refine z_aload_n ok dL_texts_502 2 rfl ?_
  refine z_bipush ok dL_texts_503 (x := nI 97) (by decide) ?_
  obtain ⟨w102, a102, h102⟩ := Q_type h101 (n := 71) (by decide) (by decide) (by decide) (T' := tT 94082544874082901191642135446689323268265650442421758712408299768670709158170945551061532952708138682317545601268884376145421209128450460262164615862288773678081791758524769) (rEq_at 72 fk_369)
  refine z_callVi ok old dL_texts_505 [] (zM_eq (r := nI 72) (c_X2_type G 47 hN hg w101 (nI 97)) a102) zy_X2_type zw_482 0 (by omega) (zE_0 G _) rfl rfl rfl rfl rfl (by decide) (Nat.le_of_ble_eq_true rfl) ?_
  refine z_iload_n ok dL_texts_508 0 rfl ?_
  refine z_icmp_eq ok dL_texts_509 514 (by decide) (fun _ => ?_) (fun q => absurd q (by decide))
  refine z_iinc ok dL_texts_514 (hI 3 (by decide)) 0 rfl (y := nI 73) (by decide) (lv' := [(3, .int (nI 73)), (1, .long (stO (rT tb_0))), (0, .ref (zad G 0))]) rfl ?_
  refine z_goto ok dL_texts_517 496 (by decide) ?_
  refine z_iload_n ok dL_texts_496 0 rfl ?_
  refine z_bipush ok dL_texts_497 (x := nI 80) (by decide) ?_
  refine z_icmp_gt ok dL_texts_499 520 (by decide) (fun q => absurd q (by decide)) (fun _ => ?_)
  refine z_aload_n ok dL_texts_502 2 rfl ?_
  refine z_bipush ok dL_texts_503 (x := nI 97) (by decide) ?_
  obtain ⟨w103, a103, h103⟩ := Q_type h102 (n := 72) (by decide) (by decide) (by decide) (T' := tT 24085131487765222705060386674352466756676006513259970230376524740779701544491762061071752435893283502673291673924834400293227829536883317827114141660745926061588938690182340961) (rEq_at 73 fk_370)
  refine z_callVi ok old dL_texts_505 [] (zM_eq (r := nI 73) (c_X2_type G 47 hN hg w102 (nI 97)) a103) zy_X2_type zw_482 0 (by omega) (zE_0 G _) rfl rfl rfl rfl rfl (by decide) (Nat.le_of_ble_eq_true rfl) ?_
  refine z_iload_n ok dL_texts_508 0 rfl ?_
  refine z_icmp_eq ok dL_texts_509 514 (by decide) (fun _ => ?_) (fun q => absurd q (by decide))
  refine z_iinc ok dL_texts_514 (hI 3 (by decide)) 0 rfl (y := nI 74) (by decide) (lv' := [(3, .int (nI 74)), (1, .long (stO (rT tb_0))), (0, .ref (zad G 0))]) rfl ?_
  refine z_goto ok dL_texts_517 496 (by decide) ?_
  refine z_iload_n ok dL_texts_496 0 rfl ?_
  refine z_bipush ok dL_texts_497 (x := nI 80) (by decide) ?_
  refine z_icmp_gt ok dL_texts_499 520 (by decide) (fun q => absurd q (by decide)) (fun _ => ?_)
  refine z_aload_n ok dL_texts_502 2 rfl ?_
  refine z_bipush ok dL_texts_503 (x := nI 97) (by decide) ?_
  obtain ⟨w104, a104, h104⟩ := Q_type h103 (n := 73) (by decide) (by decide) (by decide) (T' := tT 6165793660867897012495458988634231489709057667394552378976390333639603595389891087634368623588680576684362668524757606475066324361442129363741220265150957071766768304686679286113) (rEq_at 74 fk_371)
  refine z_callVi ok old dL_texts_505 [] (zM_eq (r := nI 74) (c_X2_type G 47 hN hg w103 (nI 97)) a104) zy_X2_type zw_482 0 (by omega) (zE_0 G _) rfl rfl rfl rfl rfl (by decide) (Nat.le_of_ble_eq_true rfl) ?_
  refine z_iload_n ok dL_texts_508 0 rfl ?_
  refine z_icmp_eq ok dL_texts_509 514 (by decide) (fun _ => ?_) (fun q => absurd q (by decide))
  refine z_iinc ok dL_texts_514 (hI 3 (by decide)) 0 rfl (y := nI 75) (by decide) (lv' := [(3, .int (nI 75)), (1, .long (stO (rT tb_0))), (0, .ref (zad G 0))]) rfl ?_
  refine z_goto ok dL_texts_517 496 (by decide) ?_
  refine z_iload_n ok dL_texts_496 0 rfl ?_
  refine z_bipush ok dL_texts_497 (x := nI 80) (by decide) ?_
  refine z_icmp_gt ok dL_texts_499 520 (by decide) (fun q => absurd q (by decide)) (fun _ => ?_)
  refine z_aload_n ok dL_texts_502 2 rfl ?_
  refine z_bipush ok dL_texts_503 (x := nI 97) (by decide) ?_
  obtain ⟨w105, a105, h105⟩ := Q_type h104 (n := 74) (by decide) (by decide) (by decide) (T' := tT 1578443177182181635198837501090363261365518762853005409017955925411738520419812118434398367638702227631196843142337947257616979036529185117117752387878645010372292685999789897245025) (rEq_at 75 fk_372)
  refine z_callVi ok old dL_texts_505 [] (zM_eq (r := nI 75) (c_X2_type G 47 hN hg w104 (nI 97)) a105) zy_X2_type zw_482 0 (by omega) (zE_0 G _) rfl rfl rfl rfl rfl (by decide) (Nat.le_of_ble_eq_true rfl) ?_
  refine z_iload_n ok dL_texts_508 0 rfl ?_
  refine z_icmp_eq ok dL_texts_509 514 (by decide) (fun _ => ?_) (fun q => absurd q (by decide))
  refine z_iinc ok dL_texts_514 (hI 3 (by decide)) 0 rfl (y := nI 76) (by decide) (lv' := [(3, .int (nI 76)), (1, .long (stO (rT tb_0))), (0, .ref (zad G 0))]) rfl ?_
  refine z_goto ok dL_texts_517 496 (by decide) ?_
  refine z_iload_n ok dL_texts_496 0 rfl ?_
  refine z_bipush ok dL_texts_497 (x := nI 80) (by decide) ?_
  refine z_icmp_gt ok dL_texts_499 520 (by decide) (fun q => absurd q (by decide)) (fun _ => ?_)
  refine z_aload_n ok dL_texts_502 2 rfl ?_
  refine z_bipush ok dL_texts_503 (x := nI 97) (by decide) ?_
  obtain ⟨w106, a106, h106⟩ := Q_type h105 (n := 75) (by decide) (by decide) (by decide) (T' := tT 404081453358638498610902400279132994909572803290369384708596716905405061227471902319205982115507770273586391844438514497949946633351471389982144611296933122655306927615946213694726497) (rEq_at 76 fk_373)
  refine z_callVi ok old dL_texts_505 [] (zM_eq (r := nI 76) (c_X2_type G 47 hN hg w105 (nI 97)) a106) zy_X2_type zw_482 0 (by omega) (zE_0 G _) rfl rfl rfl rfl rfl (by decide) (Nat.le_of_ble_eq_true rfl) ?_
  refine z_iload_n ok dL_texts_508 0 rfl ?_
  refine z_icmp_eq ok dL_texts_509 514 (by decide) (fun _ => ?_) (fun q => absurd q (by decide))
  refine z_iinc ok dL_texts_514 (hI 3 (by decide)) 0 rfl (y := nI 77) (by decide) (lv' := [(3, .int (nI 77)), (1, .long (stO (rT tb_0))), (0, .ref (zad G 0))]) rfl ?_
  refine z_goto ok dL_texts_517 496 (by decide) ?_
  refine z_iload_n ok dL_texts_496 0 rfl ?_
  refine z_bipush ok dL_texts_497 (x := nI 80) (by decide) ?_
  refine z_icmp_gt ok dL_texts_499 520 (by decide) (fun q => absurd q (by decide)) (fun _ => ?_)
  refine z_aload_n ok dL_texts_502 2 rfl ?_
  refine z_bipush ok dL_texts_503 (x := nI 97) (by decide) ?_
  obtain ⟨w107, a107, h107⟩ := Q_type h106 (n := 76) (by decide) (by decide) (by decide) (T' := tT 103444852059811455644391014471458046696850637642334562485400759527783695674232806993716731421569989190038116312176259711475186338137976675835429020492014879399758573469682230705849983329) (rEq_at 77 fk_374)
  refine z_callVi ok old dL_texts_505 [] (zM_eq (r := nI 77) (c_X2_type G 47 hN hg w106 (nI 97)) a107) zy_X2_type zw_482 0 (by omega) (zE_0 G _) rfl rfl rfl rfl rfl (by decide) (Nat.le_of_ble_eq_true rfl) ?_
  refine z_iload_n ok dL_texts_508 0 rfl ?_
  refine z_icmp_eq ok dL_texts_509 514 (by decide) (fun _ => ?_) (fun q => absurd q (by decide))
  refine z_iinc ok dL_texts_514 (hI 3 (by decide)) 0 rfl (y := nI 78) (by decide) (lv' := [(3, .int (nI 78)), (1, .long (stO (rT tb_0))), (0, .ref (zad G 0))]) rfl ?_
  refine z_goto ok dL_texts_517 496 (by decide) ?_
  refine z_iload_n ok dL_texts_496 0 rfl ?_
  refine z_bipush ok dL_texts_497 (x := nI 80) (by decide) ?_
  refine z_icmp_gt ok dL_texts_499 520 (by decide) (fun q => absurd q (by decide)) (fun _ => ?_)
  refine z_aload_n ok dL_texts_502 2 rfl ?_
  refine z_bipush ok dL_texts_503 (x := nI 97) (by decide) ?_
  obtain ⟨w108, a108, h108⟩ := Q_type h107 (n := 77) (by decide) (by decide) (by decide) (T' := tT 26481882127311732644964099704693259954393763236437647996262594439112626092603598590391483243921917232649757775917122486137647702563322029013869829245955809126338194808238651060697595732321) (rEq_at 78 fk_375)
  refine z_callVi ok old dL_texts_505 [] (zM_eq (r := nI 78) (c_X2_type G 47 hN hg w107 (nI 97)) a108) zy_X2_type zw_482 0 (by omega) (zE_0 G _) rfl rfl rfl rfl rfl (by decide) (Nat.le_of_ble_eq_true rfl) ?_
  refine z_iload_n ok dL_texts_508 0 rfl ?_
  refine z_icmp_eq ok dL_texts_509 514 (by decide) (fun _ => ?_) (fun q => absurd q (by decide))
  refine z_iinc ok dL_texts_514 (hI 3 (by decide)) 0 rfl (y := nI 79) (by decide) (lv' := [(3, .int (nI 79)), (1, .long (stO (rT tb_0))), (0, .ref (zad G 0))]) rfl ?_
  refine z_goto ok dL_texts_517 496 (by decide) ?_
  refine z_iload_n ok dL_texts_496 0 rfl ?_
  refine z_bipush ok dL_texts_497 (x := nI 80) (by decide) ?_
  refine z_icmp_gt ok dL_texts_499 520 (by decide) (fun q => absurd q (by decide)) (fun _ => ?_)
  refine z_aload_n ok dL_texts_502 2 rfl ?_
  refine z_bipush ok dL_texts_503 (x := nI 97) (by decide) ?_
  obtain ⟨w109, a109, h109⟩ := Q_type h108 (n := 78) (by decide) (by decide) (by decide) (T' := tT 6779361824591803557110809524401474548324803388528037887043224176412832279706521239140219710444010811558337990634783356451237811856210439427550676286964687136342577870909094671538584507474273) (rEq_at 79 fk_376)
  refine z_callVi ok old dL_texts_505 [] (zM_eq (r := nI 79) (c_X2_type G 47 hN hg w108 (nI 97)) a109) zy_X2_type zw_482 0 (by omega) (zE_0 G _) rfl rfl rfl rfl rfl (by decide) (Nat.le_of_ble_eq_true rfl) ?_
  refine z_iload_n ok dL_texts_508 0 rfl ?_
  refine z_icmp_eq ok dL_texts_509 514 (by decide) (fun _ => ?_) (fun q => absurd q (by decide))
  refine z_iinc ok dL_texts_514 (hI 3 (by decide)) 0 rfl (y := nI 80) (by decide) (lv' := [(3, .int (nI 80)), (1, .long (stO (rT tb_0))), (0, .ref (zad G 0))]) rfl ?_
  refine z_goto ok dL_texts_517 496 (by decide) ?_
  refine z_iload_n ok dL_texts_496 0 rfl ?_
  refine z_bipush ok dL_texts_497 (x := nI 80) (by decide) ?_
  refine z_icmp_gt ok dL_texts_499 520 (by decide) (fun q => absurd q (by decide)) (fun _ => ?_)
  refine z_aload_n ok dL_texts_502 2 rfl ?_
  refine z_bipush ok dL_texts_503 (x := nI 97) (by decide) ?_
  obtain ⟨w110, a110, h110⟩ := Q_type h109 (n := 79) (by decide) (by decide) (by decide) (T' := tT 1735516627095501710620367238246777484371149667463177699083065389161685063604869437219896245873666767758934525602504539251516879835189872493452973129462959906903699934952728235913877633913413985) (rEq_at 80 fk_377)
  refine z_callVi ok old dL_texts_505 [] (zM_eq (r := nI 80) (c_X2_type G 47 hN hg w109 (nI 97)) a110) zy_X2_type zw_482 0 (by omega) (zE_0 G _) rfl rfl rfl rfl rfl (by decide) (Nat.le_of_ble_eq_true rfl) ?_
  refine z_iload_n ok dL_texts_508 0 rfl ?_
  refine z_icmp_eq ok dL_texts_509 514 (by decide) (fun _ => ?_) (fun q => absurd q (by decide))
  refine z_iinc ok dL_texts_514 (hI 3 (by decide)) 0 rfl (y := nI 81) (by decide) (lv' := [(3, .int (nI 81)), (1, .long (stO (rT tb_0))), (0, .ref (zad G 0))]) rfl ?_
  refine z_goto ok dL_texts_517 496 (by decide) ?_
  refine z_iload_n ok dL_texts_496 0 rfl ?_
  refine z_bipush ok dL_texts_497 (x := nI 80) (by decide) ?_
  refine z_icmp_gt ok dL_texts_499 520 (by decide) (fun _ => ?_) (fun q => absurd q (by decide))
  refine z_aload_n ok dL_texts_520 2 rfl ?_
  refine z_bipush ok dL_texts_521 (x := nI 97) (by decide) ?_
  refine z_callVi ok old dL_texts_523 [] (zM_eq (r := (-3)) (c_X2_type G 47 hN hg w110 (nI 97)) (Q_type_full h110 (by decide) (by decide) rfl)) zy_X2_type zw_482 0 (by omega) (zE_0 G _) rfl rfl rfl rfl rfl (by decide) (Nat.le_of_ble_eq_true rfl) ?_
  refine z_bipush ok dL_texts_526 (x := (-3)) (by decide) ?_
  refine z_icmp_ne ok dL_texts_528 571 (by decide) (fun q => absurd q (by decide)) (fun _ => ?_)
  refine z_aload_n ok dL_texts_531 2 rfl ?_
  refine z_bipush ok dL_texts_532 (x := nI 31) (by decide) ?_
  refine z_callVi ok old dL_texts_534 [] (zM_eq (r := (-1)) (c_X2_type G 47 hN hg w110 (nI 31)) (K_type_bad _ (Or.inl (by decide)))) zy_X2_type zw_482 0 (by omega) (zE_0 G _) rfl rfl rfl rfl rfl (by decide) (Nat.le_of_ble_eq_true rfl) ?_
  refine z_iconst ok dL_texts_537 (x := (-1)) (by decide) ?_
  refine z_icmp_ne ok dL_texts_538 571 (by decide) (fun q => absurd q (by decide)) (fun _ => ?_)
  refine z_aload_n ok dL_texts_541 2 rfl ?_
  refine z_iconst ok dL_texts_542 (x := nI 0) (by decide) ?_
  obtain ⟨w111, a111, h111⟩ := Q_fault h110 (f := 0) (by decide) fk_378
  refine z_callVi ok old dL_texts_543 [] (zM_eq (r := nI 0) (c_X2_fault G 47 hN hg w110 (nI 0)) a111) zy_X2_fault zw_462 0 (by omega) (zE_0 G _) rfl rfl rfl rfl rfl (by decide) (Nat.le_of_ble_eq_true rfl) ?_
  refine z_if_ne ok dL_texts_546 571 (by decide) (fun q => absurd q (by decide)) (fun _ => ?_)
  refine z_aload_n ok dL_texts_549 2 rfl ?_
  refine z_iconst ok dL_texts_550 (x := nI 1) (by decide) ?_
  obtain ⟨w112, a112, h112⟩ := Q_fault h111 (f := 1) (by decide) fk_379
  refine z_callVi ok old dL_texts_551 [] (zM_eq (r := nI 1) (c_X2_fault G 47 hN hg w111 (nI 1)) a112) zy_X2_fault zw_462 0 (by omega) (zE_0 G _) rfl rfl rfl rfl rfl (by decide) (Nat.le_of_ble_eq_true rfl) ?_
  refine z_iconst ok dL_texts_554 (x := nI 1) (by decide) ?_
  refine z_icmp_ne ok dL_texts_555 571 (by decide) (fun q => absurd q (by decide)) (fun _ => ?_)
  refine z_aload_n ok dL_texts_558 2 rfl ?_
  obtain ⟨w113, a113, h113⟩ := Q_clear0 h112
  refine z_callVi ok old dL_texts_559 [] (zM_eq (r := nI 80) (c_X2_clearText G 47 hN hg w112) a113) zy_X2_clearText zw_501 0 (by omega) (zE_0 G _) rfl rfl rfl rfl rfl (by decide) (Nat.le_of_ble_eq_true rfl) ?_
  refine z_bipush ok dL_texts_562 (x := nI 80) (by decide) ?_
  refine z_icmp_ne ok dL_texts_564 571 (by decide) (fun q => absurd q (by decide)) (fun _ => ?_)
  refine z_iconst ok dL_texts_567 (x := nI 1) (by decide) ?_
  refine z_goto ok dL_texts_568 572 (by decide) ?_
  exact fin _ _
theorem t_L_texts (E : yD) : zT yL_texts cL_texts 4 9 218 (0 + 1 + 46) (0 + 8 + 1298) E := by
  refine zT_of zy_L_texts.2.2.2.2.2.2 (by decide) (fun k ok hE hO hI => ?_)
  refine y_made ok hO (fun i hi => hI i (by omega)) dL_texts_0 zw_54 dL_texts_3 dL_texts_4 zw_56 dL_texts_7 ⟨by omega, by omega⟩ (fun G k' hg hk ok' old' => ?_)
  have hI' : ∀ i, i < 4 → zIn k' i := by
    subst hk
    obtain ⟨p, l, e, R, s, m, args, below, meth, c0, Q, A, nL, c1, s1⟩ := k
    exact hI
  exact walk_texts hg ok' old' hI' w01_Q (fun w lv => z_iretT hE hk ok' dL_texts_572 rfl)
