/-! the law's begins -/
set_option maxRecDepth 100000 in
set_option maxHeartbeats 8000000 in
theorem walk_begins {k : zC} {G : zG} (hg : zGeo G 47) (ok : zOk k G 47 cL_begins RL 9 217) (old : zOld k G 47) (hI : ∀ i, i < 1 → zIn k i) {w : xW} {H : Nat → Int32} (h : zQ w (rT tb_0) 0 0 (tT 0) H) (fin : ∀ w lv, zZ k G 47 w 787 lv [.int (nI 1)]) : zZ k G 47 w 8 [(0, .ref (zad G 0))] [] := by
  have hN : 47 ≤ 47 := Nat.le_refl 47
  refine z_aload_n ok dL_begins_8 0 rfl ?_
  obtain ⟨A_r, h_A, -⟩ := id h
  refine z_callSi ok old dL_begins_9 [] (c_L_refused hN hg h_A) zy_L_refused zw_425 rfl rfl (by decide) (Nat.le_of_ble_eq_true rfl) ?_
  refine z_if_eq ok dL_begins_12 197 (by decide) (fun q => absurd q (by decide)) (fun _ => ?_)
  refine z_aload_n ok dL_begins_15 0 rfl ?_
  refine z_callVi ok old dL_begins_16 [] (zM_eq (r := (-2)) (c_X2_undo G 47 hN hg w) (Q_undo0 h)) zy_X2_undo zw_308 0 (by omega) (zE_0 G _) rfl rfl rfl rfl rfl (by decide) (Nat.le_of_ble_eq_true rfl) ?_
  refine z_bipush ok dL_begins_19 (x := (-2)) (by decide) ?_
  refine z_icmp_ne ok dL_begins_21 197 (by decide) (fun q => absurd q (by decide)) (fun _ => ?_)
  refine z_aload_n ok dL_begins_24 0 rfl ?_
  refine z_bipush ok dL_begins_25 (x := nI 6) (by decide) ?_
  refine z_callVi ok old dL_begins_27 [] (zM_eq1 (r := nI 48) (c_X2_count G 47 hN hg w (nI 6)) (Q_count h fk_10)) zy_X2_count zw_292 0 (by omega) (zE_0 G _) rfl rfl rfl rfl rfl (by decide) (Nat.le_of_ble_eq_true rfl) ?_
  refine z_bipush ok dL_begins_30 (x := nI 48) (by decide) ?_
  refine z_icmp_ne ok dL_begins_32 197 (by decide) (fun q => absurd q (by decide)) (fun _ => ?_)
  refine z_aload_n ok dL_begins_35 0 rfl ?_
  refine z_bipush ok dL_begins_36 (x := nI 7) (by decide) ?_
  refine z_callVi ok old dL_begins_38 [] (zM_eq1 (r := nI 48) (c_X2_count G 47 hN hg w (nI 7)) (Q_count h fk_11)) zy_X2_count zw_292 0 (by omega) (zE_0 G _) rfl rfl rfl rfl rfl (by decide) (Nat.le_of_ble_eq_true rfl) ?_
  refine z_bipush ok dL_begins_41 (x := nI 48) (by decide) ?_
  refine z_icmp_ne ok dL_begins_43 197 (by decide) (fun q => absurd q (by decide)) (fun _ => ?_)
  refine z_aload_n ok dL_begins_46 0 rfl ?_
  refine z_bipush ok dL_begins_47 (x := nI 20) (by decide) ?_
  refine z_callVi ok old dL_begins_49 [] (zM_eq1 (r := nI 96) (c_X2_count G 47 hN hg w (nI 20)) (Q_count h fk_12)) zy_X2_count zw_292 0 (by omega) (zE_0 G _) rfl rfl rfl rfl rfl (by decide) (Nat.le_of_ble_eq_true rfl) ?_
  refine z_bipush ok dL_begins_52 (x := nI 96) (by decide) ?_
  refine z_icmp_ne ok dL_begins_54 197 (by decide) (fun q => absurd q (by decide)) (fun _ => ?_)
  refine z_aload_n ok dL_begins_57 0 rfl ?_
  refine z_bipush ok dL_begins_58 (x := nI 25) (by decide) ?_
  refine z_callVi ok old dL_begins_60 [] (zM_eq1 (r := nI 96) (c_X2_count G 47 hN hg w (nI 25)) (Q_count h fk_13)) zy_X2_count zw_292 0 (by omega) (zE_0 G _) rfl rfl rfl rfl rfl (by decide) (Nat.le_of_ble_eq_true rfl) ?_
  refine z_bipush ok dL_begins_63 (x := nI 96) (by decide) ?_
  refine z_icmp_ne ok dL_begins_65 197 (by decide) (fun q => absurd q (by decide)) (fun _ => ?_)
  refine z_aload_n ok dL_begins_68 0 rfl ?_
  refine z_iconst ok dL_begins_69 (x := nI 4) (by decide) ?_
  refine z_callVi ok old dL_begins_70 [] (zM_eq1 (r := nI 24) (c_X2_count G 47 hN hg w (nI 4)) (Q_count h fk_14)) zy_X2_count zw_292 0 (by omega) (zE_0 G _) rfl rfl rfl rfl rfl (by decide) (Nat.le_of_ble_eq_true rfl) ?_
  refine z_bipush ok dL_begins_73 (x := nI 24) (by decide) ?_
  refine z_icmp_ne ok dL_begins_75 197 (by decide) (fun q => absurd q (by decide)) (fun _ => ?_)
  refine z_aload_n ok dL_begins_78 0 rfl ?_
  refine z_iconst ok dL_begins_79 (x := nI 5) (by decide) ?_
  refine z_callVi ok old dL_begins_80 [] (zM_eq1 (r := nI 6) (c_X2_count G 47 hN hg w (nI 5)) (Q_count h fk_15)) zy_X2_count zw_292 0 (by omega) (zE_0 G _) rfl rfl rfl rfl rfl (by decide) (Nat.le_of_ble_eq_true rfl) ?_
  refine z_bipush ok dL_begins_83 (x := nI 6) (by decide) ?_
  refine z_icmp_ne ok dL_begins_85 197 (by decide) (fun q => absurd q (by decide)) (fun _ => ?_)
  refine z_aload_n ok dL_begins_88 0 rfl ?_
  refine z_iconst ok dL_begins_89 (x := nI 0) (by decide) ?_
  refine z_callVi ok old dL_begins_90 [] (zM_eq1 (r := nI 10) (c_X2_moves G 47 hN hg w (nI 0)) (Q_moves h (by decide) fk_16 rfl)) zy_X2_moves zw_388 0 (by omega) (zE_0 G _) rfl rfl rfl rfl rfl (by decide) (Nat.le_of_ble_eq_true rfl) ?_
  refine z_bipush ok dL_begins_93 (x := nI 10) (by decide) ?_
  refine z_icmp_ne ok dL_begins_95 197 (by decide) (fun q => absurd q (by decide)) (fun _ => ?_)
  refine z_aload_n ok dL_begins_98 0 rfl ?_
  refine z_iconst ok dL_begins_99 (x := nI 1) (by decide) ?_
  refine z_callVi ok old dL_begins_100 [] (zM_eq1 (r := nI 10) (c_X2_moves G 47 hN hg w (nI 1)) (Q_moves h (by decide) fk_17 rfl)) zy_X2_moves zw_388 0 (by omega) (zE_0 G _) rfl rfl rfl rfl rfl (by decide) (Nat.le_of_ble_eq_true rfl) ?_
  refine z_bipush ok dL_begins_103 (x := nI 10) (by decide) ?_
  refine z_icmp_ne ok dL_begins_105 197 (by decide) (fun q => absurd q (by decide)) (fun _ => ?_)
  refine z_aload_n ok dL_begins_108 0 rfl ?_
  refine z_iconst ok dL_begins_109 (x := nI 0) (by decide) ?_
  refine z_iconst ok dL_begins_110 (x := nI 0) (by decide) ?_
  refine z_callVi ok old dL_begins_111 [] (zM_eq1 (r := nI 48) (c_X2_listed G 47 hN hg w (nI 0) (nI 0)) (Q_listed h (c := 0) (by decide) (by decide) fk_16 (by decide))) zy_X2_listed zw_393 0 (by omega) (zE_0 G _) rfl rfl rfl rfl rfl (by decide) (Nat.le_of_ble_eq_true rfl) ?_
  refine z_bipush ok dL_begins_114 (x := nI 48) (by decide) ?_
  refine z_icmp_ne ok dL_begins_116 197 (by decide) (fun q => absurd q (by decide)) (fun _ => ?_)
  refine z_aload_n ok dL_begins_119 0 rfl ?_
  refine z_iconst ok dL_begins_120 (x := nI 0) (by decide) ?_
  refine z_iconst ok dL_begins_121 (x := nI 1) (by decide) ?_
  refine z_callVi ok old dL_begins_122 [] (zM_eq1 (r := nI 50) (c_X2_listed G 47 hN hg w (nI 0) (nI 1)) (Q_listed h (c := 1) (by decide) (by decide) fk_16 (by decide))) zy_X2_listed zw_393 0 (by omega) (zE_0 G _) rfl rfl rfl rfl rfl (by decide) (Nat.le_of_ble_eq_true rfl) ?_
  refine z_bipush ok dL_begins_125 (x := nI 50) (by decide) ?_
  refine z_icmp_ne ok dL_begins_127 197 (by decide) (fun q => absurd q (by decide)) (fun _ => ?_)
  refine z_aload_n ok dL_begins_130 0 rfl ?_
  refine z_iconst ok dL_begins_131 (x := nI 0) (by decide) ?_
  refine z_iconst ok dL_begins_132 (x := nI 2) (by decide) ?_
  refine z_callVi ok old dL_begins_133 [] (zM_eq1 (r := nI 159) (c_X2_listed G 47 hN hg w (nI 0) (nI 2)) (Q_listed h (c := 2) (by decide) (by decide) fk_16 (by decide))) zy_X2_listed zw_393 0 (by omega) (zE_0 G _) rfl rfl rfl rfl rfl (by decide) (Nat.le_of_ble_eq_true rfl) ?_
  refine z_sipush ok dL_begins_136 (x := nI 159) (by decide) ?_
  refine z_icmp_ne ok dL_begins_139 197 (by decide) (fun q => absurd q (by decide)) (fun _ => ?_)
  refine z_aload_n ok dL_begins_142 0 rfl ?_
  refine z_iconst ok dL_begins_143 (x := nI 0) (by decide) ?_
  refine z_iconst ok dL_begins_144 (x := nI 3) (by decide) ?_
  refine z_callVi ok old dL_begins_145 [] (zM_eq1 (r := nI 161) (c_X2_listed G 47 hN hg w (nI 0) (nI 3)) (Q_listed h (c := 3) (by decide) (by decide) fk_16 (by decide))) zy_X2_listed zw_393 0 (by omega) (zE_0 G _) rfl rfl rfl rfl rfl (by decide) (Nat.le_of_ble_eq_true rfl) ?_
  refine z_sipush ok dL_begins_148 (x := nI 161) (by decide) ?_
  refine z_icmp_ne ok dL_begins_151 197 (by decide) (fun q => absurd q (by decide)) (fun _ => ?_)
  refine z_aload_n ok dL_begins_154 0 rfl ?_
  refine z_iconst ok dL_begins_155 (x := nI 0) (by decide) ?_
  refine z_iconst ok dL_begins_156 (x := nI 4) (by decide) ?_
  refine z_callVi ok old dL_begins_157 [] (zM_eq1 (r := nI 228) (c_X2_listed G 47 hN hg w (nI 0) (nI 4)) (Q_listed h (c := 4) (by decide) (by decide) fk_16 (by decide))) zy_X2_listed zw_393 0 (by omega) (zE_0 G _) rfl rfl rfl rfl rfl (by decide) (Nat.le_of_ble_eq_true rfl) ?_
  refine z_sipush ok dL_begins_160 (x := nI 228) (by decide +kernel) ?_
  refine z_icmp_ne ok dL_begins_163 197 (by decide) (fun q => absurd q (by decide)) (fun _ => ?_)
  refine z_aload_n ok dL_begins_166 0 rfl ?_
  refine z_iconst ok dL_begins_167 (x := nI 0) (by decide) ?_
  refine z_bipush ok dL_begins_168 (x := nI 10) (by decide) ?_
  refine z_callVi ok old dL_begins_170 [] (zM_eq1 (r := (-4)) (c_X2_listed G 47 hN hg w (nI 0) (nI 10)) (Q_listed h (c := 10) (by decide) (by decide) fk_16 (by decide))) zy_X2_listed zw_393 0 (by omega) (zE_0 G _) rfl rfl rfl rfl rfl (by decide) (Nat.le_of_ble_eq_true rfl) ?_
  refine z_bipush ok dL_begins_173 (x := (-4)) (by decide) ?_
  refine z_icmp_ne ok dL_begins_175 197 (by decide) (fun q => absurd q (by decide)) (fun _ => ?_)
  refine z_aload_n ok dL_begins_178 0 rfl ?_
  obtain ⟨w1, a1, h1⟩ := Q_replies h (q_list (Q_inv h) fk_18 fk_19 fk_16) fk_50
  refine z_callVi ok old dL_begins_179 [] (zM_eq (r := nI 100) (c_X2_replies G 47 hN hg w) a1) zy_X2_replies zw_536 0 (by omega) (zE_0 G _) rfl rfl rfl rfl rfl (by decide) (Nat.le_of_ble_eq_true rfl) ?_
  refine z_bipush ok dL_begins_182 (x := nI 100) (by decide) ?_
  refine z_icmp_ne ok dL_begins_184 197 (by decide) (fun q => absurd q (by decide)) (fun _ => ?_)
  refine z_aload_n ok dL_begins_187 0 rfl ?_
  obtain ⟨w2, a2, h2⟩ := Q_best h1 (q_list (Q_inv h1) fk_18 fk_19 fk_16) fk_51
  refine z_callVi ok old dL_begins_188 [] (zM_eq (r := nI 228) (c_X2_best G 47 hN hg w1) a2) zy_X2_best zw_544 0 (by omega) (zE_0 G _) rfl rfl rfl rfl rfl (by decide) (Nat.le_of_ble_eq_true rfl) ?_
  refine z_sipush ok dL_begins_191 (x := nI 228) (by decide +kernel) ?_
  refine z_icmp_eq ok dL_begins_194 199 (by decide) (fun _ => ?_) (fun q => absurd q (by decide))
  refine z_aload_n ok dL_begins_199 0 rfl ?_
  refine z_bipush ok dL_begins_200 (x := nI 6) (by decide) ?_
  refine z_bipush ok dL_begins_202 (x := nI 12) (by decide) ?_
  refine z_callVi ok old dL_begins_204 [] (zM_eq1 (r := nI 0) (c_X2_refusal G 47 hN hg w2 (nI 6) (nI 12)) (Q_refusal h2 (f := 6) (t := 12) (by decide) (by decide) fk_52)) zy_X2_refusal zw_428 0 (by omega) (zE_0 G _) rfl rfl rfl rfl rfl (by decide) (Nat.le_of_ble_eq_true rfl) ?_
  refine z_if_ne ok dL_begins_207 439 (by decide) (fun q => absurd q (by decide)) (fun _ => ?_)
  refine z_aload_n ok dL_begins_210 0 rfl ?_
  refine z_bipush ok dL_begins_211 (x := nI 12) (by decide) ?_
  refine z_bipush ok dL_begins_213 (x := nI 18) (by decide) ?_
  refine z_callVi ok old dL_begins_215 [] (zM_eq1 (r := nI 3) (c_X2_refusal G 47 hN hg w2 (nI 12) (nI 18)) (Q_refusal h2 (f := 12) (t := 18) (by decide) (by decide) fk_53)) zy_X2_refusal zw_428 0 (by omega) (zE_0 G _) rfl rfl rfl rfl rfl (by decide) (Nat.le_of_ble_eq_true rfl) ?_
  refine z_iconst ok dL_begins_218 (x := nI 3) (by decide) ?_
  refine z_icmp_ne ok dL_begins_219 439 (by decide) (fun q => absurd q (by decide)) (fun _ => ?_)
  refine z_aload_n ok dL_begins_222 0 rfl ?_
  refine z_bipush ok dL_begins_223 (x := nI 24) (by decide) ?_
  refine z_bipush ok dL_begins_225 (x := nI 18) (by decide) ?_
  refine z_callVi ok old dL_begins_227 [] (zM_eq1 (r := nI 4) (c_X2_refusal G 47 hN hg w2 (nI 24) (nI 18)) (Q_refusal h2 (f := 24) (t := 18) (by decide) (by decide) fk_54)) zy_X2_refusal zw_428 0 (by omega) (zE_0 G _) rfl rfl rfl rfl rfl (by decide) (Nat.le_of_ble_eq_true rfl) ?_
  refine z_iconst ok dL_begins_230 (x := nI 4) (by decide) ?_
  refine z_icmp_ne ok dL_begins_231 439 (by decide) (fun q => absurd q (by decide)) (fun _ => ?_)
  refine z_aload_n ok dL_begins_234 0 rfl ?_
  refine z_iconst ok dL_begins_235 (x := nI 0) (by decide) ?_
  refine z_bipush ok dL_begins_236 (x := nI 6) (by decide) ?_
  refine z_callVi ok old dL_begins_238 [] (zM_eq1 (r := nI 5) (c_X2_refusal G 47 hN hg w2 (nI 0) (nI 6)) (Q_refusal h2 (f := 0) (t := 6) (by decide) (by decide) fk_55)) zy_X2_refusal zw_428 0 (by omega) (zE_0 G _) rfl rfl rfl rfl rfl (by decide) (Nat.le_of_ble_eq_true rfl) ?_
  refine z_iconst ok dL_begins_241 (x := nI 5) (by decide) ?_
  refine z_icmp_ne ok dL_begins_242 439 (by decide) (fun q => absurd q (by decide)) (fun _ => ?_)
  refine z_aload_n ok dL_begins_245 0 rfl ?_
  refine z_iconst ok dL_begins_246 (x := nI 0) (by decide) ?_
  refine z_iconst ok dL_begins_247 (x := nI 0) (by decide) ?_
  refine z_callVi ok old dL_begins_248 [] (zM_eq1 (r := nI 5) (c_X2_refusal G 47 hN hg w2 (nI 0) (nI 0)) (Q_refusal h2 (f := 0) (t := 0) (by decide) (by decide) fk_56)) zy_X2_refusal zw_428 0 (by omega) (zE_0 G _) rfl rfl rfl rfl rfl (by decide) (Nat.le_of_ble_eq_true rfl) ?_
  refine z_iconst ok dL_begins_251 (x := nI 5) (by decide) ?_
  refine z_icmp_ne ok dL_begins_252 439 (by decide) (fun q => absurd q (by decide)) (fun _ => ?_)
  refine z_aload_n ok dL_begins_255 0 rfl ?_
  refine z_bipush ok dL_begins_256 (x := nI 6) (by decide) ?_
  refine z_bipush ok dL_begins_258 (x := nI 18) (by decide) ?_
  refine z_callVi ok old dL_begins_260 [] (zM_eq1 (r := nI 6) (c_X2_refusal G 47 hN hg w2 (nI 6) (nI 18)) (Q_refusal h2 (f := 6) (t := 18) (by decide) (by decide) fk_57)) zy_X2_refusal zw_428 0 (by omega) (zE_0 G _) rfl rfl rfl rfl rfl (by decide) (Nat.le_of_ble_eq_true rfl) ?_
  refine z_bipush ok dL_begins_263 (x := nI 6) (by decide) ?_
  refine z_icmp_ne ok dL_begins_265 439 (by decide) (fun q => absurd q (by decide)) (fun _ => ?_)
  refine z_aload_n ok dL_begins_268 0 rfl ?_
  refine z_bipush ok dL_begins_269 (x := nI 6) (by decide) ?_
  refine z_bipush ok dL_begins_271 (x := nI 12) (by decide) ?_
  refine z_callVi ok old dL_begins_273 [] (zM_eq1 (r := nI 1) (c_X2_cost G 47 hN hg w2 (nI 6) (nI 12)) (Q_cost h2 (f := 6) (t := 12) (by decide) (by decide) fk_58)) zy_X2_cost zw_432 0 (by omega) (zE_0 G _) rfl rfl rfl rfl rfl (by decide) (Nat.le_of_ble_eq_true rfl) ?_
  refine z_iconst ok dL_begins_276 (x := nI 1) (by decide) ?_
  refine z_icmp_ne ok dL_begins_277 439 (by decide) (fun q => absurd q (by decide)) (fun _ => ?_)
  refine z_aload_n ok dL_begins_280 0 rfl ?_
  refine z_iconst ok dL_begins_281 (x := nI 1) (by decide) ?_
  refine z_bipush ok dL_begins_282 (x := nI 12) (by decide) ?_
  refine z_callVi ok old dL_begins_284 [] (zM_eq1 (r := nI 2) (c_X2_cost G 47 hN hg w2 (nI 1) (nI 12)) (Q_cost h2 (f := 1) (t := 12) (by decide) (by decide) fk_59)) zy_X2_cost zw_432 0 (by omega) (zE_0 G _) rfl rfl rfl rfl rfl (by decide) (Nat.le_of_ble_eq_true rfl) ?_
  refine z_iconst ok dL_begins_287 (x := nI 2) (by decide) ?_
  refine z_icmp_ne ok dL_begins_288 439 (by decide) (fun q => absurd q (by decide)) (fun _ => ?_)
  refine z_aload_n ok dL_begins_291 0 rfl ?_
  refine z_bipush ok dL_begins_292 (x := nI 6) (by decide) ?_
  refine z_bipush ok dL_begins_294 (x := nI 18) (by decide) ?_
  refine z_callVi ok old dL_begins_296 [] (zM_eq1 (r := (-4)) (c_X2_cost G 47 hN hg w2 (nI 6) (nI 18)) (Q_cost h2 (f := 6) (t := 18) (by decide) (by decide) fk_60)) zy_X2_cost zw_432 0 (by omega) (zE_0 G _) rfl rfl rfl rfl rfl (by decide) (Nat.le_of_ble_eq_true rfl) ?_
  refine z_bipush ok dL_begins_299 (x := (-4)) (by decide) ?_
  refine z_icmp_ne ok dL_begins_301 439 (by decide) (fun q => absurd q (by decide)) (fun _ => ?_)
  refine z_aload_n ok dL_begins_304 0 rfl ?_
  refine z_bipush ok dL_begins_305 (x := nI 12) (by decide) ?_
  refine z_bipush ok dL_begins_307 (x := nI 18) (by decide) ?_
  refine z_callVi ok old dL_begins_309 [] (zM_eq1 (r := (-4)) (c_X2_cost G 47 hN hg w2 (nI 12) (nI 18)) (Q_cost h2 (f := 12) (t := 18) (by decide) (by decide) fk_61)) zy_X2_cost zw_432 0 (by omega) (zE_0 G _) rfl rfl rfl rfl rfl (by decide) (Nat.le_of_ble_eq_true rfl) ?_
  refine z_bipush ok dL_begins_312 (x := (-4)) (by decide) ?_
  refine z_icmp_ne ok dL_begins_314 439 (by decide) (fun q => absurd q (by decide)) (fun _ => ?_)
  refine z_aload_n ok dL_begins_317 0 rfl ?_
  refine z_iconst ok dL_begins_318 (x := nI 0) (by decide) ?_
  refine z_iconst ok dL_begins_319 (x := nI 0) (by decide) ?_
  refine z_callVi ok old dL_begins_320 [] (zM_eq1 (r := (-4)) (c_X2_cost G 47 hN hg w2 (nI 0) (nI 0)) (Q_cost h2 (f := 0) (t := 0) (by decide) (by decide) fk_62)) zy_X2_cost zw_432 0 (by omega) (zE_0 G _) rfl rfl rfl rfl rfl (by decide) (Nat.le_of_ble_eq_true rfl) ?_
  refine z_bipush ok dL_begins_323 (x := (-4)) (by decide) ?_
  refine z_icmp_ne ok dL_begins_325 439 (by decide) (fun q => absurd q (by decide)) (fun _ => ?_)
  refine z_aload_n ok dL_begins_328 0 rfl ?_
  refine z_bipush ok dL_begins_329 (x := nI 25) (by decide) ?_
  refine z_bipush ok dL_begins_331 (x := nI 19) (by decide) ?_
  refine z_callVi ok old dL_begins_333 [] (zM_eq1 (r := nI 1) (c_X2_cost G 47 hN hg w2 (nI 25) (nI 19)) (Q_cost h2 (f := 25) (t := 19) (by decide) (by decide) fk_63)) zy_X2_cost zw_432 0 (by omega) (zE_0 G _) rfl rfl rfl rfl rfl (by decide) (Nat.le_of_ble_eq_true rfl) ?_
  refine z_iconst ok dL_begins_336 (x := nI 1) (by decide) ?_
  refine z_icmp_ne ok dL_begins_337 439 (by decide) (fun q => absurd q (by decide)) (fun _ => ?_)
  refine z_aload_n ok dL_begins_340 0 rfl ?_
  refine z_bipush ok dL_begins_341 (x := nI 12) (by decide) ?_
  refine z_iconst ok dL_begins_343 (x := nI 0) (by decide) ?_
  obtain ⟨w3, a3, h3⟩ := Q_struck h2 (c := 12) (s := nI 0) (by decide) (by decide) fk_64
  refine z_callVi ok old dL_begins_344 [] (zM_eq (r := nI 2) (c_X2_struck G 47 hN hg w2 (nI 12) (nI 0)) a3) zy_X2_struck zw_437 0 (by omega) (zE_0 G _) rfl rfl rfl rfl rfl (by decide) (Nat.le_of_ble_eq_true rfl) ?_
  refine z_iconst ok dL_begins_347 (x := nI 2) (by decide) ?_
  refine z_icmp_ne ok dL_begins_348 439 (by decide) (fun q => absurd q (by decide)) (fun _ => ?_)
  refine z_aload_n ok dL_begins_351 0 rfl ?_
  refine z_bipush ok dL_begins_352 (x := nI 14) (by decide) ?_
  refine z_iconst ok dL_begins_354 (x := nI 0) (by decide) ?_
  obtain ⟨w4, a4, h4⟩ := Q_struck h3 (c := 14) (s := nI 0) (by decide) (by decide) fk_65
  refine z_callVi ok old dL_begins_355 [] (zM_eq (r := nI 3) (c_X2_struck G 47 hN hg w3 (nI 14) (nI 0)) a4) zy_X2_struck zw_437 0 (by omega) (zE_0 G _) rfl rfl rfl rfl rfl (by decide) (Nat.le_of_ble_eq_true rfl) ?_
  refine z_iconst ok dL_begins_358 (x := nI 3) (by decide) ?_
  refine z_icmp_ne ok dL_begins_359 439 (by decide) (fun q => absurd q (by decide)) (fun _ => ?_)
  refine z_aload_n ok dL_begins_362 0 rfl ?_
  refine z_iconst ok dL_begins_363 (x := nI 1) (by decide) ?_
  refine z_iconst ok dL_begins_364 (x := nI 0) (by decide) ?_
  obtain ⟨w5, a5, h5⟩ := Q_reach h4 (c := 1) (f := 0) (by decide) (by decide) fk_66 fk_67
  refine z_callVi ok old dL_begins_365 [] (zM_eq (r := nI 1) (c_X2_reach G 47 hN hg w4 (nI 1) (nI 0)) a5) zy_X2_reach zw_443 0 (by omega) (zE_0 G _) rfl rfl rfl rfl rfl (by decide) (Nat.le_of_ble_eq_true rfl) ?_
  refine z_iconst ok dL_begins_368 (x := nI 1) (by decide) ?_
  refine z_icmp_ne ok dL_begins_369 439 (by decide) (fun q => absurd q (by decide)) (fun _ => ?_)
  refine z_aload_n ok dL_begins_372 0 rfl ?_
  refine z_iconst ok dL_begins_373 (x := nI 1) (by decide) ?_
  refine z_iconst ok dL_begins_374 (x := nI 1) (by decide) ?_
  obtain ⟨w6, a6, h6⟩ := Q_reach h5 (c := 1) (f := 1) (by decide) (by decide) fk_66 fk_68
  refine z_callVi ok old dL_begins_375 [] (zM_eq (r := nI 3) (c_X2_reach G 47 hN hg w5 (nI 1) (nI 1)) a6) zy_X2_reach zw_443 0 (by omega) (zE_0 G _) rfl rfl rfl rfl rfl (by decide) (Nat.le_of_ble_eq_true rfl) ?_
  refine z_iconst ok dL_begins_378 (x := nI 3) (by decide) ?_
  refine z_icmp_ne ok dL_begins_379 439 (by decide) (fun q => absurd q (by decide)) (fun _ => ?_)
  refine z_aload_n ok dL_begins_382 0 rfl ?_
  refine z_iconst ok dL_begins_383 (x := nI 1) (by decide) ?_
  refine z_iconst ok dL_begins_384 (x := nI 2) (by decide) ?_
  obtain ⟨w7, a7, h7⟩ := Q_reach h6 (c := 1) (f := 2) (by decide) (by decide) fk_66 fk_69
  refine z_callVi ok old dL_begins_385 [] (zM_eq (r := nI 6) (c_X2_reach G 47 hN hg w6 (nI 1) (nI 2)) a7) zy_X2_reach zw_443 0 (by omega) (zE_0 G _) rfl rfl rfl rfl rfl (by decide) (Nat.le_of_ble_eq_true rfl) ?_
  refine z_bipush ok dL_begins_388 (x := nI 6) (by decide) ?_
  refine z_icmp_ne ok dL_begins_390 439 (by decide) (fun q => absurd q (by decide)) (fun _ => ?_)
  refine z_aload_n ok dL_begins_393 0 rfl ?_
  refine z_iconst ok dL_begins_394 (x := nI 1) (by decide) ?_
  refine z_bipush ok dL_begins_395 (x := nI 12) (by decide) ?_
  obtain ⟨w8, a8, h8⟩ := Q_reach h7 (c := 1) (f := 12) (by decide) (by decide) fk_66 fk_70
  refine z_callVi ok old dL_begins_397 [] (zM_eq (r := nI 6) (c_X2_reach G 47 hN hg w7 (nI 1) (nI 12)) a8) zy_X2_reach zw_443 0 (by omega) (zE_0 G _) rfl rfl rfl rfl rfl (by decide) (Nat.le_of_ble_eq_true rfl) ?_
  refine z_bipush ok dL_begins_400 (x := nI 6) (by decide) ?_
  refine z_icmp_ne ok dL_begins_402 439 (by decide) (fun q => absurd q (by decide)) (fun _ => ?_)
  refine z_aload_n ok dL_begins_405 0 rfl ?_
  refine z_bipush ok dL_begins_406 (x := nI 12) (by decide) ?_
  refine z_iconst ok dL_begins_408 (x := nI 1) (by decide) ?_
  refine z_callVi ok old dL_begins_409 [] (zM_eq (r := (-4)) (c_X2_reach G 47 hN hg w8 (nI 12) (nI 1)) (Q_reach_none h8 (c := 12) (f := 1) (by decide) (by decide) fk_71)) zy_X2_reach zw_443 0 (by omega) (zE_0 G _) rfl rfl rfl rfl rfl (by decide) (Nat.le_of_ble_eq_true rfl) ?_
  refine z_bipush ok dL_begins_412 (x := (-4)) (by decide) ?_
  refine z_icmp_ne ok dL_begins_414 439 (by decide) (fun q => absurd q (by decide)) (fun _ => ?_)
  refine z_aload_n ok dL_begins_417 0 rfl ?_
  refine z_callVi ok old dL_begins_418 [] (zM_eq (r := (-2)) (c_X2_pass G 47 hN hg w8) (Q_pass_no h8 fk_72)) zy_X2_pass zw_365 0 (by omega) (zE_0 G _) rfl rfl rfl rfl rfl (by decide) (Nat.le_of_ble_eq_true rfl) ?_
  refine z_bipush ok dL_begins_421 (x := (-2)) (by decide) ?_
  refine z_icmp_ne ok dL_begins_423 439 (by decide) (fun q => absurd q (by decide)) (fun _ => ?_)
  refine z_aload_n ok dL_begins_426 0 rfl ?_
  refine z_bipush ok dL_begins_427 (x := nI 6) (by decide) ?_
  refine z_bipush ok dL_begins_429 (x := nI 18) (by decide) ?_
  refine z_callVi ok old dL_begins_431 [] (zM_eq (r := (-2)) (c_X2_move G 47 hN hg w8 (nI 6) (nI 18)) (Q_move_no h8 (f := 6) (t := 18) (by decide) (by decide) fk_73)) zy_X2_move zw_312 0 (by omega) (zE_0 G _) rfl rfl rfl rfl rfl (by decide) (Nat.le_of_ble_eq_true rfl) ?_
  refine z_bipush ok dL_begins_434 (x := (-2)) (by decide) ?_
  refine z_icmp_eq ok dL_begins_436 441 (by decide) (fun _ => ?_) (fun q => absurd q (by decide))
  refine z_aload_n ok dL_begins_441 0 rfl ?_
  refine z_bipush ok dL_begins_442 (x := nI 6) (by decide) ?_
  refine z_bipush ok dL_begins_444 (x := nI 12) (by decide) ?_
  obtain ⟨w9, a9, h9⟩ := Q_move h8 (f := 6) (t := 12) (by decide) (by decide) fk_74 fk_75 fk_76
  refine z_callVi ok old dL_begins_446 [] (zM_eq (r := nI 1) (c_X2_move G 47 hN hg w8 (nI 6) (nI 12)) a9) zy_X2_move zw_312 0 (by omega) (zE_0 G _) rfl rfl rfl rfl rfl (by decide) (Nat.le_of_ble_eq_true rfl) ?_
  refine z_iconst ok dL_begins_449 (x := nI 1) (by decide) ?_
  refine z_icmp_ne ok dL_begins_450 678 (by decide) (fun q => absurd q (by decide)) (fun _ => ?_)
  refine z_aload_n ok dL_begins_453 0 rfl ?_
  refine z_iconst ok dL_begins_454 (x := nI 0) (by decide) ?_
  refine z_callVi ok old dL_begins_455 [] (zM_eq1 (r := nI 1) (c_X2_count G 47 hN hg w9 (nI 0)) (Q_count h9 fk_77)) zy_X2_count zw_292 0 (by omega) (zE_0 G _) rfl rfl rfl rfl rfl (by decide) (Nat.le_of_ble_eq_true rfl) ?_
  refine z_iconst ok dL_begins_458 (x := nI 1) (by decide) ?_
  refine z_icmp_ne ok dL_begins_459 678 (by decide) (fun q => absurd q (by decide)) (fun _ => ?_)
  refine z_aload_n ok dL_begins_462 0 rfl ?_
  refine z_iconst ok dL_begins_463 (x := nI 3) (by decide) ?_
  refine z_callVi ok old dL_begins_464 [] (zM_eq1 (r := nI 1) (c_X2_count G 47 hN hg w9 (nI 3)) (Q_count h9 fk_78)) zy_X2_count zw_292 0 (by omega) (zE_0 G _) rfl rfl rfl rfl rfl (by decide) (Nat.le_of_ble_eq_true rfl) ?_
  refine z_iconst ok dL_begins_467 (x := nI 1) (by decide) ?_
  refine z_icmp_ne ok dL_begins_468 678 (by decide) (fun q => absurd q (by decide)) (fun _ => ?_)
  refine z_aload_n ok dL_begins_471 0 rfl ?_
  refine z_bipush ok dL_begins_472 (x := nI 6) (by decide) ?_
  refine z_callVi ok old dL_begins_474 [] (zM_eq1 (r := nI 47) (c_X2_count G 47 hN hg w9 (nI 6)) (Q_count h9 fk_79)) zy_X2_count zw_292 0 (by omega) (zE_0 G _) rfl rfl rfl rfl rfl (by decide) (Nat.le_of_ble_eq_true rfl) ?_
  refine z_bipush ok dL_begins_477 (x := nI 47) (by decide) ?_
  refine z_icmp_ne ok dL_begins_479 678 (by decide) (fun q => absurd q (by decide)) (fun _ => ?_)
  refine z_aload_n ok dL_begins_482 0 rfl ?_
  refine z_bipush ok dL_begins_483 (x := nI 7) (by decide) ?_
  refine z_callVi ok old dL_begins_485 [] (zM_eq1 (r := nI 52) (c_X2_count G 47 hN hg w9 (nI 7)) (Q_count h9 fk_80)) zy_X2_count zw_292 0 (by omega) (zE_0 G _) rfl rfl rfl rfl rfl (by decide) (Nat.le_of_ble_eq_true rfl) ?_
  refine z_bipush ok dL_begins_488 (x := nI 52) (by decide) ?_
  refine z_icmp_ne ok dL_begins_490 678 (by decide) (fun q => absurd q (by decide)) (fun _ => ?_)
  refine z_aload_n ok dL_begins_493 0 rfl ?_
  refine z_bipush ok dL_begins_494 (x := nI 21) (by decide) ?_
  refine z_callVi ok old dL_begins_496 [] (zM_eq1 (r := nI 4) (c_X2_count G 47 hN hg w9 (nI 21)) (Q_count h9 fk_81)) zy_X2_count zw_292 0 (by omega) (zE_0 G _) rfl rfl rfl rfl rfl (by decide) (Nat.le_of_ble_eq_true rfl) ?_
  refine z_iconst ok dL_begins_499 (x := nI 4) (by decide) ?_
  refine z_icmp_ne ok dL_begins_500 678 (by decide) (fun q => absurd q (by decide)) (fun _ => ?_)
  refine z_aload_n ok dL_begins_503 0 rfl ?_
  refine z_bipush ok dL_begins_504 (x := nI 23) (by decide) ?_
  refine z_callVi ok old dL_begins_506 [] (zM_eq1 (r := nI 1) (c_X2_count G 47 hN hg w9 (nI 23)) (Q_count h9 fk_82)) zy_X2_count zw_292 0 (by omega) (zE_0 G _) rfl rfl rfl rfl rfl (by decide) (Nat.le_of_ble_eq_true rfl) ?_
  refine z_iconst ok dL_begins_509 (x := nI 1) (by decide) ?_
  refine z_icmp_ne ok dL_begins_510 678 (by decide) (fun q => absurd q (by decide)) (fun _ => ?_)
  refine z_aload_n ok dL_begins_513 0 rfl ?_
  refine z_bipush ok dL_begins_514 (x := nI 30) (by decide) ?_
  refine z_iconst ok dL_begins_516 (x := nI 2) (by decide) ?_
  refine z_callVi ok old dL_begins_517 [] (zM_eq1 (r := nI 6) (c_X2_cell G 47 hN hg w9 (nI 30) (nI 2)) (Q_cell h9 (c := 30) (f := 2) (by decide) (by decide) fk_83)) zy_X2_cell zw_415 0 (by omega) (zE_0 G _) rfl rfl rfl rfl rfl (by decide) (Nat.le_of_ble_eq_true rfl) ?_
  refine z_bipush ok dL_begins_520 (x := nI 6) (by decide) ?_
  refine z_icmp_ne ok dL_begins_522 678 (by decide) (fun q => absurd q (by decide)) (fun _ => ?_)
  refine z_aload_n ok dL_begins_525 0 rfl ?_
  refine z_bipush ok dL_begins_526 (x := nI 25) (by decide) ?_
  refine z_bipush ok dL_begins_528 (x := nI 19) (by decide) ?_
  obtain ⟨w10, a10, h10⟩ := Q_move h9 (f := 25) (t := 19) (by decide) (by decide) fk_84 fk_85 fk_86
  refine z_callVi ok old dL_begins_530 [] (zM_eq (r := nI 1) (c_X2_move G 47 hN hg w9 (nI 25) (nI 19)) a10) zy_X2_move zw_312 0 (by omega) (zE_0 G _) rfl rfl rfl rfl rfl (by decide) (Nat.le_of_ble_eq_true rfl) ?_
  refine z_iconst ok dL_begins_533 (x := nI 1) (by decide) ?_
  refine z_icmp_ne ok dL_begins_534 678 (by decide) (fun q => absurd q (by decide)) (fun _ => ?_)
  refine z_aload_n ok dL_begins_537 0 rfl ?_
  refine z_bipush ok dL_begins_538 (x := nI 21) (by decide) ?_
  refine z_callVi ok old dL_begins_540 [] (zM_eq1 (r := nI 8) (c_X2_count G 47 hN hg w10 (nI 21)) (Q_count h10 fk_87)) zy_X2_count zw_292 0 (by omega) (zE_0 G _) rfl rfl rfl rfl rfl (by decide) (Nat.le_of_ble_eq_true rfl) ?_
  refine z_bipush ok dL_begins_543 (x := nI 8) (by decide) ?_
  refine z_icmp_ne ok dL_begins_545 678 (by decide) (fun q => absurd q (by decide)) (fun _ => ?_)
  refine z_aload_n ok dL_begins_548 0 rfl ?_
  refine z_bipush ok dL_begins_549 (x := nI 12) (by decide) ?_
  refine z_bipush ok dL_begins_551 (x := nI 19) (by decide) ?_
  refine z_callVi ok old dL_begins_553 [] (zM_eq1 (r := nI 0) (c_X2_refusal G 47 hN hg w10 (nI 12) (nI 19)) (Q_refusal h10 (f := 12) (t := 19) (by decide) (by decide) fk_88)) zy_X2_refusal zw_428 0 (by omega) (zE_0 G _) rfl rfl rfl rfl rfl (by decide) (Nat.le_of_ble_eq_true rfl) ?_
  refine z_if_ne ok dL_begins_556 678 (by decide) (fun q => absurd q (by decide)) (fun _ => ?_)
  refine z_aload_n ok dL_begins_559 0 rfl ?_
  refine z_bipush ok dL_begins_560 (x := nI 12) (by decide) ?_
  refine z_bipush ok dL_begins_562 (x := nI 19) (by decide) ?_
  obtain ⟨w11, a11, h11⟩ := Q_move h10 (f := 12) (t := 19) (by decide) (by decide) fk_89 fk_90 fk_91
  refine z_callVi ok old dL_begins_564 [] (zM_eq (r := nI 1) (c_X2_move G 47 hN hg w10 (nI 12) (nI 19)) a11) zy_X2_move zw_312 0 (by omega) (zE_0 G _) rfl rfl rfl rfl rfl (by decide) (Nat.le_of_ble_eq_true rfl) ?_
  refine z_iconst ok dL_begins_567 (x := nI 1) (by decide) ?_
  refine z_icmp_ne ok dL_begins_568 678 (by decide) (fun q => absurd q (by decide)) (fun _ => ?_)
  refine z_aload_n ok dL_begins_571 0 rfl ?_
  refine z_bipush ok dL_begins_572 (x := nI 19) (by decide) ?_
  refine z_iconst ok dL_begins_574 (x := nI 2) (by decide) ?_
  refine z_callVi ok old dL_begins_575 [] (zM_eq1 (r := nI 4) (c_X2_cell G 47 hN hg w11 (nI 19) (nI 2)) (Q_cell h11 (c := 19) (f := 2) (by decide) (by decide) fk_92)) zy_X2_cell zw_415 0 (by omega) (zE_0 G _) rfl rfl rfl rfl rfl (by decide) (Nat.le_of_ble_eq_true rfl) ?_
  refine z_iconst ok dL_begins_578 (x := nI 4) (by decide) ?_
  refine z_icmp_ne ok dL_begins_579 678 (by decide) (fun q => absurd q (by decide)) (fun _ => ?_)
  refine z_aload_n ok dL_begins_582 0 rfl ?_
  refine z_bipush ok dL_begins_583 (x := nI 19) (by decide) ?_
  refine z_iconst ok dL_begins_585 (x := nI 0) (by decide) ?_
  refine z_callVi ok old dL_begins_586 [] (zM_eq1 (r := nI 0) (c_X2_cell G 47 hN hg w11 (nI 19) (nI 0)) (Q_cell h11 (c := 19) (f := 0) (by decide) (by decide) fk_93)) zy_X2_cell zw_415 0 (by omega) (zE_0 G _) rfl rfl rfl rfl rfl (by decide) (Nat.le_of_ble_eq_true rfl) ?_
  refine z_if_ne ok dL_begins_589 678 (by decide) (fun q => absurd q (by decide)) (fun _ => ?_)
  refine z_aload_n ok dL_begins_592 0 rfl ?_
  refine z_bipush ok dL_begins_593 (x := nI 12) (by decide) ?_
  refine z_iconst ok dL_begins_595 (x := nI 0) (by decide) ?_
  refine z_callVi ok old dL_begins_596 [] (zM_eq1 (r := (-4)) (c_X2_cell G 47 hN hg w11 (nI 12) (nI 0)) (Q_cell h11 (c := 12) (f := 0) (by decide) (by decide) fk_94)) zy_X2_cell zw_415 0 (by omega) (zE_0 G _) rfl rfl rfl rfl rfl (by decide) (Nat.le_of_ble_eq_true rfl) ?_
  refine z_bipush ok dL_begins_599 (x := (-4)) (by decide) ?_
  refine z_icmp_ne ok dL_begins_601 678 (by decide) (fun q => absurd q (by decide)) (fun _ => ?_)
  refine z_aload_n ok dL_begins_604 0 rfl ?_
  refine z_bipush ok dL_begins_605 (x := nI 12) (by decide) ?_
  refine z_iconst ok dL_begins_607 (x := nI 4) (by decide) ?_
  refine z_callVi ok old dL_begins_608 [] (zM_eq1 (r := (-4)) (c_X2_cell G 47 hN hg w11 (nI 12) (nI 4)) (Q_cell4 h11 (c := 12) (by decide) fk_95)) zy_X2_cell zw_415 0 (by omega) (zE_0 G _) rfl rfl rfl rfl rfl (by decide) (Nat.le_of_ble_eq_true rfl) ?_
  refine z_bipush ok dL_begins_611 (x := (-4)) (by decide) ?_
  refine z_icmp_ne ok dL_begins_613 678 (by decide) (fun q => absurd q (by decide)) (fun _ => ?_)
  refine z_aload_n ok dL_begins_616 0 rfl ?_
  refine z_bipush ok dL_begins_617 (x := nI 22) (by decide) ?_
  refine z_callVi ok old dL_begins_619 [] (zM_eq1 (r := nI 1) (c_X2_count G 47 hN hg w11 (nI 22)) (Q_count h11 fk_96)) zy_X2_count zw_292 0 (by omega) (zE_0 G _) rfl rfl rfl rfl rfl (by decide) (Nat.le_of_ble_eq_true rfl) ?_
  refine z_iconst ok dL_begins_622 (x := nI 1) (by decide) ?_
  refine z_icmp_ne ok dL_begins_623 678 (by decide) (fun q => absurd q (by decide)) (fun _ => ?_)
  refine z_aload_n ok dL_begins_626 0 rfl ?_
  refine z_bipush ok dL_begins_627 (x := nI 24) (by decide) ?_
  refine z_callVi ok old dL_begins_629 [] (zM_eq1 (r := nI 2) (c_X2_count G 47 hN hg w11 (nI 24)) (Q_count h11 fk_97)) zy_X2_count zw_292 0 (by omega) (zE_0 G _) rfl rfl rfl rfl rfl (by decide) (Nat.le_of_ble_eq_true rfl) ?_
  refine z_iconst ok dL_begins_632 (x := nI 2) (by decide) ?_
  refine z_icmp_ne ok dL_begins_633 678 (by decide) (fun q => absurd q (by decide)) (fun _ => ?_)
  refine z_aload_n ok dL_begins_636 0 rfl ?_
  refine z_bipush ok dL_begins_637 (x := nI 23) (by decide) ?_
  refine z_callVi ok old dL_begins_639 [] (zM_eq1 (r := nI 3) (c_X2_count G 47 hN hg w11 (nI 23)) (Q_count h11 fk_98)) zy_X2_count zw_292 0 (by omega) (zE_0 G _) rfl rfl rfl rfl rfl (by decide) (Nat.le_of_ble_eq_true rfl) ?_
  refine z_iconst ok dL_begins_642 (x := nI 3) (by decide) ?_
  refine z_icmp_ne ok dL_begins_643 678 (by decide) (fun q => absurd q (by decide)) (fun _ => ?_)
  refine z_aload_n ok dL_begins_646 0 rfl ?_
  refine z_bipush ok dL_begins_647 (x := nI 21) (by decide) ?_
  refine z_callVi ok old dL_begins_649 [] (zM_eq1 (r := nI 12) (c_X2_count G 47 hN hg w11 (nI 21)) (Q_count h11 fk_99)) zy_X2_count zw_292 0 (by omega) (zE_0 G _) rfl rfl rfl rfl rfl (by decide) (Nat.le_of_ble_eq_true rfl) ?_
  refine z_bipush ok dL_begins_652 (x := nI 12) (by decide) ?_
  refine z_icmp_ne ok dL_begins_654 678 (by decide) (fun q => absurd q (by decide)) (fun _ => ?_)
  refine z_aload_n ok dL_begins_657 0 rfl ?_
  refine z_bipush ok dL_begins_658 (x := nI 25) (by decide) ?_
  refine z_callVi ok old dL_begins_660 [] (zM_eq1 (r := nI 104) (c_X2_count G 47 hN hg w11 (nI 25)) (Q_count h11 fk_100)) zy_X2_count zw_292 0 (by omega) (zE_0 G _) rfl rfl rfl rfl rfl (by decide) (Nat.le_of_ble_eq_true rfl) ?_
  refine z_bipush ok dL_begins_663 (x := nI 104) (by decide) ?_
  refine z_icmp_ne ok dL_begins_665 678 (by decide) (fun q => absurd q (by decide)) (fun _ => ?_)
  refine z_aload_n ok dL_begins_668 0 rfl ?_
  refine z_iconst ok dL_begins_669 (x := nI 4) (by decide) ?_
  refine z_callVi ok old dL_begins_670 [] (zM_eq1 (r := nI 23) (c_X2_count G 47 hN hg w11 (nI 4)) (Q_count h11 fk_101)) zy_X2_count zw_292 0 (by omega) (zE_0 G _) rfl rfl rfl rfl rfl (by decide) (Nat.le_of_ble_eq_true rfl) ?_
  refine z_bipush ok dL_begins_673 (x := nI 23) (by decide) ?_
  refine z_icmp_eq ok dL_begins_675 680 (by decide) (fun _ => ?_) (fun q => absurd q (by decide))
  refine z_aload_n ok dL_begins_680 0 rfl ?_
  refine z_iconst ok dL_begins_681 (x := nI 0) (by decide) ?_
  refine z_iconst ok dL_begins_682 (x := nI 3) (by decide) ?_
  obtain ⟨w12, a12, h12⟩ := Q_set h11 (c := 0) (by decide) (by decide) fk_102 fk_103
  refine z_callVi ok old dL_begins_683 [] (zM_eq (r := nI 9) (c_X2_set G 47 hN hg w11 (nI 0) (nI 3)) a12) zy_X2_set zw_226 0 (by omega) (zE_0 G _) rfl rfl rfl rfl rfl (by decide) (Nat.le_of_ble_eq_true rfl) ?_
  refine z_bipush ok dL_begins_686 (x := nI 9) (by decide) ?_
  refine z_icmp_ne ok dL_begins_688 786 (by decide) (fun q => absurd q (by decide)) (fun _ => ?_)
  refine z_aload_n ok dL_begins_691 0 rfl ?_
  refine z_bipush ok dL_begins_692 (x := nI 30) (by decide) ?_
  refine z_iconst ok dL_begins_694 (x := nI 2) (by decide) ?_
  refine z_callVi ok old dL_begins_695 [] (zM_eq1 (r := nI 3) (c_X2_cell G 47 hN hg w12 (nI 30) (nI 2)) (Q_cell h12 (c := 30) (f := 2) (by decide) (by decide) fk_104)) zy_X2_cell zw_415 0 (by omega) (zE_0 G _) rfl rfl rfl rfl rfl (by decide) (Nat.le_of_ble_eq_true rfl) ?_
  refine z_iconst ok dL_begins_698 (x := nI 3) (by decide) ?_
  refine z_icmp_ne ok dL_begins_699 786 (by decide) (fun q => absurd q (by decide)) (fun _ => ?_)
  refine z_aload_n ok dL_begins_702 0 rfl ?_
  refine z_bipush ok dL_begins_703 (x := nI 26) (by decide) ?_
  refine z_callVi ok old dL_begins_705 [] (zM_eq1 (r := (-35)) (c_X2_count G 47 hN hg w12 (nI 26)) (Q_count h12 fk_105)) zy_X2_count zw_292 0 (by omega) (zE_0 G _) rfl rfl rfl rfl rfl (by decide) (Nat.le_of_ble_eq_true rfl) ?_
  refine z_iconst ok dL_begins_708 (x := nI 3) (by decide) ?_
  refine z_aload_n ok dL_begins_709 0 rfl ?_
  refine z_iconst ok dL_begins_710 (x := nI 4) (by decide) ?_
  refine z_callVi ok old dL_begins_711 [.int (nI 3), .int (-35)] (zM_eq1 (r := nI 23) (c_X2_count G 47 hN hg w12 (nI 4)) (Q_count h12 fk_106)) zy_X2_count zw_292 0 (by omega) (zE_0 G _) rfl rfl rfl rfl rfl (by decide) (Nat.le_of_ble_eq_true rfl) ?_
  refine z_imul ok dL_begins_714 ?_
  refine z_bipush ok dL_begins_715 (x := nI 104) (by decide) ?_
  refine z_isub ok dL_begins_717 ?_
  refine z_aload_n ok dL_begins_718 0 rfl ?_
  refine z_bipush ok dL_begins_719 (x := nI 25) (by decide) ?_
  refine z_callVi ok old dL_begins_721 [.int ((nI 3 * nI 23) - nI 104), .int (-35)] (zM_eq1 (r := nI 69) (c_X2_count G 47 hN hg w12 (nI 25)) (Q_count h12 fk_107)) zy_X2_count zw_292 0 (by omega) (zE_0 G _) rfl rfl rfl rfl rfl (by decide) (Nat.le_of_ble_eq_true rfl) ?_
  refine z_iconst ok dL_begins_724 (x := nI 3) (by decide) ?_
  refine z_aload_n ok dL_begins_725 0 rfl ?_
  refine z_iconst ok dL_begins_726 (x := nI 4) (by decide) ?_
  refine z_callVi ok old dL_begins_727 [.int (nI 3), .int (nI 69), .int ((nI 3 * nI 23) - nI 104), .int (-35)] (zM_eq1 (r := nI 23) (c_X2_count G 47 hN hg w12 (nI 4)) (Q_count h12 fk_106)) zy_X2_count zw_292 0 (by omega) (zE_0 G _) rfl rfl rfl rfl rfl (by decide) (Nat.le_of_ble_eq_true rfl) ?_
  refine z_imul ok dL_begins_730 ?_
  refine z_isub ok dL_begins_731 ?_
  refine z_iadd ok dL_begins_732 ?_
  refine z_icmp_ne ok dL_begins_733 786 (by decide) (fun q => absurd q (by decide)) (fun _ => ?_)
  refine z_aload_n ok dL_begins_736 0 rfl ?_
  obtain ⟨w13, Hw13, a13, h13⟩ := Q_undo (k := 3) h12
  refine z_callVi ok old dL_begins_737 [] (zM_eq (r := nI 3) (c_X2_undo G 47 hN hg w12) a13) zy_X2_undo zw_308 0 (by omega) (zE_0 G _) rfl rfl rfl rfl rfl (by decide) (Nat.le_of_ble_eq_true rfl) ?_
  refine z_iconst ok dL_begins_740 (x := nI 3) (by decide) ?_
  refine z_icmp_ne ok dL_begins_741 786 (by decide) (fun q => absurd q (by decide)) (fun _ => ?_)
  refine z_aload_n ok dL_begins_744 0 rfl ?_
  refine z_bipush ok dL_begins_745 (x := nI 30) (by decide) ?_
  refine z_iconst ok dL_begins_747 (x := nI 2) (by decide) ?_
  refine z_callVi ok old dL_begins_748 [] (zM_eq1 (r := nI 8) (c_X2_cell G 47 hN hg w13 (nI 30) (nI 2)) (Q_cell h13 (c := 30) (f := 2) (by decide) (by decide) fk_108)) zy_X2_cell zw_415 0 (by omega) (zE_0 G _) rfl rfl rfl rfl rfl (by decide) (Nat.le_of_ble_eq_true rfl) ?_
  refine z_bipush ok dL_begins_751 (x := nI 8) (by decide) ?_
  refine z_icmp_ne ok dL_begins_753 786 (by decide) (fun q => absurd q (by decide)) (fun _ => ?_)
  refine z_aload_n ok dL_begins_756 0 rfl ?_
  obtain ⟨w14, a14, h14⟩ := Q_setUp h13 fk_109 fk_110
  refine z_callVi ok old dL_begins_757 [] (zM_eq (r := nI 96) (c_X2_setUp G 47 hN hg w13) a14) zy_X2_setUp zw_202 0 (by omega) (zE_0 G _) rfl rfl rfl rfl rfl (by decide) (Nat.le_of_ble_eq_true rfl) ?_
  refine z_bipush ok dL_begins_760 (x := nI 96) (by decide) ?_
  refine z_icmp_ne ok dL_begins_762 786 (by decide) (fun q => absurd q (by decide)) (fun _ => ?_)
  refine z_aload_n ok dL_begins_765 0 rfl ?_
  refine z_iconst ok dL_begins_766 (x := nI 3) (by decide) ?_
  refine z_callVi ok old dL_begins_767 [] (zM_eq1 (r := nI 0) (c_X2_count G 47 hN hg w14 (nI 3)) (Q_count h14 fk_111)) zy_X2_count zw_292 0 (by omega) (zE_0 G _) rfl rfl rfl rfl rfl (by decide) (Nat.le_of_ble_eq_true rfl) ?_
  refine z_if_ne ok dL_begins_770 786 (by decide) (fun q => absurd q (by decide)) (fun _ => ?_)
  refine z_aload_n ok dL_begins_773 0 rfl ?_
  refine z_bipush ok dL_begins_774 (x := nI 21) (by decide) ?_
  refine z_callVi ok old dL_begins_776 [] (zM_eq1 (r := nI 0) (c_X2_count G 47 hN hg w14 (nI 21)) (Q_count h14 fk_112)) zy_X2_count zw_292 0 (by omega) (zE_0 G _) rfl rfl rfl rfl rfl (by decide) (Nat.le_of_ble_eq_true rfl) ?_
  refine z_if_ne ok dL_begins_779 786 (by decide) (fun q => absurd q (by decide)) (fun _ => ?_)
  refine z_iconst ok dL_begins_782 (x := nI 1) (by decide) ?_
  refine z_goto ok dL_begins_783 787 (by decide) ?_
  exact fin _ _
theorem t_L_begins (E : yD) : zT yL_begins cL_begins 1 9 217 (0 + 1 + 46) (0 + 8 + 1298) E := by
  refine zT_of zy_L_begins.2.2.2.2.2.2 (by decide) (fun k ok hE hO hI => ?_)
  refine y_made ok hO (fun i hi => hI i (by omega)) dL_begins_0 zw_54 dL_begins_3 dL_begins_4 zw_56 dL_begins_7 ⟨by omega, by omega⟩ (fun G k' hg hk ok' old' => ?_)
  have hI' : ∀ i, i < 1 → zIn k' i := by
    subst hk
    obtain ⟨p, l, e, R, s, m, args, below, meth, c0, Q, A, nL, c1, s1⟩ := k
    exact hI
  exact walk_begins hg ok' old' hI' w01_Q (fun w lv => z_iretT hE hk ok' dL_begins_787 rfl)
