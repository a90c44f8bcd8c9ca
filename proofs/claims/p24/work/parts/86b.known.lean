/-! the law's known -/
set_option maxRecDepth 100000 in
set_option maxHeartbeats 8000000 in
theorem walk_known {k : zC} {G : zG} (hg : zGeo G 47) (ok : zOk k G 47 cL_known RL 8 194) (old : zOld k G 47) (hI : ∀ i, i < 1 → zIn k i) {w : xW} {H : Nat → Int32} (h : zQ w (rT tb_0) 0 0 (tT 0) H) (fin : ∀ w lv, zZ k G 47 w 592 lv [.int (nI 1)]) : zZ k G 47 w 8 [(0, .ref (zad G 0))] [] := by
  have hN : 47 ≤ 47 := Nat.le_refl 47
  refine z_aload_n ok dL_known_8 0 rfl ?_
  obtain ⟨w1, Hw1, a1, h1⟩ := c_L_isCleared hN hg h rfl
  refine z_callSi ok old dL_known_9 [] a1 zy_L_isCleared zw_556 rfl rfl (by decide) (Nat.le_of_ble_eq_true rfl) ?_
  refine z_if_eq ok dL_known_12 208 (by decide) (fun q => absurd q (by decide)) (fun _ => ?_)
  refine z_aload_n ok dL_known_15 0 rfl ?_
  refine z_bipush ok dL_known_16 (x := nI 26) (by decide) ?_
  refine z_callVi ok old dL_known_18 [] (zM_eq1 (r := (-96)) (c_X2_count G 47 hN hg w1 (nI 26)) (Q_count h1 fk_113)) zy_X2_count zw_292 0 (by omega) (zE_0 G _) rfl rfl rfl rfl rfl (by decide) (Nat.le_of_ble_eq_true rfl) ?_
  refine z_bipush ok dL_known_21 (x := (-96)) (by decide) ?_
  refine z_icmp_ne ok dL_known_23 208 (by decide) (fun q => absurd q (by decide)) (fun _ => ?_)
  refine z_aload_n ok dL_known_26 0 rfl ?_
  refine z_bipush ok dL_known_27 (x := nI 14) (by decide) ?_
  refine z_iconst ok dL_known_29 (x := nI 0) (by decide) ?_
  refine z_iconst ok dL_known_30 (x := nI 1) (by decide) ?_
  refine z_iconst ok dL_known_31 (x := nI 5) (by decide) ?_
  obtain ⟨w2, a2, h2⟩ := Q_put h1 (c := 14) (by decide) (by decide) (by decide) fk_114 fk_115 fk_116 fk_117
  refine z_callVi ok old dL_known_32 [] (zM_eq (r := nI 0) (c_X2_put G 47 hN hg w1 (nI 14) (nI 0) (nI 1) (nI 5)) a2) zy_X2_put zw_253 0 (by omega) (zE_0 G _) rfl rfl rfl rfl rfl (by decide) (Nat.le_of_ble_eq_true rfl) ?_
  refine z_if_ne ok dL_known_35 208 (by decide) (fun q => absurd q (by decide)) (fun _ => ?_)
  refine z_aload_n ok dL_known_38 0 rfl ?_
  refine z_bipush ok dL_known_39 (x := nI 16) (by decide) ?_
  refine z_iconst ok dL_known_41 (x := nI 1) (by decide) ?_
  refine z_iconst ok dL_known_42 (x := nI 0) (by decide) ?_
  refine z_iconst ok dL_known_43 (x := nI 3) (by decide) ?_
  obtain ⟨w3, a3, h3⟩ := Q_put h2 (c := 16) (by decide) (by decide) (by decide) fk_118 fk_119 fk_120 fk_121
  refine z_callVi ok old dL_known_44 [] (zM_eq (r := nI 0) (c_X2_put G 47 hN hg w2 (nI 16) (nI 1) (nI 0) (nI 3)) a3) zy_X2_put zw_253 0 (by omega) (zE_0 G _) rfl rfl rfl rfl rfl (by decide) (Nat.le_of_ble_eq_true rfl) ?_
  refine z_if_ne ok dL_known_47 208 (by decide) (fun q => absurd q (by decide)) (fun _ => ?_)
  refine z_aload_n ok dL_known_50 0 rfl ?_
  refine z_bipush ok dL_known_51 (x := nI 8) (by decide) ?_
  refine z_iconst ok dL_known_53 (x := nI 0) (by decide) ?_
  refine z_iconst ok dL_known_54 (x := nI 2) (by decide) ?_
  refine z_iconst ok dL_known_55 (x := nI 0) (by decide) ?_
  obtain ⟨w4, a4, h4⟩ := Q_put h3 (c := 8) (by decide) (by decide) (by decide) fk_122 fk_123 fk_124 fk_125
  refine z_callVi ok old dL_known_56 [] (zM_eq (r := nI 0) (c_X2_put G 47 hN hg w3 (nI 8) (nI 0) (nI 2) (nI 0)) a4) zy_X2_put zw_253 0 (by omega) (zE_0 G _) rfl rfl rfl rfl rfl (by decide) (Nat.le_of_ble_eq_true rfl) ?_
  refine z_if_ne ok dL_known_59 208 (by decide) (fun q => absurd q (by decide)) (fun _ => ?_)
  refine z_aload_n ok dL_known_62 0 rfl ?_
  refine z_bipush ok dL_known_63 (x := nI 8) (by decide) ?_
  refine z_bipush ok dL_known_65 (x := nI 22) (by decide) ?_
  refine z_callVi ok old dL_known_67 [] (zM_eq1 (r := nI 2) (c_X2_cost G 47 hN hg w4 (nI 8) (nI 22)) (Q_cost h4 (f := 8) (t := 22) (by decide) (by decide) fk_126)) zy_X2_cost zw_432 0 (by omega) (zE_0 G _) rfl rfl rfl rfl rfl (by decide) (Nat.le_of_ble_eq_true rfl) ?_
  refine z_iconst ok dL_known_70 (x := nI 2) (by decide) ?_
  refine z_icmp_ne ok dL_known_71 208 (by decide) (fun q => absurd q (by decide)) (fun _ => ?_)
  refine z_aload_n ok dL_known_74 0 rfl ?_
  refine z_bipush ok dL_known_75 (x := nI 8) (by decide) ?_
  refine z_iconst ok dL_known_77 (x := nI 1) (by decide) ?_
  refine z_callVi ok old dL_known_78 [] (zM_eq1 (r := nI 1) (c_X2_cost G 47 hN hg w4 (nI 8) (nI 1)) (Q_cost h4 (f := 8) (t := 1) (by decide) (by decide) fk_127)) zy_X2_cost zw_432 0 (by omega) (zE_0 G _) rfl rfl rfl rfl rfl (by decide) (Nat.le_of_ble_eq_true rfl) ?_
  refine z_iconst ok dL_known_81 (x := nI 1) (by decide) ?_
  refine z_icmp_ne ok dL_known_82 208 (by decide) (fun q => absurd q (by decide)) (fun _ => ?_)
  refine z_aload_n ok dL_known_85 0 rfl ?_
  refine z_bipush ok dL_known_86 (x := nI 8) (by decide) ?_
  refine z_iconst ok dL_known_88 (x := nI 1) (by decide) ?_
  refine z_callVi ok old dL_known_89 [] (zM_eq1 (r := nI 7) (c_X2_refusal G 47 hN hg w4 (nI 8) (nI 1)) (Q_refusal h4 (f := 8) (t := 1) (by decide) (by decide) fk_128)) zy_X2_refusal zw_428 0 (by omega) (zE_0 G _) rfl rfl rfl rfl rfl (by decide) (Nat.le_of_ble_eq_true rfl) ?_
  refine z_bipush ok dL_known_92 (x := nI 7) (by decide) ?_
  refine z_icmp_ne ok dL_known_94 208 (by decide) (fun q => absurd q (by decide)) (fun _ => ?_)
  refine z_aload_n ok dL_known_97 0 rfl ?_
  refine z_bipush ok dL_known_98 (x := nI 14) (by decide) ?_
  refine z_bipush ok dL_known_100 (x := nI 16) (by decide) ?_
  refine z_callVi ok old dL_known_102 [] (zM_eq1 (r := nI 0) (c_X2_refusal G 47 hN hg w4 (nI 14) (nI 16)) (Q_refusal h4 (f := 14) (t := 16) (by decide) (by decide) fk_129)) zy_X2_refusal zw_428 0 (by omega) (zE_0 G _) rfl rfl rfl rfl rfl (by decide) (Nat.le_of_ble_eq_true rfl) ?_
  refine z_if_ne ok dL_known_105 208 (by decide) (fun q => absurd q (by decide)) (fun _ => ?_)
  refine z_aload_n ok dL_known_108 0 rfl ?_
  obtain ⟨w5, a5, h5⟩ := Q_best h4 (q_list (Q_inv h4) fk_130 fk_131 fk_132) fk_133
  refine z_callVi ok old dL_known_109 [] (zM_eq (r := nI 520) (c_X2_best G 47 hN hg w4) a5) zy_X2_best zw_544 0 (by omega) (zE_0 G _) rfl rfl rfl rfl rfl (by decide) (Nat.le_of_ble_eq_true rfl) ?_
  refine z_sipush ok dL_known_112 (x := nI 520) (by decide +kernel) ?_
  refine z_icmp_ne ok dL_known_115 208 (by decide) (fun q => absurd q (by decide)) (fun _ => ?_)
  refine z_aload_n ok dL_known_118 0 rfl ?_
  refine z_iconst ok dL_known_119 (x := nI 1) (by decide) ?_
  refine z_callVi ok old dL_known_120 [] (zM_eq1 (r := nI 8) (c_X2_moves G 47 hN hg w5 (nI 1)) (Q_moves h5 (by decide) fk_134 rfl)) zy_X2_moves zw_388 0 (by omega) (zE_0 G _) rfl rfl rfl rfl rfl (by decide) (Nat.le_of_ble_eq_true rfl) ?_
  refine z_bipush ok dL_known_123 (x := nI 8) (by decide) ?_
  refine z_icmp_ne ok dL_known_125 208 (by decide) (fun q => absurd q (by decide)) (fun _ => ?_)
  refine z_aload_n ok dL_known_128 0 rfl ?_
  refine z_bipush ok dL_known_129 (x := nI 14) (by decide) ?_
  refine z_bipush ok dL_known_131 (x := nI 16) (by decide) ?_
  obtain ⟨w6, a6, h6⟩ := Q_move h5 (f := 14) (t := 16) (by decide) (by decide) fk_135 fk_136 fk_137
  refine z_callVi ok old dL_known_133 [] (zM_eq (r := nI 2) (c_X2_move G 47 hN hg w5 (nI 14) (nI 16)) a6) zy_X2_move zw_312 0 (by omega) (zE_0 G _) rfl rfl rfl rfl rfl (by decide) (Nat.le_of_ble_eq_true rfl) ?_
  refine z_iconst ok dL_known_136 (x := nI 2) (by decide) ?_
  refine z_icmp_ne ok dL_known_137 208 (by decide) (fun q => absurd q (by decide)) (fun _ => ?_)
  refine z_aload_n ok dL_known_140 0 rfl ?_
  refine z_bipush ok dL_known_141 (x := nI 16) (by decide) ?_
  refine z_iconst ok dL_known_143 (x := nI 2) (by decide) ?_
  refine z_callVi ok old dL_known_144 [] (zM_eq1 (r := nI 5) (c_X2_cell G 47 hN hg w6 (nI 16) (nI 2)) (Q_cell h6 (c := 16) (f := 2) (by decide) (by decide) fk_138)) zy_X2_cell zw_415 0 (by omega) (zE_0 G _) rfl rfl rfl rfl rfl (by decide) (Nat.le_of_ble_eq_true rfl) ?_
  refine z_iconst ok dL_known_147 (x := nI 5) (by decide) ?_
  refine z_icmp_ne ok dL_known_148 208 (by decide) (fun q => absurd q (by decide)) (fun _ => ?_)
  refine z_aload_n ok dL_known_151 0 rfl ?_
  refine z_bipush ok dL_known_152 (x := nI 16) (by decide) ?_
  refine z_iconst ok dL_known_154 (x := nI 1) (by decide) ?_
  refine z_callVi ok old dL_known_155 [] (zM_eq1 (r := nI 1) (c_X2_cell G 47 hN hg w6 (nI 16) (nI 1)) (Q_cell h6 (c := 16) (f := 1) (by decide) (by decide) fk_139)) zy_X2_cell zw_415 0 (by omega) (zE_0 G _) rfl rfl rfl rfl rfl (by decide) (Nat.le_of_ble_eq_true rfl) ?_
  refine z_iconst ok dL_known_158 (x := nI 1) (by decide) ?_
  refine z_icmp_ne ok dL_known_159 208 (by decide) (fun q => absurd q (by decide)) (fun _ => ?_)
  refine z_aload_n ok dL_known_162 0 rfl ?_
  refine z_iconst ok dL_known_163 (x := nI 1) (by decide) ?_
  refine z_callVi ok old dL_known_164 [] (zM_eq1 (r := nI 1) (c_X2_count G 47 hN hg w6 (nI 1)) (Q_count h6 fk_140)) zy_X2_count zw_292 0 (by omega) (zE_0 G _) rfl rfl rfl rfl rfl (by decide) (Nat.le_of_ble_eq_true rfl) ?_
  refine z_iconst ok dL_known_167 (x := nI 1) (by decide) ?_
  refine z_icmp_ne ok dL_known_168 208 (by decide) (fun q => absurd q (by decide)) (fun _ => ?_)
  refine z_aload_n ok dL_known_171 0 rfl ?_
  refine z_iconst ok dL_known_172 (x := nI 2) (by decide) ?_
  refine z_callVi ok old dL_known_173 [] (zM_eq1 (r := nI 0) (c_X2_count G 47 hN hg w6 (nI 2)) (Q_count h6 fk_141)) zy_X2_count zw_292 0 (by omega) (zE_0 G _) rfl rfl rfl rfl rfl (by decide) (Nat.le_of_ble_eq_true rfl) ?_
  refine z_if_ne ok dL_known_176 208 (by decide) (fun q => absurd q (by decide)) (fun _ => ?_)
  refine z_aload_n ok dL_known_179 0 rfl ?_
  refine z_bipush ok dL_known_180 (x := nI 21) (by decide) ?_
  refine z_callVi ok old dL_known_182 [] (zM_eq1 (r := nI 0) (c_X2_count G 47 hN hg w6 (nI 21)) (Q_count h6 fk_142)) zy_X2_count zw_292 0 (by omega) (zE_0 G _) rfl rfl rfl rfl rfl (by decide) (Nat.le_of_ble_eq_true rfl) ?_
  refine z_if_ne ok dL_known_185 208 (by decide) (fun q => absurd q (by decide)) (fun _ => ?_)
  refine z_aload_n ok dL_known_188 0 rfl ?_
  refine z_bipush ok dL_known_189 (x := nI 24) (by decide) ?_
  refine z_callVi ok old dL_known_191 [] (zM_eq1 (r := nI 2) (c_X2_count G 47 hN hg w6 (nI 24)) (Q_count h6 fk_143)) zy_X2_count zw_292 0 (by omega) (zE_0 G _) rfl rfl rfl rfl rfl (by decide) (Nat.le_of_ble_eq_true rfl) ?_
  refine z_iconst ok dL_known_194 (x := nI 2) (by decide) ?_
  refine z_icmp_ne ok dL_known_195 208 (by decide) (fun q => absurd q (by decide)) (fun _ => ?_)
  refine z_aload_n ok dL_known_198 0 rfl ?_
  refine z_bipush ok dL_known_199 (x := nI 22) (by decide) ?_
  refine z_callVi ok old dL_known_201 [] (zM_eq1 (r := nI 1) (c_X2_count G 47 hN hg w6 (nI 22)) (Q_count h6 fk_144)) zy_X2_count zw_292 0 (by omega) (zE_0 G _) rfl rfl rfl rfl rfl (by decide) (Nat.le_of_ble_eq_true rfl) ?_
  refine z_iconst ok dL_known_204 (x := nI 1) (by decide) ?_
  refine z_icmp_eq ok dL_known_205 210 (by decide) (fun _ => ?_) (fun q => absurd q (by decide))
  refine z_aload_n ok dL_known_210 0 rfl ?_
  refine z_bipush ok dL_known_211 (x := nI 16) (by decide) ?_
  refine z_bipush ok dL_known_213 (x := nI 17) (by decide) ?_
  refine z_callVi ok old dL_known_215 [] (zM_eq1 (r := nI 2) (c_X2_refusal G 47 hN hg w6 (nI 16) (nI 17)) (Q_refusal h6 (f := 16) (t := 17) (by decide) (by decide) fk_145)) zy_X2_refusal zw_428 0 (by omega) (zE_0 G _) rfl rfl rfl rfl rfl (by decide) (Nat.le_of_ble_eq_true rfl) ?_
  refine z_iconst ok dL_known_218 (x := nI 2) (by decide) ?_
  refine z_icmp_ne ok dL_known_219 335 (by decide) (fun q => absurd q (by decide)) (fun _ => ?_)
  refine z_aload_n ok dL_known_222 0 rfl ?_
  refine z_bipush ok dL_known_223 (x := nI 16) (by decide) ?_
  refine z_bipush ok dL_known_225 (x := nI 17) (by decide) ?_
  refine z_callVi ok old dL_known_227 [] (zM_eq (r := (-2)) (c_X2_move G 47 hN hg w6 (nI 16) (nI 17)) (Q_move_no h6 (f := 16) (t := 17) (by decide) (by decide) fk_146)) zy_X2_move zw_312 0 (by omega) (zE_0 G _) rfl rfl rfl rfl rfl (by decide) (Nat.le_of_ble_eq_true rfl) ?_
  refine z_bipush ok dL_known_230 (x := (-2)) (by decide) ?_
  refine z_icmp_ne ok dL_known_232 335 (by decide) (fun q => absurd q (by decide)) (fun _ => ?_)
  refine z_aload_n ok dL_known_235 0 rfl ?_
  refine z_iconst ok dL_known_236 (x := nI 0) (by decide) ?_
  refine z_iconst ok dL_known_237 (x := nI 0) (by decide) ?_
  refine z_iconst ok dL_known_238 (x := nI 0) (by decide) ?_
  refine z_iconst ok dL_known_239 (x := nI 0) (by decide) ?_
  refine z_callVi ok old dL_known_240 [] (zM_eq (r := (-2)) (c_X2_put G 47 hN hg w6 (nI 0) (nI 0) (nI 0) (nI 0)) (Q_put_over h6 (c := 0) (by decide) (by decide) (by decide) fk_147 fk_148)) zy_X2_put zw_253 0 (by omega) (zE_0 G _) rfl rfl rfl rfl rfl (by decide) (Nat.le_of_ble_eq_true rfl) ?_
  refine z_bipush ok dL_known_243 (x := (-2)) (by decide) ?_
  refine z_icmp_ne ok dL_known_245 335 (by decide) (fun q => absurd q (by decide)) (fun _ => ?_)
  refine z_aload_n ok dL_known_248 0 rfl ?_
  refine z_iconst ok dL_known_249 (x := nI 0) (by decide) ?_
  refine z_iconst ok dL_known_250 (x := nI 0) (by decide) ?_
  refine z_iconst ok dL_known_251 (x := nI 0) (by decide) ?_
  refine z_bipush ok dL_known_252 (x := nI 13) (by decide) ?_
  refine z_callVi ok old dL_known_254 [] (zM_eq (r := (-1)) (c_X2_put G 47 hN hg w6 (nI 0) (nI 0) (nI 0) (nI 13)) (Q_put_bad h6 (Or.inr (Or.inr (Or.inr fk_149))))) zy_X2_put zw_253 0 (by omega) (zE_0 G _) rfl rfl rfl rfl rfl (by decide) (Nat.le_of_ble_eq_true rfl) ?_
  refine z_iconst ok dL_known_257 (x := (-1)) (by decide) ?_
  refine z_icmp_ne ok dL_known_258 335 (by decide) (fun q => absurd q (by decide)) (fun _ => ?_)
  refine z_aload_n ok dL_known_261 0 rfl ?_
  refine z_callVi ok old dL_known_262 [] (zM_eq (r := (-2)) (c_X2_pass G 47 hN hg w6) (Q_pass_no h6 fk_150)) zy_X2_pass zw_365 0 (by omega) (zE_0 G _) rfl rfl rfl rfl rfl (by decide) (Nat.le_of_ble_eq_true rfl) ?_
  refine z_bipush ok dL_known_265 (x := (-2)) (by decide) ?_
  refine z_icmp_ne ok dL_known_267 335 (by decide) (fun q => absurd q (by decide)) (fun _ => ?_)
  refine z_aload_n ok dL_known_270 0 rfl ?_
  obtain ⟨w7, a7, h7⟩ := Q_replies h6 (q_list0 (Q_inv h6) fk_151) fk_152
  refine z_callVi ok old dL_known_271 [] (zM_eq (r := nI 0) (c_X2_replies G 47 hN hg w6) a7) zy_X2_replies zw_536 0 (by omega) (zE_0 G _) rfl rfl rfl rfl rfl (by decide) (Nat.le_of_ble_eq_true rfl) ?_
  refine z_if_ne ok dL_known_274 335 (by decide) (fun q => absurd q (by decide)) (fun _ => ?_)
  refine z_aload_n ok dL_known_277 0 rfl ?_
  obtain ⟨w8, a8, h8⟩ := Q_best h7 (q_list0 (Q_inv h7) fk_151) fk_153
  refine z_callVi ok old dL_known_278 [] (zM_eq (r := (-4)) (c_X2_best G 47 hN hg w7) a8) zy_X2_best zw_544 0 (by omega) (zE_0 G _) rfl rfl rfl rfl rfl (by decide) (Nat.le_of_ble_eq_true rfl) ?_
  refine z_bipush ok dL_known_281 (x := (-4)) (by decide) ?_
  refine z_icmp_ne ok dL_known_283 335 (by decide) (fun q => absurd q (by decide)) (fun _ => ?_)
  refine z_aload_n ok dL_known_286 0 rfl ?_
  refine z_bipush ok dL_known_287 (x := nI 14) (by decide) ?_
  obtain ⟨w9, a9, h9⟩ := Q_tower h8 (c := 14) (by decide) (Or.inl fk_154) fk_155 fk_156
  refine z_callVi ok old dL_known_289 [] (zM_eq (r := nI 5) (c_X2_tower G 47 hN hg w8 (nI 14)) a9) zy_X2_tower zw_279 0 (by omega) (zE_0 G _) rfl rfl rfl rfl rfl (by decide) (Nat.le_of_ble_eq_true rfl) ?_
  refine z_iconst ok dL_known_292 (x := nI 5) (by decide) ?_
  refine z_icmp_ne ok dL_known_293 335 (by decide) (fun q => absurd q (by decide)) (fun _ => ?_)
  refine z_aload_n ok dL_known_296 0 rfl ?_
  refine z_bipush ok dL_known_297 (x := nI 14) (by decide) ?_
  obtain ⟨w10, a10, h10⟩ := Q_tower h9 (c := 14) (by decide) (Or.inr fk_157) fk_158 fk_159
  refine z_callVi ok old dL_known_299 [] (zM_eq (r := nI 6) (c_X2_tower G 47 hN hg w9 (nI 14)) a10) zy_X2_tower zw_279 0 (by omega) (zE_0 G _) rfl rfl rfl rfl rfl (by decide) (Nat.le_of_ble_eq_true rfl) ?_
  refine z_bipush ok dL_known_302 (x := nI 6) (by decide) ?_
  refine z_icmp_ne ok dL_known_304 335 (by decide) (fun q => absurd q (by decide)) (fun _ => ?_)
  refine z_aload_n ok dL_known_307 0 rfl ?_
  refine z_bipush ok dL_known_308 (x := nI 13) (by decide) ?_
  refine z_callVi ok old dL_known_310 [] (zM_eq (r := (-3)) (c_X2_tower G 47 hN hg w10 (nI 13)) (Q_tower_full h10 (c := 13) (by decide) fk_160 fk_161)) zy_X2_tower zw_279 0 (by omega) (zE_0 G _) rfl rfl rfl rfl rfl (by decide) (Nat.le_of_ble_eq_true rfl) ?_
  refine z_bipush ok dL_known_313 (x := (-3)) (by decide) ?_
  refine z_icmp_ne ok dL_known_315 335 (by decide) (fun q => absurd q (by decide)) (fun _ => ?_)
  refine z_aload_n ok dL_known_318 0 rfl ?_
  obtain ⟨w11, a11, h11⟩ := Q_setUp h10 fk_109 fk_162
  refine z_callVi ok old dL_known_319 [] (zM_eq (r := nI 96) (c_X2_setUp G 47 hN hg w10) a11) zy_X2_setUp zw_202 0 (by omega) (zE_0 G _) rfl rfl rfl rfl rfl (by decide) (Nat.le_of_ble_eq_true rfl) ?_
  refine z_bipush ok dL_known_322 (x := nI 96) (by decide) ?_
  refine z_icmp_ne ok dL_known_324 335 (by decide) (fun q => absurd q (by decide)) (fun _ => ?_)
  refine z_aload_n ok dL_known_327 0 rfl ?_
  refine z_iconst ok dL_known_328 (x := nI 1) (by decide) ?_
  refine z_callVi ok old dL_known_329 [] (zM_eq1 (r := nI 0) (c_X2_count G 47 hN hg w11 (nI 1)) (Q_count h11 fk_163)) zy_X2_count zw_292 0 (by omega) (zE_0 G _) rfl rfl rfl rfl rfl (by decide) (Nat.le_of_ble_eq_true rfl) ?_
  refine z_if_eq ok dL_known_332 337 (by decide) (fun _ => ?_) (fun q => absurd q (by decide))
  refine z_aload_n ok dL_known_337 0 rfl ?_
  obtain ⟨w12, Hw12, a12, h12⟩ := c_L_isCleared hN hg h11 rfl
  refine z_callSi ok old dL_known_338 [] a12 zy_L_isCleared zw_556 rfl rfl (by decide) (Nat.le_of_ble_eq_true rfl) ?_
  refine z_if_eq ok dL_known_341 473 (by decide) (fun q => absurd q (by decide)) (fun _ => ?_)
  refine z_aload_n ok dL_known_344 0 rfl ?_
  refine z_bipush ok dL_known_345 (x := nI 31) (by decide) ?_
  refine z_iconst ok dL_known_347 (x := nI 0) (by decide) ?_
  refine z_iconst ok dL_known_348 (x := nI 4) (by decide) ?_
  refine z_iconst ok dL_known_349 (x := nI 3) (by decide) ?_
  obtain ⟨w13, a13, h13⟩ := Q_put h12 (c := 31) (by decide) (by decide) (by decide) fk_164 fk_115 fk_165 fk_166
  refine z_callVi ok old dL_known_350 [] (zM_eq (r := nI 0) (c_X2_put G 47 hN hg w12 (nI 31) (nI 0) (nI 4) (nI 3)) a13) zy_X2_put zw_253 0 (by omega) (zE_0 G _) rfl rfl rfl rfl rfl (by decide) (Nat.le_of_ble_eq_true rfl) ?_
  refine z_if_ne ok dL_known_353 473 (by decide) (fun q => absurd q (by decide)) (fun _ => ?_)
  refine z_aload_n ok dL_known_356 0 rfl ?_
  refine z_iconst ok dL_known_357 (x := nI 1) (by decide) ?_
  refine z_iconst ok dL_known_358 (x := nI 1) (by decide) ?_
  refine z_iconst ok dL_known_359 (x := nI 4) (by decide) ?_
  refine z_iconst ok dL_known_360 (x := nI 1) (by decide) ?_
  obtain ⟨w14, a14, h14⟩ := Q_put h13 (c := 1) (by decide) (by decide) (by decide) fk_167 fk_168 fk_169 fk_170
  refine z_callVi ok old dL_known_361 [] (zM_eq (r := nI 0) (c_X2_put G 47 hN hg w13 (nI 1) (nI 1) (nI 4) (nI 1)) a14) zy_X2_put zw_253 0 (by omega) (zE_0 G _) rfl rfl rfl rfl rfl (by decide) (Nat.le_of_ble_eq_true rfl) ?_
  refine z_if_ne ok dL_known_364 473 (by decide) (fun q => absurd q (by decide)) (fun _ => ?_)
  refine z_aload_n ok dL_known_367 0 rfl ?_
  refine z_iconst ok dL_known_368 (x := nI 0) (by decide) ?_
  refine z_callVi ok old dL_known_369 [] (zM_eq1 (r := nI 0) (c_X2_moves G 47 hN hg w14 (nI 0)) (Q_moves h14 (by decide) fk_171 rfl)) zy_X2_moves zw_388 0 (by omega) (zE_0 G _) rfl rfl rfl rfl rfl (by decide) (Nat.le_of_ble_eq_true rfl) ?_
  refine z_if_ne ok dL_known_372 473 (by decide) (fun q => absurd q (by decide)) (fun _ => ?_)
  refine z_aload_n ok dL_known_375 0 rfl ?_
  obtain ⟨w15, a15, h15⟩ := Q_pass h14 fk_172 fk_173 fk_174
  refine z_callVi ok old dL_known_376 [] (zM_eq (r := nI 0) (c_X2_pass G 47 hN hg w14) a15) zy_X2_pass zw_365 0 (by omega) (zE_0 G _) rfl rfl rfl rfl rfl (by decide) (Nat.le_of_ble_eq_true rfl) ?_
  refine z_if_ne ok dL_known_379 473 (by decide) (fun q => absurd q (by decide)) (fun _ => ?_)
  refine z_aload_n ok dL_known_382 0 rfl ?_
  refine z_iconst ok dL_known_383 (x := nI 0) (by decide) ?_
  refine z_callVi ok old dL_known_384 [] (zM_eq1 (r := nI 1) (c_X2_count G 47 hN hg w15 (nI 0)) (Q_count h15 fk_175)) zy_X2_count zw_292 0 (by omega) (zE_0 G _) rfl rfl rfl rfl rfl (by decide) (Nat.le_of_ble_eq_true rfl) ?_
  refine z_iconst ok dL_known_387 (x := nI 1) (by decide) ?_
  refine z_icmp_ne ok dL_known_388 473 (by decide) (fun q => absurd q (by decide)) (fun _ => ?_)
  refine z_aload_n ok dL_known_391 0 rfl ?_
  obtain ⟨w16, a16, h16⟩ := Q_pass h15 fk_176 fk_177 fk_178
  refine z_callVi ok old dL_known_392 [] (zM_eq (r := nI 1) (c_X2_pass G 47 hN hg w15) a16) zy_X2_pass zw_365 0 (by omega) (zE_0 G _) rfl rfl rfl rfl rfl (by decide) (Nat.le_of_ble_eq_true rfl) ?_
  refine z_iconst ok dL_known_395 (x := nI 1) (by decide) ?_
  refine z_icmp_ne ok dL_known_396 473 (by decide) (fun q => absurd q (by decide)) (fun _ => ?_)
  refine z_aload_n ok dL_known_399 0 rfl ?_
  refine z_iconst ok dL_known_400 (x := nI 1) (by decide) ?_
  refine z_callVi ok old dL_known_401 [] (zM_eq1 (r := nI 2) (c_X2_count G 47 hN hg w16 (nI 1)) (Q_count h16 fk_179)) zy_X2_count zw_292 0 (by omega) (zE_0 G _) rfl rfl rfl rfl rfl (by decide) (Nat.le_of_ble_eq_true rfl) ?_
  refine z_iconst ok dL_known_404 (x := nI 2) (by decide) ?_
  refine z_icmp_ne ok dL_known_405 473 (by decide) (fun q => absurd q (by decide)) (fun _ => ?_)
  refine z_aload_n ok dL_known_408 0 rfl ?_
  refine z_iconst ok dL_known_409 (x := nI 2) (by decide) ?_
  refine z_callVi ok old dL_known_410 [] (zM_eq1 (r := nI 0) (c_X2_count G 47 hN hg w16 (nI 2)) (Q_count h16 fk_180)) zy_X2_count zw_292 0 (by omega) (zE_0 G _) rfl rfl rfl rfl rfl (by decide) (Nat.le_of_ble_eq_true rfl) ?_
  refine z_if_ne ok dL_known_413 473 (by decide) (fun q => absurd q (by decide)) (fun _ => ?_)
  refine z_aload_n ok dL_known_416 0 rfl ?_
  refine z_iconst ok dL_known_417 (x := nI 3) (by decide) ?_
  refine z_callVi ok old dL_known_418 [] (zM_eq1 (r := nI 2) (c_X2_count G 47 hN hg w16 (nI 3)) (Q_count h16 fk_181)) zy_X2_count zw_292 0 (by omega) (zE_0 G _) rfl rfl rfl rfl rfl (by decide) (Nat.le_of_ble_eq_true rfl) ?_
  refine z_iconst ok dL_known_421 (x := nI 2) (by decide) ?_
  refine z_icmp_ne ok dL_known_422 473 (by decide) (fun q => absurd q (by decide)) (fun _ => ?_)
  refine z_aload_n ok dL_known_425 0 rfl ?_
  obtain ⟨w17, Hw17, a17, h17⟩ := Q_undo (k := 4) h16
  refine z_callVi ok old dL_known_426 [] (zM_eq (r := nI 4) (c_X2_undo G 47 hN hg w16) a17) zy_X2_undo zw_308 0 (by omega) (zE_0 G _) rfl rfl rfl rfl rfl (by decide) (Nat.le_of_ble_eq_true rfl) ?_
  refine z_iconst ok dL_known_429 (x := nI 4) (by decide) ?_
  refine z_icmp_ne ok dL_known_430 473 (by decide) (fun q => absurd q (by decide)) (fun _ => ?_)
  refine z_aload_n ok dL_known_433 0 rfl ?_
  refine z_bipush ok dL_known_434 (x := nI 31) (by decide) ?_
  refine z_iconst ok dL_known_436 (x := nI 0) (by decide) ?_
  refine z_iconst ok dL_known_437 (x := nI 4) (by decide) ?_
  refine z_iconst ok dL_known_438 (x := nI 1) (by decide) ?_
  obtain ⟨w18, a18, h18⟩ := Q_put h17 (c := 31) (by decide) (by decide) (by decide) fk_182 fk_183 fk_184 fk_185
  refine z_callVi ok old dL_known_439 [] (zM_eq (r := nI 1) (c_X2_put G 47 hN hg w17 (nI 31) (nI 0) (nI 4) (nI 1)) a18) zy_X2_put zw_253 0 (by omega) (zE_0 G _) rfl rfl rfl rfl rfl (by decide) (Nat.le_of_ble_eq_true rfl) ?_
  refine z_iconst ok dL_known_442 (x := nI 1) (by decide) ?_
  refine z_icmp_ne ok dL_known_443 473 (by decide) (fun q => absurd q (by decide)) (fun _ => ?_)
  refine z_aload_n ok dL_known_446 0 rfl ?_
  obtain ⟨w19, a19, h19⟩ := Q_pass h18 fk_186 fk_187 fk_188
  refine z_callVi ok old dL_known_447 [] (zM_eq (r := nI 1) (c_X2_pass G 47 hN hg w18) a19) zy_X2_pass zw_365 0 (by omega) (zE_0 G _) rfl rfl rfl rfl rfl (by decide) (Nat.le_of_ble_eq_true rfl) ?_
  refine z_iconst ok dL_known_450 (x := nI 1) (by decide) ?_
  refine z_icmp_ne ok dL_known_451 473 (by decide) (fun q => absurd q (by decide)) (fun _ => ?_)
  refine z_aload_n ok dL_known_454 0 rfl ?_
  refine z_iconst ok dL_known_455 (x := nI 2) (by decide) ?_
  refine z_callVi ok old dL_known_456 [] (zM_eq1 (r := (-4)) (c_X2_count G 47 hN hg w19 (nI 2)) (Q_count h19 fk_189)) zy_X2_count zw_292 0 (by omega) (zE_0 G _) rfl rfl rfl rfl rfl (by decide) (Nat.le_of_ble_eq_true rfl) ?_
  refine z_bipush ok dL_known_459 (x := (-4)) (by decide) ?_
  refine z_icmp_ne ok dL_known_461 473 (by decide) (fun q => absurd q (by decide)) (fun _ => ?_)
  refine z_aload_n ok dL_known_464 0 rfl ?_
  obtain ⟨w20, a20, h20⟩ := Q_setUp h19 fk_109 fk_190
  refine z_callVi ok old dL_known_465 [] (zM_eq (r := nI 96) (c_X2_setUp G 47 hN hg w19) a20) zy_X2_setUp zw_202 0 (by omega) (zE_0 G _) rfl rfl rfl rfl rfl (by decide) (Nat.le_of_ble_eq_true rfl) ?_
  refine z_bipush ok dL_known_468 (x := nI 96) (by decide) ?_
  refine z_icmp_eq ok dL_known_470 475 (by decide) (fun _ => ?_) (fun q => absurd q (by decide))
  refine z_aload_n ok dL_known_475 0 rfl ?_
  obtain ⟨w21, Hw21, a21, h21⟩ := c_L_isCleared hN hg h20 rfl
  refine z_callSi ok old dL_known_476 [] a21 zy_L_isCleared zw_556 rfl rfl (by decide) (Nat.le_of_ble_eq_true rfl) ?_
  refine z_if_eq ok dL_known_479 591 (by decide) (fun q => absurd q (by decide)) (fun _ => ?_)
  refine z_aload_n ok dL_known_482 0 rfl ?_
  refine z_bipush ok dL_known_483 (x := nI 25) (by decide) ?_
  refine z_iconst ok dL_known_485 (x := nI 0) (by decide) ?_
  refine z_iconst ok dL_known_486 (x := nI 4) (by decide) ?_
  refine z_iconst ok dL_known_487 (x := nI 2) (by decide) ?_
  obtain ⟨w22, a22, h22⟩ := Q_put h21 (c := 25) (by decide) (by decide) (by decide) fk_191 fk_115 fk_192 fk_193
  refine z_callVi ok old dL_known_488 [] (zM_eq (r := nI 0) (c_X2_put G 47 hN hg w21 (nI 25) (nI 0) (nI 4) (nI 2)) a22) zy_X2_put zw_253 0 (by omega) (zE_0 G _) rfl rfl rfl rfl rfl (by decide) (Nat.le_of_ble_eq_true rfl) ?_
  refine z_if_ne ok dL_known_491 591 (by decide) (fun q => absurd q (by decide)) (fun _ => ?_)
  refine z_aload_n ok dL_known_494 0 rfl ?_
  refine z_bipush ok dL_known_495 (x := nI 25) (by decide) ?_
  refine z_iconst ok dL_known_497 (x := nI 3) (by decide) ?_
  obtain ⟨w23, a23, h23⟩ := Q_reach h22 (c := 25) (f := 3) (by decide) (by decide) fk_194 fk_195
  refine z_callVi ok old dL_known_498 [] (zM_eq (r := nI 2) (c_X2_reach G 47 hN hg w22 (nI 25) (nI 3)) a23) zy_X2_reach zw_443 0 (by omega) (zE_0 G _) rfl rfl rfl rfl rfl (by decide) (Nat.le_of_ble_eq_true rfl) ?_
  refine z_iconst ok dL_known_501 (x := nI 2) (by decide) ?_
  refine z_icmp_ne ok dL_known_502 591 (by decide) (fun q => absurd q (by decide)) (fun _ => ?_)
  refine z_aload_n ok dL_known_505 0 rfl ?_
  obtain ⟨w24, a24, h24⟩ := Q_replies h23 (q_list (Q_inv h23) fk_196 fk_197 fk_198) fk_202
  refine z_callVi ok old dL_known_506 [] (zM_eq (r := nI 1) (c_X2_replies G 47 hN hg w23) a24) zy_X2_replies zw_536 0 (by omega) (zE_0 G _) rfl rfl rfl rfl rfl (by decide) (Nat.le_of_ble_eq_true rfl) ?_
  refine z_iconst ok dL_known_509 (x := nI 1) (by decide) ?_
  refine z_icmp_ne ok dL_known_510 591 (by decide) (fun q => absurd q (by decide)) (fun _ => ?_)
  refine z_aload_n ok dL_known_513 0 rfl ?_
  refine z_bipush ok dL_known_514 (x := nI 25) (by decide) ?_
  refine z_bipush ok dL_known_516 (x := nI 31) (by decide) ?_
  obtain ⟨w25, a25, h25⟩ := Q_move h24 (f := 25) (t := 31) (by decide) (by decide) fk_203 fk_204 fk_205
  refine z_callVi ok old dL_known_518 [] (zM_eq (r := nI 1) (c_X2_move G 47 hN hg w24 (nI 25) (nI 31)) a25) zy_X2_move zw_312 0 (by omega) (zE_0 G _) rfl rfl rfl rfl rfl (by decide) (Nat.le_of_ble_eq_true rfl) ?_
  refine z_iconst ok dL_known_521 (x := nI 1) (by decide) ?_
  refine z_icmp_ne ok dL_known_522 591 (by decide) (fun q => absurd q (by decide)) (fun _ => ?_)
  refine z_aload_n ok dL_known_525 0 rfl ?_
  refine z_bipush ok dL_known_526 (x := nI 31) (by decide) ?_
  refine z_iconst ok dL_known_528 (x := nI 1) (by decide) ?_
  refine z_callVi ok old dL_known_529 [] (zM_eq1 (r := nI 1) (c_X2_cell G 47 hN hg w25 (nI 31) (nI 1)) (Q_cell h25 (c := 31) (f := 1) (by decide) (by decide) fk_206)) zy_X2_cell zw_415 0 (by omega) (zE_0 G _) rfl rfl rfl rfl rfl (by decide) (Nat.le_of_ble_eq_true rfl) ?_
  refine z_iconst ok dL_known_532 (x := nI 1) (by decide) ?_
  refine z_icmp_ne ok dL_known_533 591 (by decide) (fun q => absurd q (by decide)) (fun _ => ?_)
  refine z_aload_n ok dL_known_536 0 rfl ?_
  refine z_bipush ok dL_known_537 (x := nI 31) (by decide) ?_
  refine z_iconst ok dL_known_539 (x := nI 2) (by decide) ?_
  refine z_callVi ok old dL_known_540 [] (zM_eq1 (r := nI 1) (c_X2_cell G 47 hN hg w25 (nI 31) (nI 2)) (Q_cell h25 (c := 31) (f := 2) (by decide) (by decide) fk_207)) zy_X2_cell zw_415 0 (by omega) (zE_0 G _) rfl rfl rfl rfl rfl (by decide) (Nat.le_of_ble_eq_true rfl) ?_
  refine z_iconst ok dL_known_543 (x := nI 1) (by decide) ?_
  refine z_icmp_ne ok dL_known_544 591 (by decide) (fun q => absurd q (by decide)) (fun _ => ?_)
  refine z_aload_n ok dL_known_547 0 rfl ?_
  refine z_iconst ok dL_known_548 (x := nI 0) (by decide) ?_
  refine z_callVi ok old dL_known_549 [] (zM_eq1 (r := nI 1) (c_X2_count G 47 hN hg w25 (nI 0)) (Q_count h25 fk_208)) zy_X2_count zw_292 0 (by omega) (zE_0 G _) rfl rfl rfl rfl rfl (by decide) (Nat.le_of_ble_eq_true rfl) ?_
  refine z_iconst ok dL_known_552 (x := nI 1) (by decide) ?_
  refine z_icmp_ne ok dL_known_553 591 (by decide) (fun q => absurd q (by decide)) (fun _ => ?_)
  refine z_aload_n ok dL_known_556 0 rfl ?_
  obtain ⟨w26, a26, h26⟩ := Q_pass h25 fk_209 fk_210 fk_211
  refine z_callVi ok old dL_known_557 [] (zM_eq (r := nI 0) (c_X2_pass G 47 hN hg w25) a26) zy_X2_pass zw_365 0 (by omega) (zE_0 G _) rfl rfl rfl rfl rfl (by decide) (Nat.le_of_ble_eq_true rfl) ?_
  refine z_if_ne ok dL_known_560 591 (by decide) (fun q => absurd q (by decide)) (fun _ => ?_)
  refine z_aload_n ok dL_known_563 0 rfl ?_
  refine z_iconst ok dL_known_564 (x := nI 0) (by decide) ?_
  refine z_callVi ok old dL_known_565 [] (zM_eq1 (r := nI 3) (c_X2_moves G 47 hN hg w26 (nI 0)) (Q_moves h26 (by decide) fk_212 rfl)) zy_X2_moves zw_388 0 (by omega) (zE_0 G _) rfl rfl rfl rfl rfl (by decide) (Nat.le_of_ble_eq_true rfl) ?_
  refine z_aload_n ok dL_known_568 0 rfl ?_
  refine z_bipush ok dL_known_569 (x := nI 31) (by decide) ?_
  refine z_iconst ok dL_known_571 (x := nI 4) (by decide) ?_
  refine z_callVi ok old dL_known_572 [.int (nI 3)] (zM_eq1 (r := nI 3) (c_X2_cell G 47 hN hg w26 (nI 31) (nI 4)) (Q_cell4 h26 (c := 31) (by decide) fk_213)) zy_X2_cell zw_415 0 (by omega) (zE_0 G _) rfl rfl rfl rfl rfl (by decide) (Nat.le_of_ble_eq_true rfl) ?_
  refine z_icmp_ne ok dL_known_575 591 (by decide) (fun q => absurd q (by decide)) (fun _ => ?_)
  refine z_aload_n ok dL_known_578 0 rfl ?_
  refine z_iconst ok dL_known_579 (x := nI 0) (by decide) ?_
  refine z_callVi ok old dL_known_580 [] (zM_eq1 (r := nI 3) (c_X2_moves G 47 hN hg w26 (nI 0)) (Q_moves h26 (by decide) fk_212 rfl)) zy_X2_moves zw_388 0 (by omega) (zE_0 G _) rfl rfl rfl rfl rfl (by decide) (Nat.le_of_ble_eq_true rfl) ?_
  refine z_iconst ok dL_known_583 (x := nI 3) (by decide) ?_
  refine z_icmp_ne ok dL_known_584 591 (by decide) (fun q => absurd q (by decide)) (fun _ => ?_)
  refine z_iconst ok dL_known_587 (x := nI 1) (by decide) ?_
  refine z_goto ok dL_known_588 592 (by decide) ?_
  exact fin _ _
theorem t_L_known (E : yD) : zT yL_known cL_known 1 8 194 (0 + 1 + 46) (0 + 8 + 1298) E := by
  refine zT_of zy_L_known.2.2.2.2.2.2 (by decide) (fun k ok hE hO hI => ?_)
  refine y_made ok hO (fun i hi => hI i (by omega)) dL_known_0 zw_54 dL_known_3 dL_known_4 zw_56 dL_known_7 ⟨by omega, by omega⟩ (fun G k' hg hk ok' old' => ?_)
  have hI' : ∀ i, i < 1 → zIn k' i := by
    subst hk
    obtain ⟨p, l, e, R, s, m, args, below, meth, c0, Q, A, nL, c1, s1⟩ := k
    exact hI
  exact walk_known hg ok' old' hI' w01_Q (fun w lv => z_iretT hE hk ok' dL_known_592 rfl)
