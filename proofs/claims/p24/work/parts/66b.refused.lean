/-! what is refused changes nothing -/
set_option maxRecDepth 100000 in
set_option maxHeartbeats 4000000 in
theorem c_L_refused {G : zG} {N : Nat} (hN : 47 ≤ N) (hg : zGeo G N) {w : xW} {A : xA} (h : zSim w A) : zM yL_refused cL_refused 6 (some .boolean) 8 192 G N [.ref (zad G 0)] w (some 1) w := by
  refine zM_of zy_L_refused.2.2.2.2.2.2 hg ⟨Nat.le_of_ble_eq_true rfl, by decide⟩ rfl (fun k ok hE hI => ?_)
  have old := hE.old
  refine z_aload_n ok dL_refused_0 0 rfl ?_
  refine z_callSV ok old dL_refused_1 [] (c_L_state hN hg h) zy_L_state zw_407 rfl rfl (by decide) (Nat.le_of_ble_eq_true rfl) ?_
  refine z_aload_n ok dL_refused_4 0 rfl ?_
  refine z_bipush ok dL_refused_5 (x := nI 8) (by decide) ?_
  refine z_callVi ok old dL_refused_7 [.long (stO (aS A))] (zM_eq1 (c_X2_count G N hN hg w (nI 8)) (K_count h _)) zy_X2_count zw_292 0 (by omega) (zE_0 G _) rfl rfl rfl rfl rfl (by decide) (Nat.le_of_ble_eq_true rfl) ?_
  refine z_i2l ok dL_refused_10 ?_
  refine z_callSV ok old dL_refused_11 [] (c_L_mixed hg w (stO (aS A)) (s_count (aS A) (ak A) (an A) (nI 8)).toInt64) zy_L_mixed zw_411 rfl rfl (by decide) (Nat.le_of_ble_eq_true rfl) ?_
  refine z_aload_n ok dL_refused_14 0 rfl ?_
  refine z_bipush ok dL_refused_15 (x := nI 9) (by decide) ?_
  refine z_callVi ok old dL_refused_17 [.long (stM (stO (aS A)) (s_count (aS A) (ak A) (an A) (nI 8)).toInt64)] (zM_eq1 (c_X2_count G N hN hg w (nI 9)) (K_count h _)) zy_X2_count zw_292 0 (by omega) (zE_0 G _) rfl rfl rfl rfl rfl (by decide) (Nat.le_of_ble_eq_true rfl) ?_
  refine z_i2l ok dL_refused_20 ?_
  refine z_callSV ok old dL_refused_21 [] (c_L_mixed hg w (stM (stO (aS A)) (s_count (aS A) (ak A) (an A) (nI 8)).toInt64) (s_count (aS A) (ak A) (an A) (nI 9)).toInt64) zy_L_mixed zw_411 rfl rfl (by decide) (Nat.le_of_ble_eq_true rfl) ?_
  refine z_lstore_n ok dL_refused_24 (hI 2 (by decide)) (lv' := [(1, .long (stM (stM (stO (aS A)) (s_count (aS A) (ak A) (an A) (nI 8)).toInt64) (s_count (aS A) (ak A) (an A) (nI 9)).toInt64)), (0, .ref (zad G 0))]) rfl ?_
  refine z_iconst ok dL_refused_25 (x := nI 0) (by decide) ?_
  refine z_istore_n ok dL_refused_26 (hI 3 (by decide)) (lv' := [(3, .int (nI 0)), (1, .long (stM (stM (stO (aS A)) (s_count (aS A) (ak A) (an A) (nI 8)).toInt64) (s_count (aS A) (ak A) (an A) (nI 9)).toInt64)), (0, .ref (zad G 0))]) rfl ?_
  refine z_iload_n ok dL_refused_27 0 rfl ?_
  refine z_iconst ok dL_refused_28 (x := nI 2) (by decide) ?_
  refine z_icmp_ge ok dL_refused_29 229 (by decide) (fun q => absurd q (by decide)) (fun _ => ?_)
  refine z_iload_n ok dL_refused_32 0 rfl ?_
  refine z_if_ne ok dL_refused_33 41 (by decide) (fun q => absurd q (by decide)) (fun _ => ?_)
  refine z_bipush ok dL_refused_36 (x := nI 36) (by decide) ?_
  refine z_goto ok dL_refused_38 42 (by decide) ?_
  refine z_istore ok dL_refused_42 (hI 4 (by decide)) (lv' := [(4, .int (nI 36)), (3, .int (nI 0)), (1, .long (stM (stM (stO (aS A)) (s_count (aS A) (ak A) (an A) (nI 8)).toInt64) (s_count (aS A) (ak A) (an A) (nI 9)).toInt64)), (0, .ref (zad G 0))]) rfl ?_
  refine z_aload_n ok dL_refused_44 3 rfl ?_
  refine z_iload ok dL_refused_45 0 rfl ?_
  refine z_iconst ok dL_refused_47 (x := nI 0) (by decide) ?_
  refine z_iconst ok dL_refused_48 (x := nI 0) (by decide) ?_
  refine z_iconst ok dL_refused_49 (x := nI 0) (by decide) ?_
  refine z_callVi ok old dL_refused_50 [] (zM_eq (c_X2_put G N hN hg w (nI 36) (nI 0) (nI 0) (nI 0)) (K_put_bad h (Or.inl (by decide)))) zy_X2_put zw_253 0 (by omega) (zE_0 G _) rfl rfl rfl rfl rfl (by decide) (Nat.le_of_ble_eq_true rfl) ?_
  refine z_iconst ok dL_refused_53 (x := (-1)) (by decide) ?_
  refine z_icmp_ne ok dL_refused_54 166 (by decide) (fun q => absurd q (by decide)) (fun _ => ?_)
  refine z_aload_n ok dL_refused_57 3 rfl ?_
  refine z_iload ok dL_refused_58 0 rfl ?_
  refine z_callVi ok old dL_refused_60 [] (zM_eq (c_X2_tower G N hN hg w (nI 36)) (K_tower_bad _ (by decide))) zy_X2_tower zw_279 0 (by omega) (zE_0 G _) rfl rfl rfl rfl rfl (by decide) (Nat.le_of_ble_eq_true rfl) ?_
  refine z_iconst ok dL_refused_63 (x := (-1)) (by decide) ?_
  refine z_icmp_ne ok dL_refused_64 166 (by decide) (fun q => absurd q (by decide)) (fun _ => ?_)
  refine z_aload_n ok dL_refused_67 3 rfl ?_
  refine z_iload ok dL_refused_68 0 rfl ?_
  refine z_iconst ok dL_refused_70 (x := nI 0) (by decide) ?_
  refine z_callVi ok old dL_refused_71 [] (zM_eq1 (r := -1) (c_X2_cell G N hN hg w (nI 36) (nI 0)) (K_cell_bad _ (Or.inl (by decide)))) zy_X2_cell zw_415 0 (by omega) (zE_0 G _) rfl rfl rfl rfl rfl (by decide) (Nat.le_of_ble_eq_true rfl) ?_
  refine z_iconst ok dL_refused_74 (x := (-1)) (by decide) ?_
  refine z_icmp_ne ok dL_refused_75 166 (by decide) (fun q => absurd q (by decide)) (fun _ => ?_)
  refine z_aload_n ok dL_refused_78 3 rfl ?_
  refine z_iload ok dL_refused_79 0 rfl ?_
  refine z_iconst ok dL_refused_81 (x := nI 0) (by decide) ?_
  refine z_callVi ok old dL_refused_82 [] (zM_eq (c_X2_move G N hN hg w (nI 36) (nI 0)) (K_move_bad _ (Or.inl (by decide)))) zy_X2_move zw_312 0 (by omega) (zE_0 G _) rfl rfl rfl rfl rfl (by decide) (Nat.le_of_ble_eq_true rfl) ?_
  refine z_iconst ok dL_refused_85 (x := (-1)) (by decide) ?_
  refine z_icmp_ne ok dL_refused_86 166 (by decide) (fun q => absurd q (by decide)) (fun _ => ?_)
  refine z_aload_n ok dL_refused_89 3 rfl ?_
  refine z_iconst ok dL_refused_90 (x := nI 0) (by decide) ?_
  refine z_iload ok dL_refused_91 0 rfl ?_
  refine z_callVi ok old dL_refused_93 [] (zM_eq (c_X2_move G N hN hg w (nI 0) (nI 36)) (K_move_bad _ (Or.inr (by decide)))) zy_X2_move zw_312 0 (by omega) (zE_0 G _) rfl rfl rfl rfl rfl (by decide) (Nat.le_of_ble_eq_true rfl) ?_
  refine z_iconst ok dL_refused_96 (x := (-1)) (by decide) ?_
  refine z_icmp_ne ok dL_refused_97 166 (by decide) (fun q => absurd q (by decide)) (fun _ => ?_)
  refine z_aload_n ok dL_refused_100 3 rfl ?_
  refine z_iload ok dL_refused_101 0 rfl ?_
  refine z_iconst ok dL_refused_103 (x := nI 0) (by decide) ?_
  refine z_callVi ok old dL_refused_104 [] (zM_eq1 (r := -1) (c_X2_refusal G N hN hg w (nI 36) (nI 0)) (K_refusal_bad _ (Or.inl (by decide)))) zy_X2_refusal zw_428 0 (by omega) (zE_0 G _) rfl rfl rfl rfl rfl (by decide) (Nat.le_of_ble_eq_true rfl) ?_
  refine z_iconst ok dL_refused_107 (x := (-1)) (by decide) ?_
  refine z_icmp_ne ok dL_refused_108 166 (by decide) (fun q => absurd q (by decide)) (fun _ => ?_)
  refine z_aload_n ok dL_refused_111 3 rfl ?_
  refine z_iconst ok dL_refused_112 (x := nI 0) (by decide) ?_
  refine z_iload ok dL_refused_113 0 rfl ?_
  refine z_callVi ok old dL_refused_115 [] (zM_eq1 (r := -1) (c_X2_refusal G N hN hg w (nI 0) (nI 36)) (K_refusal_bad _ (Or.inr (by decide)))) zy_X2_refusal zw_428 0 (by omega) (zE_0 G _) rfl rfl rfl rfl rfl (by decide) (Nat.le_of_ble_eq_true rfl) ?_
  refine z_iconst ok dL_refused_118 (x := (-1)) (by decide) ?_
  refine z_icmp_ne ok dL_refused_119 166 (by decide) (fun q => absurd q (by decide)) (fun _ => ?_)
  refine z_aload_n ok dL_refused_122 3 rfl ?_
  refine z_iload ok dL_refused_123 0 rfl ?_
  refine z_iconst ok dL_refused_125 (x := nI 0) (by decide) ?_
  refine z_callVi ok old dL_refused_126 [] (zM_eq1 (r := -1) (c_X2_cost G N hN hg w (nI 36) (nI 0)) (K_cost_bad _ (Or.inl (by decide)))) zy_X2_cost zw_432 0 (by omega) (zE_0 G _) rfl rfl rfl rfl rfl (by decide) (Nat.le_of_ble_eq_true rfl) ?_
  refine z_iconst ok dL_refused_129 (x := (-1)) (by decide) ?_
  refine z_icmp_ne ok dL_refused_130 166 (by decide) (fun q => absurd q (by decide)) (fun _ => ?_)
  refine z_aload_n ok dL_refused_133 3 rfl ?_
  refine z_iconst ok dL_refused_134 (x := nI 0) (by decide) ?_
  refine z_iload ok dL_refused_135 0 rfl ?_
  refine z_callVi ok old dL_refused_137 [] (zM_eq1 (r := -1) (c_X2_cost G N hN hg w (nI 0) (nI 36)) (K_cost_bad _ (Or.inr (by decide)))) zy_X2_cost zw_432 0 (by omega) (zE_0 G _) rfl rfl rfl rfl rfl (by decide) (Nat.le_of_ble_eq_true rfl) ?_
  refine z_iconst ok dL_refused_140 (x := (-1)) (by decide) ?_
  refine z_icmp_ne ok dL_refused_141 166 (by decide) (fun q => absurd q (by decide)) (fun _ => ?_)
  refine z_aload_n ok dL_refused_144 3 rfl ?_
  refine z_iload ok dL_refused_145 0 rfl ?_
  refine z_iconst ok dL_refused_147 (x := nI 0) (by decide) ?_
  refine z_callVi ok old dL_refused_148 [] (zM_eq (c_X2_struck G N hN hg w (nI 36) (nI 0)) (K_struck_bad _ (Or.inl (by decide)))) zy_X2_struck zw_437 0 (by omega) (zE_0 G _) rfl rfl rfl rfl rfl (by decide) (Nat.le_of_ble_eq_true rfl) ?_
  refine z_iconst ok dL_refused_151 (x := (-1)) (by decide) ?_
  refine z_icmp_ne ok dL_refused_152 166 (by decide) (fun q => absurd q (by decide)) (fun _ => ?_)
  refine z_aload_n ok dL_refused_155 3 rfl ?_
  refine z_iload ok dL_refused_156 0 rfl ?_
  refine z_iconst ok dL_refused_158 (x := nI 0) (by decide) ?_
  refine z_callVi ok old dL_refused_159 [] (zM_eq (c_X2_reach G N hN hg w (nI 36) (nI 0)) (K_reach_bad _ (Or.inl (by decide)))) zy_X2_reach zw_443 0 (by omega) (zE_0 G _) rfl rfl rfl rfl rfl (by decide) (Nat.le_of_ble_eq_true rfl) ?_
  refine z_iconst ok dL_refused_162 (x := (-1)) (by decide) ?_
  refine z_icmp_eq ok dL_refused_163 168 (by decide) (fun _ => ?_) (fun q => absurd q (by decide))
  refine z_iload_n ok dL_refused_168 1 rfl ?_
  refine z_if_ne ok dL_refused_169 176 (by decide) (fun q => absurd q (by decide)) (fun _ => ?_)
  refine z_iconst ok dL_refused_172 (x := nI 2) (by decide) ?_
  refine z_goto ok dL_refused_173 177 (by decide) ?_
  refine z_istore ok dL_refused_177 (hI 5 (by decide)) (lv' := [(5, .int (nI 2)), (4, .int (nI 36)), (3, .int (nI 0)), (1, .long (stM (stM (stO (aS A)) (s_count (aS A) (ak A) (an A) (nI 8)).toInt64) (s_count (aS A) (ak A) (an A) (nI 9)).toInt64)), (0, .ref (zad G 0))]) rfl ?_
  refine z_aload_n ok dL_refused_179 4 rfl ?_
  refine z_iload ok dL_refused_180 0 rfl ?_
  refine z_callVi ok old dL_refused_182 [] (zM_eq1 (r := -1) (c_X2_moves G N hN hg w (nI 2)) (K_moves_bad _ (by decide))) zy_X2_moves zw_388 0 (by omega) (zE_0 G _) rfl rfl rfl rfl rfl (by decide) (Nat.le_of_ble_eq_true rfl) ?_
  refine z_iconst ok dL_refused_185 (x := (-1)) (by decide) ?_
  refine z_icmp_ne ok dL_refused_186 221 (by decide) (fun q => absurd q (by decide)) (fun _ => ?_)
  refine z_aload_n ok dL_refused_189 4 rfl ?_
  refine z_iload ok dL_refused_190 0 rfl ?_
  refine z_iconst ok dL_refused_192 (x := nI 0) (by decide) ?_
  refine z_callVi ok old dL_refused_193 [] (zM_eq1 (r := -1) (c_X2_listed G N hN hg w (nI 2) (nI 0)) (K_listed_bad _ (Or.inl (by decide)))) zy_X2_listed zw_393 0 (by omega) (zE_0 G _) rfl rfl rfl rfl rfl (by decide) (Nat.le_of_ble_eq_true rfl) ?_
  refine z_iconst ok dL_refused_196 (x := (-1)) (by decide) ?_
  refine z_icmp_ne ok dL_refused_197 221 (by decide) (fun q => absurd q (by decide)) (fun _ => ?_)
  refine z_aload_n ok dL_refused_200 4 rfl ?_
  refine z_iconst ok dL_refused_201 (x := nI 0) (by decide) ?_
  refine z_iload ok dL_refused_202 0 rfl ?_
  refine z_callVi ok old dL_refused_204 [] (zM_eq (c_X2_struck G N hN hg w (nI 0) (nI 2)) (K_struck_bad _ (Or.inr (by decide)))) zy_X2_struck zw_437 0 (by omega) (zE_0 G _) rfl rfl rfl rfl rfl (by decide) (Nat.le_of_ble_eq_true rfl) ?_
  refine z_iconst ok dL_refused_207 (x := (-1)) (by decide) ?_
  refine z_icmp_ne ok dL_refused_208 221 (by decide) (fun q => absurd q (by decide)) (fun _ => ?_)
  refine z_aload_n ok dL_refused_211 4 rfl ?_
  refine z_iload ok dL_refused_212 0 rfl ?_
  refine z_callVi ok old dL_refused_214 [] (zM_eq (c_X2_fault G N hN hg w (nI 2)) (K_fault_bad _ (by decide) (by decide))) zy_X2_fault zw_462 0 (by omega) (zE_0 G _) rfl rfl rfl rfl rfl (by decide) (Nat.le_of_ble_eq_true rfl) ?_
  refine z_iconst ok dL_refused_217 (x := (-1)) (by decide) ?_
  refine z_icmp_eq ok dL_refused_218 223 (by decide) (fun _ => ?_) (fun q => absurd q (by decide))
  refine z_iinc ok dL_refused_223 (hI 3 (by decide)) 2 rfl (y := nI 1) (by decide) (lv' := [(3, .int (nI 1)), (5, .int (nI 2)), (4, .int (nI 36)), (1, .long (stM (stM (stO (aS A)) (s_count (aS A) (ak A) (an A) (nI 8)).toInt64) (s_count (aS A) (ak A) (an A) (nI 9)).toInt64)), (0, .ref (zad G 0))]) rfl ?_
  refine z_goto ok dL_refused_226 27 (by decide) ?_
  refine z_iload_n ok dL_refused_27 0 rfl ?_
  refine z_iconst ok dL_refused_28 (x := nI 2) (by decide) ?_
  refine z_icmp_ge ok dL_refused_29 229 (by decide) (fun q => absurd q (by decide)) (fun _ => ?_)
  refine z_iload_n ok dL_refused_32 0 rfl ?_
  refine z_if_ne ok dL_refused_33 41 (by decide) (fun _ => ?_) (fun q => absurd q (by decide))
  refine z_iconst ok dL_refused_41 (x := (-1)) (by decide) ?_
  refine z_istore ok dL_refused_42 (hI 4 (by decide)) (lv' := [(4, .int (-1)), (3, .int (nI 1)), (5, .int (nI 2)), (1, .long (stM (stM (stO (aS A)) (s_count (aS A) (ak A) (an A) (nI 8)).toInt64) (s_count (aS A) (ak A) (an A) (nI 9)).toInt64)), (0, .ref (zad G 0))]) rfl ?_
  refine z_aload_n ok dL_refused_44 4 rfl ?_
  refine z_iload ok dL_refused_45 0 rfl ?_
  refine z_iconst ok dL_refused_47 (x := nI 0) (by decide) ?_
  refine z_iconst ok dL_refused_48 (x := nI 0) (by decide) ?_
  refine z_iconst ok dL_refused_49 (x := nI 0) (by decide) ?_
  refine z_callVi ok old dL_refused_50 [] (zM_eq (c_X2_put G N hN hg w (-1) (nI 0) (nI 0) (nI 0)) (K_put_bad h (Or.inl (by decide)))) zy_X2_put zw_253 0 (by omega) (zE_0 G _) rfl rfl rfl rfl rfl (by decide) (Nat.le_of_ble_eq_true rfl) ?_
  refine z_iconst ok dL_refused_53 (x := (-1)) (by decide) ?_
  refine z_icmp_ne ok dL_refused_54 166 (by decide) (fun q => absurd q (by decide)) (fun _ => ?_)
  refine z_aload_n ok dL_refused_57 4 rfl ?_
  refine z_iload ok dL_refused_58 0 rfl ?_
  refine z_callVi ok old dL_refused_60 [] (zM_eq (c_X2_tower G N hN hg w (-1)) (K_tower_bad _ (by decide))) zy_X2_tower zw_279 0 (by omega) (zE_0 G _) rfl rfl rfl rfl rfl (by decide) (Nat.le_of_ble_eq_true rfl) ?_
  refine z_iconst ok dL_refused_63 (x := (-1)) (by decide) ?_
  refine z_icmp_ne ok dL_refused_64 166 (by decide) (fun q => absurd q (by decide)) (fun _ => ?_)
  refine z_aload_n ok dL_refused_67 4 rfl ?_
  refine z_iload ok dL_refused_68 0 rfl ?_
  refine z_iconst ok dL_refused_70 (x := nI 0) (by decide) ?_
  refine z_callVi ok old dL_refused_71 [] (zM_eq1 (r := -1) (c_X2_cell G N hN hg w (-1) (nI 0)) (K_cell_bad _ (Or.inl (by decide)))) zy_X2_cell zw_415 0 (by omega) (zE_0 G _) rfl rfl rfl rfl rfl (by decide) (Nat.le_of_ble_eq_true rfl) ?_
  refine z_iconst ok dL_refused_74 (x := (-1)) (by decide) ?_
  refine z_icmp_ne ok dL_refused_75 166 (by decide) (fun q => absurd q (by decide)) (fun _ => ?_)
  refine z_aload_n ok dL_refused_78 4 rfl ?_
  refine z_iload ok dL_refused_79 0 rfl ?_
  refine z_iconst ok dL_refused_81 (x := nI 0) (by decide) ?_
  refine z_callVi ok old dL_refused_82 [] (zM_eq (c_X2_move G N hN hg w (-1) (nI 0)) (K_move_bad _ (Or.inl (by decide)))) zy_X2_move zw_312 0 (by omega) (zE_0 G _) rfl rfl rfl rfl rfl (by decide) (Nat.le_of_ble_eq_true rfl) ?_
  refine z_iconst ok dL_refused_85 (x := (-1)) (by decide) ?_
  refine z_icmp_ne ok dL_refused_86 166 (by decide) (fun q => absurd q (by decide)) (fun _ => ?_)
  refine z_aload_n ok dL_refused_89 4 rfl ?_
  refine z_iconst ok dL_refused_90 (x := nI 0) (by decide) ?_
  refine z_iload ok dL_refused_91 0 rfl ?_
  refine z_callVi ok old dL_refused_93 [] (zM_eq (c_X2_move G N hN hg w (nI 0) (-1)) (K_move_bad _ (Or.inr (by decide)))) zy_X2_move zw_312 0 (by omega) (zE_0 G _) rfl rfl rfl rfl rfl (by decide) (Nat.le_of_ble_eq_true rfl) ?_
  refine z_iconst ok dL_refused_96 (x := (-1)) (by decide) ?_
  refine z_icmp_ne ok dL_refused_97 166 (by decide) (fun q => absurd q (by decide)) (fun _ => ?_)
  refine z_aload_n ok dL_refused_100 4 rfl ?_
  refine z_iload ok dL_refused_101 0 rfl ?_
  refine z_iconst ok dL_refused_103 (x := nI 0) (by decide) ?_
  refine z_callVi ok old dL_refused_104 [] (zM_eq1 (r := -1) (c_X2_refusal G N hN hg w (-1) (nI 0)) (K_refusal_bad _ (Or.inl (by decide)))) zy_X2_refusal zw_428 0 (by omega) (zE_0 G _) rfl rfl rfl rfl rfl (by decide) (Nat.le_of_ble_eq_true rfl) ?_
  refine z_iconst ok dL_refused_107 (x := (-1)) (by decide) ?_
  refine z_icmp_ne ok dL_refused_108 166 (by decide) (fun q => absurd q (by decide)) (fun _ => ?_)
  refine z_aload_n ok dL_refused_111 4 rfl ?_
  refine z_iconst ok dL_refused_112 (x := nI 0) (by decide) ?_
  refine z_iload ok dL_refused_113 0 rfl ?_
  refine z_callVi ok old dL_refused_115 [] (zM_eq1 (r := -1) (c_X2_refusal G N hN hg w (nI 0) (-1)) (K_refusal_bad _ (Or.inr (by decide)))) zy_X2_refusal zw_428 0 (by omega) (zE_0 G _) rfl rfl rfl rfl rfl (by decide) (Nat.le_of_ble_eq_true rfl) ?_
  refine z_iconst ok dL_refused_118 (x := (-1)) (by decide) ?_
  refine z_icmp_ne ok dL_refused_119 166 (by decide) (fun q => absurd q (by decide)) (fun _ => ?_)
  refine z_aload_n ok dL_refused_122 4 rfl ?_
  refine z_iload ok dL_refused_123 0 rfl ?_
  refine z_iconst ok dL_refused_125 (x := nI 0) (by decide) ?_
  refine z_callVi ok old dL_refused_126 [] (zM_eq1 (r := -1) (c_X2_cost G N hN hg w (-1) (nI 0)) (K_cost_bad _ (Or.inl (by decide)))) zy_X2_cost zw_432 0 (by omega) (zE_0 G _) rfl rfl rfl rfl rfl (by decide) (Nat.le_of_ble_eq_true rfl) ?_
  refine z_iconst ok dL_refused_129 (x := (-1)) (by decide) ?_
  refine z_icmp_ne ok dL_refused_130 166 (by decide) (fun q => absurd q (by decide)) (fun _ => ?_)
  refine z_aload_n ok dL_refused_133 4 rfl ?_
  refine z_iconst ok dL_refused_134 (x := nI 0) (by decide) ?_
  refine z_iload ok dL_refused_135 0 rfl ?_
  refine z_callVi ok old dL_refused_137 [] (zM_eq1 (r := -1) (c_X2_cost G N hN hg w (nI 0) (-1)) (K_cost_bad _ (Or.inr (by decide)))) zy_X2_cost zw_432 0 (by omega) (zE_0 G _) rfl rfl rfl rfl rfl (by decide) (Nat.le_of_ble_eq_true rfl) ?_
  refine z_iconst ok dL_refused_140 (x := (-1)) (by decide) ?_
  refine z_icmp_ne ok dL_refused_141 166 (by decide) (fun q => absurd q (by decide)) (fun _ => ?_)
  refine z_aload_n ok dL_refused_144 4 rfl ?_
  refine z_iload ok dL_refused_145 0 rfl ?_
  refine z_iconst ok dL_refused_147 (x := nI 0) (by decide) ?_
  refine z_callVi ok old dL_refused_148 [] (zM_eq (c_X2_struck G N hN hg w (-1) (nI 0)) (K_struck_bad _ (Or.inl (by decide)))) zy_X2_struck zw_437 0 (by omega) (zE_0 G _) rfl rfl rfl rfl rfl (by decide) (Nat.le_of_ble_eq_true rfl) ?_
  refine z_iconst ok dL_refused_151 (x := (-1)) (by decide) ?_
  refine z_icmp_ne ok dL_refused_152 166 (by decide) (fun q => absurd q (by decide)) (fun _ => ?_)
  refine z_aload_n ok dL_refused_155 4 rfl ?_
  refine z_iload ok dL_refused_156 0 rfl ?_
  refine z_iconst ok dL_refused_158 (x := nI 0) (by decide) ?_
  refine z_callVi ok old dL_refused_159 [] (zM_eq (c_X2_reach G N hN hg w (-1) (nI 0)) (K_reach_bad _ (Or.inl (by decide)))) zy_X2_reach zw_443 0 (by omega) (zE_0 G _) rfl rfl rfl rfl rfl (by decide) (Nat.le_of_ble_eq_true rfl) ?_
  refine z_iconst ok dL_refused_162 (x := (-1)) (by decide) ?_
  refine z_icmp_eq ok dL_refused_163 168 (by decide) (fun _ => ?_) (fun q => absurd q (by decide))
  refine z_iload_n ok dL_refused_168 1 rfl ?_
  refine z_if_ne ok dL_refused_169 176 (by decide) (fun _ => ?_) (fun q => absurd q (by decide))
  refine z_iconst ok dL_refused_176 (x := (-1)) (by decide) ?_
  refine z_istore ok dL_refused_177 (hI 5 (by decide)) (lv' := [(5, .int (-1)), (4, .int (-1)), (3, .int (nI 1)), (1, .long (stM (stM (stO (aS A)) (s_count (aS A) (ak A) (an A) (nI 8)).toInt64) (s_count (aS A) (ak A) (an A) (nI 9)).toInt64)), (0, .ref (zad G 0))]) rfl ?_
  refine z_aload_n ok dL_refused_179 4 rfl ?_
  refine z_iload ok dL_refused_180 0 rfl ?_
  refine z_callVi ok old dL_refused_182 [] (zM_eq1 (r := -1) (c_X2_moves G N hN hg w (-1)) (K_moves_bad _ (by decide))) zy_X2_moves zw_388 0 (by omega) (zE_0 G _) rfl rfl rfl rfl rfl (by decide) (Nat.le_of_ble_eq_true rfl) ?_
  refine z_iconst ok dL_refused_185 (x := (-1)) (by decide) ?_
  refine z_icmp_ne ok dL_refused_186 221 (by decide) (fun q => absurd q (by decide)) (fun _ => ?_)
  refine z_aload_n ok dL_refused_189 4 rfl ?_
  refine z_iload ok dL_refused_190 0 rfl ?_
  refine z_iconst ok dL_refused_192 (x := nI 0) (by decide) ?_
  refine z_callVi ok old dL_refused_193 [] (zM_eq1 (r := -1) (c_X2_listed G N hN hg w (-1) (nI 0)) (K_listed_bad _ (Or.inl (by decide)))) zy_X2_listed zw_393 0 (by omega) (zE_0 G _) rfl rfl rfl rfl rfl (by decide) (Nat.le_of_ble_eq_true rfl) ?_
  refine z_iconst ok dL_refused_196 (x := (-1)) (by decide) ?_
  refine z_icmp_ne ok dL_refused_197 221 (by decide) (fun q => absurd q (by decide)) (fun _ => ?_)
  refine z_aload_n ok dL_refused_200 4 rfl ?_
  refine z_iconst ok dL_refused_201 (x := nI 0) (by decide) ?_
  refine z_iload ok dL_refused_202 0 rfl ?_
  refine z_callVi ok old dL_refused_204 [] (zM_eq (c_X2_struck G N hN hg w (nI 0) (-1)) (K_struck_bad _ (Or.inr (by decide)))) zy_X2_struck zw_437 0 (by omega) (zE_0 G _) rfl rfl rfl rfl rfl (by decide) (Nat.le_of_ble_eq_true rfl) ?_
  refine z_iconst ok dL_refused_207 (x := (-1)) (by decide) ?_
  refine z_icmp_ne ok dL_refused_208 221 (by decide) (fun q => absurd q (by decide)) (fun _ => ?_)
  refine z_aload_n ok dL_refused_211 4 rfl ?_
  refine z_iload ok dL_refused_212 0 rfl ?_
  refine z_callVi ok old dL_refused_214 [] (zM_eq (c_X2_fault G N hN hg w (-1)) (K_fault_bad _ (by decide) (by decide))) zy_X2_fault zw_462 0 (by omega) (zE_0 G _) rfl rfl rfl rfl rfl (by decide) (Nat.le_of_ble_eq_true rfl) ?_
  refine z_iconst ok dL_refused_217 (x := (-1)) (by decide) ?_
  refine z_icmp_eq ok dL_refused_218 223 (by decide) (fun _ => ?_) (fun q => absurd q (by decide))
  refine z_iinc ok dL_refused_223 (hI 3 (by decide)) 2 rfl (y := nI 2) (by decide) (lv' := [(3, .int (nI 2)), (5, .int (-1)), (4, .int (-1)), (1, .long (stM (stM (stO (aS A)) (s_count (aS A) (ak A) (an A) (nI 8)).toInt64) (s_count (aS A) (ak A) (an A) (nI 9)).toInt64)), (0, .ref (zad G 0))]) rfl ?_
  refine z_goto ok dL_refused_226 27 (by decide) ?_
  refine z_iload_n ok dL_refused_27 0 rfl ?_
  refine z_iconst ok dL_refused_28 (x := nI 2) (by decide) ?_
  refine z_icmp_ge ok dL_refused_29 229 (by decide) (fun _ => ?_) (fun q => absurd q (by decide))
  refine z_aload_n ok dL_refused_229 4 rfl ?_
  refine z_iconst ok dL_refused_230 (x := nI 0) (by decide) ?_
  refine z_iconst ok dL_refused_231 (x := nI 2) (by decide) ?_
  refine z_iconst ok dL_refused_232 (x := nI 0) (by decide) ?_
  refine z_iconst ok dL_refused_233 (x := nI 0) (by decide) ?_
  refine z_callVi ok old dL_refused_234 [] (zM_eq (c_X2_put G N hN hg w (nI 0) (nI 2) (nI 0) (nI 0)) (K_put_bad h (Or.inr (Or.inl (by decide))))) zy_X2_put zw_253 0 (by omega) (zE_0 G _) rfl rfl rfl rfl rfl (by decide) (Nat.le_of_ble_eq_true rfl) ?_
  refine z_iconst ok dL_refused_237 (x := (-1)) (by decide) ?_
  refine z_icmp_ne ok dL_refused_238 392 (by decide) (fun q => absurd q (by decide)) (fun _ => ?_)
  refine z_aload_n ok dL_refused_241 4 rfl ?_
  refine z_iconst ok dL_refused_242 (x := nI 0) (by decide) ?_
  refine z_bipush ok dL_refused_243 (x := (-2)) (by decide) ?_
  refine z_iconst ok dL_refused_245 (x := nI 0) (by decide) ?_
  refine z_iconst ok dL_refused_246 (x := nI 0) (by decide) ?_
  refine z_callVi ok old dL_refused_247 [] (zM_eq (c_X2_put G N hN hg w (nI 0) (-2) (nI 0) (nI 0)) (K_put_bad h (Or.inr (Or.inl (by decide))))) zy_X2_put zw_253 0 (by omega) (zE_0 G _) rfl rfl rfl rfl rfl (by decide) (Nat.le_of_ble_eq_true rfl) ?_
  refine z_iconst ok dL_refused_250 (x := (-1)) (by decide) ?_
  refine z_icmp_ne ok dL_refused_251 392 (by decide) (fun q => absurd q (by decide)) (fun _ => ?_)
  refine z_aload_n ok dL_refused_254 4 rfl ?_
  refine z_iconst ok dL_refused_255 (x := nI 0) (by decide) ?_
  refine z_iconst ok dL_refused_256 (x := nI 0) (by decide) ?_
  refine z_iconst ok dL_refused_257 (x := nI 5) (by decide) ?_
  refine z_iconst ok dL_refused_258 (x := nI 0) (by decide) ?_
  refine z_callVi ok old dL_refused_259 [] (zM_eq (c_X2_put G N hN hg w (nI 0) (nI 0) (nI 5) (nI 0)) (K_put_bad h (Or.inr (Or.inr (Or.inl (by decide)))))) zy_X2_put zw_253 0 (by omega) (zE_0 G _) rfl rfl rfl rfl rfl (by decide) (Nat.le_of_ble_eq_true rfl) ?_
  refine z_iconst ok dL_refused_262 (x := (-1)) (by decide) ?_
  refine z_icmp_ne ok dL_refused_263 392 (by decide) (fun q => absurd q (by decide)) (fun _ => ?_)
  refine z_aload_n ok dL_refused_266 4 rfl ?_
  refine z_iconst ok dL_refused_267 (x := nI 0) (by decide) ?_
  refine z_iconst ok dL_refused_268 (x := (-1)) (by decide) ?_
  refine z_iconst ok dL_refused_269 (x := (-1)) (by decide) ?_
  refine z_iconst ok dL_refused_270 (x := nI 0) (by decide) ?_
  refine z_callVi ok old dL_refused_271 [] (zM_eq (c_X2_put G N hN hg w (nI 0) (-1) (-1) (nI 0)) (K_put_bad h (Or.inr (Or.inr (Or.inl (by decide)))))) zy_X2_put zw_253 0 (by omega) (zE_0 G _) rfl rfl rfl rfl rfl (by decide) (Nat.le_of_ble_eq_true rfl) ?_
  refine z_iconst ok dL_refused_274 (x := (-1)) (by decide) ?_
  refine z_icmp_ne ok dL_refused_275 392 (by decide) (fun q => absurd q (by decide)) (fun _ => ?_)
  refine z_aload_n ok dL_refused_278 4 rfl ?_
  refine z_iconst ok dL_refused_279 (x := nI 0) (by decide) ?_
  refine z_iconst ok dL_refused_280 (x := nI 0) (by decide) ?_
  refine z_iconst ok dL_refused_281 (x := nI 0) (by decide) ?_
  refine z_aload_n ok dL_refused_282 4 rfl ?_
  refine z_bipush ok dL_refused_283 (x := nI 10) (by decide) ?_
  refine z_callVi ok old dL_refused_285 [.int (nI 0), .int (nI 0), .int (nI 0), .ref (zad G 0)] (zM_eq1 (r := aS A 149) (c_X2_count G N hN hg w (nI 10)) ((K_count h _).trans rfl)) zy_X2_count zw_292 0 (by omega) (zE_0 G _) rfl rfl rfl rfl rfl (by decide) (Nat.le_of_ble_eq_true rfl) ?_
  refine z_iconst ok dL_refused_288 (x := nI 1) (by decide) ?_
  refine z_iadd ok dL_refused_289 ?_
  refine z_callVi ok old dL_refused_290 [] (zM_eq (c_X2_put G N hN hg w (nI 0) (nI 0) (nI 0) ((aS A 149) + nI 1)) (K_put_bad h (Or.inr (Or.inr (Or.inr (sin_lim h)))))) zy_X2_put zw_253 0 (by omega) (zE_0 G _) rfl rfl rfl rfl rfl (by decide) (Nat.le_of_ble_eq_true rfl) ?_
  refine z_iconst ok dL_refused_293 (x := (-1)) (by decide) ?_
  refine z_icmp_ne ok dL_refused_294 392 (by decide) (fun q => absurd q (by decide)) (fun _ => ?_)
  refine z_aload_n ok dL_refused_297 4 rfl ?_
  refine z_iconst ok dL_refused_298 (x := nI 0) (by decide) ?_
  refine z_iconst ok dL_refused_299 (x := (-1)) (by decide) ?_
  refine z_iconst ok dL_refused_300 (x := nI 0) (by decide) ?_
  refine z_iconst ok dL_refused_301 (x := (-1)) (by decide) ?_
  refine z_callVi ok old dL_refused_302 [] (zM_eq (c_X2_put G N hN hg w (nI 0) (-1) (nI 0) (-1)) (K_put_bad h (Or.inr (Or.inr (Or.inr sin_neg))))) zy_X2_put zw_253 0 (by omega) (zE_0 G _) rfl rfl rfl rfl rfl (by decide) (Nat.le_of_ble_eq_true rfl) ?_
  refine z_iconst ok dL_refused_305 (x := (-1)) (by decide) ?_
  refine z_icmp_ne ok dL_refused_306 392 (by decide) (fun q => absurd q (by decide)) (fun _ => ?_)
  refine z_aload_n ok dL_refused_309 4 rfl ?_
  refine z_iconst ok dL_refused_310 (x := (-1)) (by decide) ?_
  refine z_iconst ok dL_refused_311 (x := nI 1) (by decide) ?_
  refine z_callVi ok old dL_refused_312 [] (zM_eq (c_X2_set G N hN hg w (-1) (nI 1)) (K_set_bad _ (by decide))) zy_X2_set zw_226 0 (by omega) (zE_0 G _) rfl rfl rfl rfl rfl (by decide) (Nat.le_of_ble_eq_true rfl) ?_
  refine z_iconst ok dL_refused_315 (x := (-1)) (by decide) ?_
  refine z_icmp_ne ok dL_refused_316 392 (by decide) (fun q => absurd q (by decide)) (fun _ => ?_)
  refine z_aload_n ok dL_refused_319 4 rfl ?_
  refine z_iconst ok dL_refused_320 (x := nI 3) (by decide) ?_
  refine z_iconst ok dL_refused_321 (x := nI 1) (by decide) ?_
  refine z_callVi ok old dL_refused_322 [] (zM_eq (c_X2_set G N hN hg w (nI 3) (nI 1)) (K_set_bad _ (by decide))) zy_X2_set zw_226 0 (by omega) (zE_0 G _) rfl rfl rfl rfl rfl (by decide) (Nat.le_of_ble_eq_true rfl) ?_
  refine z_iconst ok dL_refused_325 (x := (-1)) (by decide) ?_
  refine z_icmp_ne ok dL_refused_326 392 (by decide) (fun q => absurd q (by decide)) (fun _ => ?_)
  refine z_aload_n ok dL_refused_329 4 rfl ?_
  refine z_iconst ok dL_refused_330 (x := nI 0) (by decide) ?_
  refine z_iconst ok dL_refused_331 (x := nI 0) (by decide) ?_
  refine z_callVi ok old dL_refused_332 [] (zM_eq (c_X2_set G N hN hg w (nI 0) (nI 0)) (K_set_bad _ (by decide))) zy_X2_set zw_226 0 (by omega) (zE_0 G _) rfl rfl rfl rfl rfl (by decide) (Nat.le_of_ble_eq_true rfl) ?_
  refine z_iconst ok dL_refused_335 (x := (-1)) (by decide) ?_
  refine z_icmp_ne ok dL_refused_336 392 (by decide) (fun q => absurd q (by decide)) (fun _ => ?_)
  refine z_aload_n ok dL_refused_339 4 rfl ?_
  refine z_iconst ok dL_refused_340 (x := nI 0) (by decide) ?_
  refine z_bipush ok dL_refused_341 (x := nI 13) (by decide) ?_
  refine z_callVi ok old dL_refused_343 [] (zM_eq (c_X2_set G N hN hg w (nI 0) (nI 13)) (K_set_bad _ (by decide))) zy_X2_set zw_226 0 (by omega) (zE_0 G _) rfl rfl rfl rfl rfl (by decide) (Nat.le_of_ble_eq_true rfl) ?_
  refine z_iconst ok dL_refused_346 (x := (-1)) (by decide) ?_
  refine z_icmp_ne ok dL_refused_347 392 (by decide) (fun q => absurd q (by decide)) (fun _ => ?_)
  refine z_aload_n ok dL_refused_350 4 rfl ?_
  refine z_iconst ok dL_refused_351 (x := nI 1) (by decide) ?_
  refine z_bipush ok dL_refused_352 (x := nI 6) (by decide) ?_
  refine z_callVi ok old dL_refused_354 [] (zM_eq (c_X2_set G N hN hg w (nI 1) (nI 6)) (K_set_bad _ (by decide))) zy_X2_set zw_226 0 (by omega) (zE_0 G _) rfl rfl rfl rfl rfl (by decide) (Nat.le_of_ble_eq_true rfl) ?_
  refine z_iconst ok dL_refused_357 (x := (-1)) (by decide) ?_
  refine z_icmp_ne ok dL_refused_358 392 (by decide) (fun q => absurd q (by decide)) (fun _ => ?_)
  refine z_aload_n ok dL_refused_361 4 rfl ?_
  refine z_iconst ok dL_refused_362 (x := nI 1) (by decide) ?_
  refine z_iconst ok dL_refused_363 (x := (-1)) (by decide) ?_
  refine z_callVi ok old dL_refused_364 [] (zM_eq (c_X2_set G N hN hg w (nI 1) (-1)) (K_set_bad _ (by decide))) zy_X2_set zw_226 0 (by omega) (zE_0 G _) rfl rfl rfl rfl rfl (by decide) (Nat.le_of_ble_eq_true rfl) ?_
  refine z_iconst ok dL_refused_367 (x := (-1)) (by decide) ?_
  refine z_icmp_ne ok dL_refused_368 392 (by decide) (fun q => absurd q (by decide)) (fun _ => ?_)
  refine z_aload_n ok dL_refused_371 4 rfl ?_
  refine z_iconst ok dL_refused_372 (x := nI 2) (by decide) ?_
  refine z_bipush ok dL_refused_373 (x := nI 6) (by decide) ?_
  refine z_callVi ok old dL_refused_375 [] (zM_eq (c_X2_set G N hN hg w (nI 2) (nI 6)) (K_set_bad _ (by decide))) zy_X2_set zw_226 0 (by omega) (zE_0 G _) rfl rfl rfl rfl rfl (by decide) (Nat.le_of_ble_eq_true rfl) ?_
  refine z_iconst ok dL_refused_378 (x := (-1)) (by decide) ?_
  refine z_icmp_ne ok dL_refused_379 392 (by decide) (fun q => absurd q (by decide)) (fun _ => ?_)
  refine z_aload_n ok dL_refused_382 4 rfl ?_
  refine z_iconst ok dL_refused_383 (x := nI 2) (by decide) ?_
  refine z_iconst ok dL_refused_384 (x := (-1)) (by decide) ?_
  refine z_callVi ok old dL_refused_385 [] (zM_eq (c_X2_set G N hN hg w (nI 2) (-1)) (K_set_bad _ (by decide))) zy_X2_set zw_226 0 (by omega) (zE_0 G _) rfl rfl rfl rfl rfl (by decide) (Nat.le_of_ble_eq_true rfl) ?_
  refine z_iconst ok dL_refused_388 (x := (-1)) (by decide) ?_
  refine z_icmp_eq ok dL_refused_389 394 (by decide) (fun _ => ?_) (fun q => absurd q (by decide))
  refine z_aload_n ok dL_refused_394 4 rfl ?_
  refine z_iconst ok dL_refused_395 (x := nI 0) (by decide) ?_
  refine z_iconst ok dL_refused_396 (x := nI 5) (by decide) ?_
  refine z_callVi ok old dL_refused_397 [] (zM_eq1 (r := -1) (c_X2_cell G N hN hg w (nI 0) (nI 5)) (K_cell_bad _ (Or.inr (Or.inr (by decide))))) zy_X2_cell zw_415 0 (by omega) (zE_0 G _) rfl rfl rfl rfl rfl (by decide) (Nat.le_of_ble_eq_true rfl) ?_
  refine z_iconst ok dL_refused_400 (x := (-1)) (by decide) ?_
  refine z_icmp_ne ok dL_refused_401 517 (by decide) (fun q => absurd q (by decide)) (fun _ => ?_)
  refine z_aload_n ok dL_refused_404 4 rfl ?_
  refine z_iconst ok dL_refused_405 (x := nI 0) (by decide) ?_
  refine z_iconst ok dL_refused_406 (x := (-1)) (by decide) ?_
  refine z_callVi ok old dL_refused_407 [] (zM_eq1 (r := -1) (c_X2_cell G N hN hg w (nI 0) (-1)) (K_cell_bad _ (Or.inr (Or.inl (by decide))))) zy_X2_cell zw_415 0 (by omega) (zE_0 G _) rfl rfl rfl rfl rfl (by decide) (Nat.le_of_ble_eq_true rfl) ?_
  refine z_iconst ok dL_refused_410 (x := (-1)) (by decide) ?_
  refine z_icmp_ne ok dL_refused_411 517 (by decide) (fun q => absurd q (by decide)) (fun _ => ?_)
  refine z_aload_n ok dL_refused_414 4 rfl ?_
  refine z_iconst ok dL_refused_415 (x := (-1)) (by decide) ?_
  refine z_callVi ok old dL_refused_416 [] (zM_eq1 (r := -1) (c_X2_count G N hN hg w (-1)) ((K_count h _).trans rfl)) zy_X2_count zw_292 0 (by omega) (zE_0 G _) rfl rfl rfl rfl rfl (by decide) (Nat.le_of_ble_eq_true rfl) ?_
  refine z_iconst ok dL_refused_419 (x := (-1)) (by decide) ?_
  refine z_icmp_ne ok dL_refused_420 517 (by decide) (fun q => absurd q (by decide)) (fun _ => ?_)
  refine z_aload_n ok dL_refused_423 4 rfl ?_
  refine z_bipush ok dL_refused_424 (x := nI 13) (by decide) ?_
  refine z_callVi ok old dL_refused_426 [] (zM_eq1 (r := -1) (c_X2_count G N hN hg w (nI 13)) ((K_count h _).trans rfl)) zy_X2_count zw_292 0 (by omega) (zE_0 G _) rfl rfl rfl rfl rfl (by decide) (Nat.le_of_ble_eq_true rfl) ?_
  refine z_iconst ok dL_refused_429 (x := (-1)) (by decide) ?_
  refine z_icmp_ne ok dL_refused_430 517 (by decide) (fun q => absurd q (by decide)) (fun _ => ?_)
  refine z_aload_n ok dL_refused_433 4 rfl ?_
  refine z_bipush ok dL_refused_434 (x := nI 19) (by decide) ?_
  refine z_callVi ok old dL_refused_436 [] (zM_eq1 (r := -1) (c_X2_count G N hN hg w (nI 19)) ((K_count h _).trans rfl)) zy_X2_count zw_292 0 (by omega) (zE_0 G _) rfl rfl rfl rfl rfl (by decide) (Nat.le_of_ble_eq_true rfl) ?_
  refine z_iconst ok dL_refused_439 (x := (-1)) (by decide) ?_
  refine z_icmp_ne ok dL_refused_440 517 (by decide) (fun q => absurd q (by decide)) (fun _ => ?_)
  refine z_aload_n ok dL_refused_443 4 rfl ?_
  refine z_bipush ok dL_refused_444 (x := nI 27) (by decide) ?_
  refine z_callVi ok old dL_refused_446 [] (zM_eq1 (r := -1) (c_X2_count G N hN hg w (nI 27)) ((K_count h _).trans rfl)) zy_X2_count zw_292 0 (by omega) (zE_0 G _) rfl rfl rfl rfl rfl (by decide) (Nat.le_of_ble_eq_true rfl) ?_
  refine z_iconst ok dL_refused_449 (x := (-1)) (by decide) ?_
  refine z_icmp_ne ok dL_refused_450 517 (by decide) (fun q => absurd q (by decide)) (fun _ => ?_)
  refine z_aload_n ok dL_refused_453 4 rfl ?_
  refine z_iconst ok dL_refused_454 (x := nI 0) (by decide) ?_
  refine z_iconst ok dL_refused_455 (x := (-1)) (by decide) ?_
  refine z_callVi ok old dL_refused_456 [] (zM_eq1 (r := -1) (c_X2_listed G N hN hg w (nI 0) (-1)) (K_listed_bad _ (Or.inr (by decide)))) zy_X2_listed zw_393 0 (by omega) (zE_0 G _) rfl rfl rfl rfl rfl (by decide) (Nat.le_of_ble_eq_true rfl) ?_
  refine z_iconst ok dL_refused_459 (x := (-1)) (by decide) ?_
  refine z_icmp_ne ok dL_refused_460 517 (by decide) (fun q => absurd q (by decide)) (fun _ => ?_)
  refine z_aload_n ok dL_refused_463 4 rfl ?_
  refine z_iconst ok dL_refused_464 (x := nI 0) (by decide) ?_
  refine z_sipush ok dL_refused_465 (x := nI 500) (by decide +kernel) ?_
  refine z_callVi ok old dL_refused_468 [] (zM_eq1 (r := -4) (c_X2_listed G N hN hg w (nI 0) (nI 500)) (listed_500 h)) zy_X2_listed zw_393 0 (by omega) (zE_0 G _) rfl rfl rfl rfl rfl (by decide) (Nat.le_of_ble_eq_true rfl) ?_
  refine z_bipush ok dL_refused_471 (x := (-4)) (by decide) ?_
  refine z_icmp_ne ok dL_refused_473 517 (by decide) (fun q => absurd q (by decide)) (fun _ => ?_)
  refine z_aload_n ok dL_refused_476 4 rfl ?_
  refine z_iconst ok dL_refused_477 (x := nI 0) (by decide) ?_
  refine z_iconst ok dL_refused_478 (x := (-1)) (by decide) ?_
  refine z_callVi ok old dL_refused_479 [] (zM_eq (c_X2_reach G N hN hg w (nI 0) (-1)) (K_reach_bad _ (Or.inr (Or.inl (by decide))))) zy_X2_reach zw_443 0 (by omega) (zE_0 G _) rfl rfl rfl rfl rfl (by decide) (Nat.le_of_ble_eq_true rfl) ?_
  refine z_iconst ok dL_refused_482 (x := (-1)) (by decide) ?_
  refine z_icmp_ne ok dL_refused_483 517 (by decide) (fun q => absurd q (by decide)) (fun _ => ?_)
  refine z_aload_n ok dL_refused_486 4 rfl ?_
  refine z_iconst ok dL_refused_487 (x := nI 0) (by decide) ?_
  refine z_bipush ok dL_refused_488 (x := nI 13) (by decide) ?_
  refine z_callVi ok old dL_refused_490 [] (zM_eq (c_X2_reach G N hN hg w (nI 0) (nI 13)) (K_reach_bad _ (Or.inr (Or.inr (by decide))))) zy_X2_reach zw_443 0 (by omega) (zE_0 G _) rfl rfl rfl rfl rfl (by decide) (Nat.le_of_ble_eq_true rfl) ?_
  refine z_iconst ok dL_refused_493 (x := (-1)) (by decide) ?_
  refine z_icmp_ne ok dL_refused_494 517 (by decide) (fun q => absurd q (by decide)) (fun _ => ?_)
  refine z_aload_n ok dL_refused_497 4 rfl ?_
  refine z_bipush ok dL_refused_498 (x := nI 31) (by decide) ?_
  refine z_callVi ok old dL_refused_500 [] (zM_eq (c_X2_type G N hN hg w (nI 31)) (K_type_bad _ (Or.inl (by decide)))) zy_X2_type zw_482 0 (by omega) (zE_0 G _) rfl rfl rfl rfl rfl (by decide) (Nat.le_of_ble_eq_true rfl) ?_
  refine z_iconst ok dL_refused_503 (x := (-1)) (by decide) ?_
  refine z_icmp_ne ok dL_refused_504 517 (by decide) (fun q => absurd q (by decide)) (fun _ => ?_)
  refine z_aload_n ok dL_refused_507 4 rfl ?_
  refine z_bipush ok dL_refused_508 (x := nI 127) (by decide) ?_
  refine z_callVi ok old dL_refused_510 [] (zM_eq (c_X2_type G N hN hg w (nI 127)) (K_type_bad _ (Or.inr (by decide)))) zy_X2_type zw_482 0 (by omega) (zE_0 G _) rfl rfl rfl rfl rfl (by decide) (Nat.le_of_ble_eq_true rfl) ?_
  refine z_iconst ok dL_refused_513 (x := (-1)) (by decide) ?_
  refine z_icmp_eq ok dL_refused_514 519 (by decide) (fun _ => ?_) (fun q => absurd q (by decide))
  refine z_aload_n ok dL_refused_519 4 rfl ?_
  refine z_callSV ok old dL_refused_520 [] (c_L_state hN hg h) zy_L_state zw_407 rfl rfl (by decide) (Nat.le_of_ble_eq_true rfl) ?_
  refine z_aload_n ok dL_refused_523 4 rfl ?_
  refine z_bipush ok dL_refused_524 (x := nI 8) (by decide) ?_
  refine z_callVi ok old dL_refused_526 [.long (stO (aS A))] (zM_eq1 (c_X2_count G N hN hg w (nI 8)) (K_count h _)) zy_X2_count zw_292 0 (by omega) (zE_0 G _) rfl rfl rfl rfl rfl (by decide) (Nat.le_of_ble_eq_true rfl) ?_
  refine z_i2l ok dL_refused_529 ?_
  refine z_callSV ok old dL_refused_530 [] (c_L_mixed hg w (stO (aS A)) (s_count (aS A) (ak A) (an A) (nI 8)).toInt64) zy_L_mixed zw_411 rfl rfl (by decide) (Nat.le_of_ble_eq_true rfl) ?_
  refine z_aload_n ok dL_refused_533 4 rfl ?_
  refine z_bipush ok dL_refused_534 (x := nI 9) (by decide) ?_
  refine z_callVi ok old dL_refused_536 [.long (stM (stO (aS A)) (s_count (aS A) (ak A) (an A) (nI 8)).toInt64)] (zM_eq1 (c_X2_count G N hN hg w (nI 9)) (K_count h _)) zy_X2_count zw_292 0 (by omega) (zE_0 G _) rfl rfl rfl rfl rfl (by decide) (Nat.le_of_ble_eq_true rfl) ?_
  refine z_i2l ok dL_refused_539 ?_
  refine z_callSV ok old dL_refused_540 [] (c_L_mixed hg w (stM (stO (aS A)) (s_count (aS A) (ak A) (an A) (nI 8)).toInt64) (s_count (aS A) (ak A) (an A) (nI 9)).toInt64) zy_L_mixed zw_411 rfl rfl (by decide) (Nat.le_of_ble_eq_true rfl) ?_
  refine z_lload_n ok dL_refused_543 3 rfl ?_
  refine z_lcmp ok dL_refused_544 ?_
  refine z_if_ne ok dL_refused_545 552 (by decide) (fun c => absurd (lcmp_0 rfl) c) (fun _ => ?_)
  refine z_iconst ok dL_refused_548 (x := nI 1) (by decide) ?_
  refine z_goto ok dL_refused_549 553 (by decide) ?_
  exact z_iret ok hE dL_refused_553 rfl ⟨rfl, rfl⟩
