/-! the law's helpers that only reckon: part, mixed, state, take -/
def partF (v n : Int32) : Int32 := (v &&& 2147483647) - (v &&& 2147483647) / n * n
theorem part_lt (v : Int32) {m : Nat} (h0 : 0 < m) (hm : m < 2147483648) : ∃ j, j < m ∧ partF v (nI m) = nI j := by
  obtain ⟨a, ha, e⟩ := pk_andE v (m := 2147483647) 31 (by decide)
  unfold partF
  rw [e, pk_rem (by omega) h0 (by omega)]
  exact ⟨a % m, Nat.mod_lt _ h0, rfl⟩
theorem c_L_part {G : zG} {N : Nat} (hg : zGeo G N) (w : xW) (v n : Int32) (hn : ¬ n = 0) : zM yL_part cL_part 2 (some .int) 0 0 G N [.int v, .int n] w (some (partF v n)) w := by
  refine zM_of zy_L_part.2.2.2.2.2.2 hg ⟨Nat.le_of_ble_eq_true rfl, by decide⟩ rfl (fun k ok hE hI => ?_)
  refine z_iload_n ok dL_part_0 0 rfl ?_
  refine z_ldc ok dL_part_1 zw_402 ?_
  refine z_iand ok dL_part_3 ?_
  refine z_iload_n ok dL_part_4 1 rfl ?_
  refine z_irem ok dL_part_5 hn ?_
  exact z_iret ok hE dL_part_6 rfl ⟨rfl, rfl⟩
def stM (h : Int64) (v : Int64) : Int64 := 31 * h + v
theorem c_L_mixed {G : zG} {N : Nat} (hg : zGeo G N) (w : xW) (g h : Int64) : zMV yL_mixed cL_mixed 4 (some .long) 0 0 G N [.long g, .long h] w (some (.long (stM g h))) w := by
  refine zMV_of zy_L_mixed.2.2.2.2.2.2 hg ⟨Nat.le_of_ble_eq_true rfl, by decide⟩ rfl (fun k ok hE hI => ?_)
  refine z_ldc2 ok dL_mixed_0 zw_414 ?_
  refine z_lload_n ok dL_mixed_3 0 rfl ?_
  refine z_lmul ok dL_mixed_4 ?_
  refine z_lload_n ok dL_mixed_5 1 rfl ?_
  refine z_ladd ok dL_mixed_6 ?_
  exact z_lret ok hE dL_mixed_7 ⟨rfl, rfl⟩
/-- all that can be seen of a row, in one long number -/
def stA (S : Nat → Int32) : Nat → Nat → Int64 → Int64
  | 0, _, h => h
  | n + 1, q, h => stA S n (q + 1) (if q = 8 then h else if q = 9 then h else stM h (s_count S 0 0 (nI q)).toInt64)
def stB (S : Nat → Int32) : Nat → Nat → Int64 → Int64
  | 0, _, h => h
  | n + 1, q, h => stB S n (q + 1) (stM h (s_cell S (q / 4) (q % 4)).toInt64)
def stO (S : Nat → Int32) : Int64 := stB S 144 0 (stA S 27 0 4)
theorem st_count (S : Nat → Int32) (k n : Nat) {q : Nat} (hq : q < 27) (h8 : ¬ q = 8) (h9 : ¬ q = 9) : s_count S k n (nI q) = s_count S 0 0 (nI q) := by
  have e8 : ¬ nI q = 8 := fun z => h8 ((nI_eq (a := q) (b := 8) (by omega) (by omega)).mp z)
  have e9 : ¬ nI q = 9 := fun z => h9 ((nI_eq (a := q) (b := 9) (by omega) (by omega)).mp z)
  unfold s_count
  rw [if_neg e8, if_neg e9, if_neg e8, if_neg e9]
set_option maxRecDepth 100000 in
set_option maxHeartbeats 4000000 in
theorem c_L_state {G : zG} {N : Nat} (hN : 47 ≤ N) (hg : zGeo G N) {w : xW} {A : xA} (h : zSim w A) : zMV yL_state cL_state 4 (some .long) 6 146 G N [.ref (zad G 0)] w (some (.long (stO (aS A)))) w := by
  refine zMV_of zy_L_state.2.2.2.2.2.2 hg ⟨Nat.le_of_ble_eq_true rfl, by decide⟩ rfl (fun k ok hE hI => ?_)
  have old := hE.old
  have loopB : ∀ (n q : Nat) (g : Int64), q + n = 144 → zZ k G N w 72 [(0, .ref (zad G 0)), (1, .long (stB (aS A) n q g)), (3, .int (nI 144))] [] → zZ k G N w 43 [(0, .ref (zad G 0)), (1, .long g), (3, .int (nI q))] [] := by
    intro n
    induction n with
    | zero =>
      intro q g e cont
      refine z_iload_n ok dL_state_43 2 rfl ?_
      refine z_sipush ok dL_state_44 (x := nI 144) (by decide) ?_
      refine z_icmp_ge_n ok dL_state_47 72 (by decide) q 144 rfl rfl (by omega) (fun _ => ?_) (fun c => absurd (by omega) c)
      rw [show q = 144 by omega]
      exact cont
    | succ n ih =>
      intro q g e cont
      refine z_iload_n ok dL_state_43 2 rfl ?_
      refine z_sipush ok dL_state_44 (x := nI 144) (by decide) ?_
      refine z_icmp_ge_n ok dL_state_47 72 (by decide) q 144 rfl rfl (by omega) (fun c => absurd c (by omega)) (fun _ => ?_)
      refine z_lload_n ok dL_state_50 1 rfl ?_
      refine z_aload_n ok dL_state_51 0 rfl ?_
      refine z_iload_n ok dL_state_52 2 rfl ?_
      refine z_iconst ok dL_state_53 (x := nI 4) (by decide) ?_
      refine z_idiv_n ok dL_state_54 q 4 rfl rfl (by omega) (by omega) (by omega) ?_
      refine z_iload_n ok dL_state_55 2 rfl ?_
      refine z_iconst ok dL_state_56 (x := nI 4) (by decide) ?_
      refine z_irem_n ok dL_state_57 q 4 rfl rfl (by omega) (by omega) (by omega) ?_
      refine z_callVi ok old dL_state_58 [.long g] (zM_eq1 (c_X2_cell G N hN hg w (nI (q / 4)) (nI (q % 4))) (K_cell h (by omega) (by omega))) zy_X2_cell zw_415 0 (by omega) (zE_0 G w) rfl rfl rfl rfl rfl (by decide) (Nat.le_of_ble_eq_true rfl) ?_
      refine z_i2l ok dL_state_61 ?_
      refine z_callSV ok old dL_state_62 [] (c_L_mixed hg w g (s_cell (aS A) (q / 4) (q % 4)).toInt64) zy_L_mixed zw_411 rfl rfl (by decide) (Nat.le_of_ble_eq_true rfl) ?_
      refine z_lstore_n ok dL_state_65 (hI 2 (by decide)) (lv' := [(1, .long (stM g (s_cell (aS A) (q / 4) (q % 4)).toInt64)), (0, .ref (zad G 0)), (3, .int (nI q))]) rfl ?_
      refine z_iinc ok dL_state_66 (hI 3 (by decide)) 2 rfl (y := nI (q + 1)) (z_incn q 1) (lv' := [(3, .int (nI (q + 1))), (1, .long (stM g (s_cell (aS A) (q / 4) (q % 4)).toInt64)), (0, .ref (zad G 0))]) rfl ?_
      refine z_goto ok dL_state_69 43 (by decide) ?_
      refine z_locs [2, 1, 0] (lv' := [(0, .ref (zad G 0)), (1, .long (stM g (s_cell (aS A) (q / 4) (q % 4)).toInt64)), (3, .int (nI (q + 1)))]) rfl ?_
      exact ih (q + 1) _ (by omega) cont
  have loopA : ∀ (n q : Nat) (g : Int64), q + n = 27 → zZ k G N w 41 [(0, .ref (zad G 0)), (1, .long (stA (aS A) n q g)), (3, .int (nI 27))] [] → zZ k G N w 6 [(0, .ref (zad G 0)), (1, .long g), (3, .int (nI q))] [] := by
    intro n
    induction n with
    | zero =>
      intro q g e cont
      refine z_iload_n ok dL_state_6 2 rfl ?_
      refine z_bipush ok dL_state_7 (x := nI 27) (by decide) ?_
      refine z_icmp_ge_n ok dL_state_9 41 (by decide) q 27 rfl rfl (by omega) (fun _ => ?_) (fun c => absurd (by omega) c)
      rw [show q = 27 by omega]
      exact cont
    | succ n ih =>
      intro q g e cont
      have tail : ∀ g' : Int64, stA (aS A) (n + 1) q g = stA (aS A) n (q + 1) g' → zZ k G N w 35 [(0, .ref (zad G 0)), (1, .long g'), (3, .int (nI q))] [] := by
        intro g' e'
        refine z_iinc ok dL_state_35 (hI 3 (by decide)) 2 rfl (y := nI (q + 1)) (z_incn q 1) (lv' := [(3, .int (nI (q + 1))), (0, .ref (zad G 0)), (1, .long g')]) rfl ?_
        refine z_goto ok dL_state_38 6 (by decide) ?_
        refine z_locs [1, 2, 0] (lv' := [(0, .ref (zad G 0)), (1, .long g'), (3, .int (nI (q + 1)))]) rfl ?_
        exact ih (q + 1) _ (by omega) (by rw [← e']; exact cont)
      refine z_iload_n ok dL_state_6 2 rfl ?_
      refine z_bipush ok dL_state_7 (x := nI 27) (by decide) ?_
      refine z_icmp_ge_n ok dL_state_9 41 (by decide) q 27 rfl rfl (by omega) (fun c => absurd c (by omega)) (fun _ => ?_)
      refine z_iload_n ok dL_state_12 2 rfl ?_
      refine z_bipush ok dL_state_13 (x := nI 8) (by decide) ?_
      refine z_icmp_eq_n ok dL_state_15 35 (by decide) q 8 rfl rfl (by omega) (fun c => ?_) (fun c8 => ?_)
      · exact tail g (by rw [stA, if_pos c])
      refine z_iload_n ok dL_state_18 2 rfl ?_
      refine z_bipush ok dL_state_19 (x := nI 9) (by decide) ?_
      refine z_icmp_eq_n ok dL_state_21 35 (by decide) q 9 rfl rfl (by omega) (fun c => ?_) (fun c9 => ?_)
      · exact tail g (by rw [stA, if_neg c8, if_pos c])
      refine z_lload_n ok dL_state_24 1 rfl ?_
      refine z_aload_n ok dL_state_25 0 rfl ?_
      refine z_iload_n ok dL_state_26 2 rfl ?_
      refine z_callVi ok old dL_state_27 [.long g] (zM_eq1 (c_X2_count G N hN hg w (nI q)) ((K_count h (nI q)).trans (st_count _ _ _ (by omega) c8 c9))) zy_X2_count zw_292 0 (by omega) (zE_0 G w) rfl rfl rfl rfl rfl (by decide) (Nat.le_of_ble_eq_true rfl) ?_
      refine z_i2l ok dL_state_30 ?_
      refine z_callSV ok old dL_state_31 [] (c_L_mixed hg w g (s_count (aS A) 0 0 (nI q)).toInt64) zy_L_mixed zw_411 rfl rfl (by decide) (Nat.le_of_ble_eq_true rfl) ?_
      refine z_lstore_n ok dL_state_34 (hI 2 (by decide)) (lv' := [(1, .long (stM g (s_count (aS A) 0 0 (nI q)).toInt64)), (0, .ref (zad G 0)), (3, .int (nI q))]) rfl ?_
      refine z_locs [1, 0, 2] (lv' := [(0, .ref (zad G 0)), (1, .long (stM g (s_count (aS A) 0 0 (nI q)).toInt64)), (3, .int (nI q))]) rfl ?_
      exact tail _ (by rw [stA, if_neg c8, if_neg c9])
  refine z_ldc2 ok dL_state_0 zw_410 ?_
  refine z_lstore_n ok dL_state_3 (hI 2 (by decide)) (lv' := [(1, .long 4), (0, .ref (zad G 0))]) rfl ?_
  refine z_iconst ok dL_state_4 (x := nI 0) (by decide) ?_
  refine z_istore_n ok dL_state_5 (hI 3 (by decide)) (lv' := [(3, .int (nI 0)), (1, .long 4), (0, .ref (zad G 0))]) rfl ?_
  refine z_locs [2, 1, 0] (lv' := [(0, .ref (zad G 0)), (1, .long 4), (3, .int (nI 0))]) rfl ?_
  refine loopA 27 0 4 (by omega) ?_
  refine z_iconst ok dL_state_41 (x := nI 0) (by decide) ?_
  refine z_istore_n ok dL_state_42 (hI 3 (by decide)) (lv' := [(3, .int (nI 0)), (0, .ref (zad G 0)), (1, .long (stA (aS A) 27 0 4))]) rfl ?_
  refine z_locs [1, 2, 0] (lv' := [(0, .ref (zad G 0)), (1, .long (stA (aS A) 27 0 4)), (3, .int (nI 0))]) rfl ?_
  refine loopB 144 0 _ (by omega) ?_
  refine z_lload_n ok dL_state_72 1 rfl ?_
  exact z_lret ok hE dL_state_73 ⟨rfl, rfl⟩
/-- the script's number at a step -/
def takeF (L : Nat) (xs : Nat → Int32) (k : Nat) : Int32 := if L = 0 then nI 7919 * nI k + nI 3 else ((xs (k % L) >>> (nI (k % 7) &&& 31)) ^^^ (nI (k / L) * nI 31)) ^^^ (nI k * 2654435)
theorem c_L_take {G : zG} {N : Nat} (hg : zGeo G N) (w : xW) {b L : Nat} {xs : Nat → Int32} (hL : L ≤ 260) {k0 : Nat} (hk : k0 < 40) : zMS yL_take cL_take 2 (some .int) 0 0 G N [.ref b, .int (nI k0)] b L xs w (some (takeF L xs k0)) w := by
  refine zMS_of zy_L_take.2.2.2.2.2.2 hg ⟨Nat.le_of_ble_eq_true rfl, by decide⟩ rfl (fun k ok hE sc hI => ?_)
  refine z_aload_n ok dL_take_0 0 rfl ?_
  refine z_slen ok sc dL_take_1 ?_
  refine z_if_ne ok dL_take_2 15 (by decide) (fun c => ?_) (fun c => ?_)
  · have hL0 : ¬ L = 0 := fun q => c (by rw [q]; rfl)
    refine z_aload_n ok dL_take_15 0 rfl ?_
    refine z_iload_n ok dL_take_16 1 rfl ?_
    refine z_aload_n ok dL_take_17 0 rfl ?_
    refine z_slen ok sc dL_take_18 ?_
    refine z_irem_n ok dL_take_19 k0 L rfl rfl (by omega) (by omega) (by omega) ?_
    refine z_sld ok sc dL_take_20 (k0 % L) rfl (Nat.mod_lt _ (by omega)) (by omega) ?_
    refine z_iload_n ok dL_take_21 1 rfl ?_
    refine z_bipush ok dL_take_22 (x := nI 7) (by decide) ?_
    refine z_irem_n ok dL_take_24 k0 7 rfl rfl (by omega) (by omega) (by omega) ?_
    refine z_ishr ok dL_take_25 ?_
    refine z_iload_n ok dL_take_26 1 rfl ?_
    refine z_aload_n ok dL_take_27 0 rfl ?_
    refine z_slen ok sc dL_take_28 ?_
    refine z_idiv_n ok dL_take_29 k0 L rfl rfl (by omega) (by omega) (by omega) ?_
    refine z_bipush ok dL_take_30 (x := nI 31) (by decide) ?_
    refine z_imul ok dL_take_32 ?_
    refine z_ixor ok dL_take_33 ?_
    refine z_iload_n ok dL_take_34 1 rfl ?_
    refine z_ldc ok dL_take_35 zw_406 ?_
    refine z_imul ok dL_take_37 ?_
    refine z_ixor ok dL_take_38 ?_
    exact z_iret ok hE dL_take_39 rfl ⟨(if_neg hL0).symm, rfl⟩
  · have hL0 : L = 0 := (nI_eq (a := L) (b := 0) (by omega) (by omega)).mp c
    refine z_sipush ok dL_take_5 (x := nI 7919) (by decide) ?_
    refine z_iload_n ok dL_take_8 1 rfl ?_
    refine z_imul ok dL_take_9 ?_
    refine z_iconst ok dL_take_10 (x := nI 3) (by decide) ?_
    refine z_iadd ok dL_take_11 ?_
    refine z_goto ok dL_take_12 39 (by decide) ?_
    exact z_iret ok hE dL_take_39 rfl ⟨(if_pos hL0).symm, rfl⟩
