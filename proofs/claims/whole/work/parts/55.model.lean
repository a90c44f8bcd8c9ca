/-! the model's text -/
theorem zidx_sp {x y : Int32} (h : ∃ n, n ≤ 80 ∧ x = nI n) (h2 : ∃ n, n ≤ 80 ∧ y = nI n) (h3 : ¬ y ≤ x) : x = nI x.toNatClampNeg ∧ x.toNatClampNeg < 80 := by
  obtain ⟨n, hn, rfl⟩ := h
  obtain ⟨m, hm, rfl⟩ := h2
  rw [nI_clamp (by omega)]
  refine ⟨rfl, Nat.lt_of_not_le (fun q => h3 (nI_le (by omega) (by omega)))⟩
theorem znar_is {p : Prop} [Decidable p] {x : Int32} (h : x = if p then 1 else 0) : narrow .boolean (.int x) = .int x := by
  by_cases q : p
  · rw [if_pos q] at h; rw [h]; rfl
  · rw [if_neg q] at h; rw [h]; rfl
theorem zidx_s1 {x y : Int32} (h : ∃ n, n ≤ 80 ∧ x = nI n) (h2 : ∃ n, n ≤ 80 ∧ y = nI n) (h3 : ¬ y ≤ x + 1) : x + 1 = nI (x + 1).toNatClampNeg ∧ (x + 1).toNatClampNeg < 80 := by
  obtain ⟨n, hn, rfl⟩ := h
  obtain ⟨m, hm, rfl⟩ := h2
  rw [nI_1] at h3 ⊢
  rw [nI_clamp (by omega)]
  refine ⟨rfl, Nat.lt_of_not_le (fun q => h3 (nI_le (by omega) (by omega)))⟩
theorem zidx_s0 {x y : Int32} (h : ∃ n, n ≤ 80 ∧ x = nI n) (h2 : ∃ n, n ≤ 80 ∧ y = nI n) (h3 : ¬ y ≤ x + 1) : x = nI x.toNatClampNeg ∧ x.toNatClampNeg < 80 := by
  obtain ⟨n, hn, rfl⟩ := h
  obtain ⟨m, hm, rfl⟩ := h2
  rw [nI_1] at h3
  rw [nI_clamp (by omega)]
  refine ⟨rfl, Nat.lt_of_not_le (fun q => h3 (nI_le (by omega) (by omega)))⟩
def d_X3_takes (w : xW) (c : Int32) : Int32 × xW :=
  if (xg w 17 1) ≤ (xg w 17 2) then (zlet (0 : Int32) fun x2 =>
  zlet (xs w 17 2 ((xg w 17 2) + x2)) fun w3 =>
  (0, w3))
  else (zlet (if (xg w 14 ((xg w 17 2)).toNatClampNeg) = c then (1)
  else (0) : Int32) fun x4 =>
  zlet (if x4 = 0 then (0)
  else (1) : Int32) fun x5 =>
  zlet (xs w 17 2 ((xg w 17 2) + x5)) fun w6 =>
  (x4, w6))
set_option maxRecDepth 100000 in
set_option maxHeartbeats 4000000 in
theorem c_X3_takes (G : zG) (N : Nat) (hN : 54 ≤ N) (hg : zGeo G N) (w : xW) (c : Int32) (h_l : ∃ n, n ≤ 80 ∧ xg w 17 1 = nI n) (h_s : ∃ n, n ≤ 80 ∧ xg w 17 2 = nI n) : zM yX3_takes cX3_takes 3 (some .boolean) 0 0 G N [.ref (zad G 47), .int c] w (some (d_X3_takes w c).1) (d_X3_takes w c).2 := by
  obtain ⟨r, u, hT⟩ := zpair (d_X3_takes w c)
  rw [hT]
  dsimp only
  unfold d_X3_takes at hT
  refine zM_of zy_X3_takes.2.2.2.2.2.2.2 hg ⟨Nat.le_of_ble_eq_true rfl, by decide⟩ rfl (fun k ok hE hI => ?_)
  have old := hE.old
  refine z_aload_n ok dX3_takes_0 0 rfl ?_
  refine z_get_X3_spot ok dX3_takes_1 hN zw_552 ?_
  refine z_aload_n ok dX3_takes_4 0 rfl ?_
  refine z_get_X3_length ok dX3_takes_5 hN zw_549 ?_
  refine z_icmp_ge ok dX3_takes_8 28 (by decide) (fun c1 => ?_) (fun c1 => ?_)
  · rw [if_pos c1] at hT
    refine z_iconst ok dX3_takes_28 (x := 0) (by decide) ?_
    refine z_istore_n ok dX3_takes_29 (hI 2 (by decide)) (lv' := [(2, .int 0), (0, .ref (zad G 47)), (1, .int c)]) rfl ?_
    refine z_aload_n ok dX3_takes_30 1 rfl ?_
    refine z_dup ok dX3_takes_31 rfl ?_
    refine z_get_X3_spot ok dX3_takes_32 hN zw_552 ?_
    refine z_iload_n ok dX3_takes_35 0 rfl ?_
    replace hT := zlet_open hT
    obtain ⟨x2, hx2, hT⟩ := hT
    have hsx2 := hx2.symm
    have hJx2 : zZ k G N w 44 [(0, .ref (zad G 47)), (1, .int c), (2, .int 0)] [.int x2, .int (xg w 17 2), .ref (zad G 47)] := by
      refine z_iadd ok dX3_takes_44 ?_
      refine z_put_X3_spot ok dX3_takes_45 hN zw_552 ?_
      replace hT := zlet_open hT
      obtain ⟨w3, hw3, hT⟩ := hT
      rw [← hw3]
      refine z_iload_n ok dX3_takes_48 2 rfl ?_
      exact z_iret ok hE dX3_takes_49 rfl ⟨congrArg Prod.fst hT, congrArg Prod.snd hT⟩
    refine z_if_eq ok dX3_takes_36 43 (by decide) (fun _ => ?_) (fun q => absurd q (by decide))
    refine z_iconst ok dX3_takes_43 (x := 0) (by decide) ?_
    rw [← hsx2] at hJx2
    refine z_locs [1, 2, 0] (lv' := [(0, .ref (zad G 47)), (1, .int c), (2, .int 0)]) rfl ?_
    exact hJx2
  · rw [if_neg c1] at hT
    refine z_aload_n ok dX3_takes_11 0 rfl ?_
    refine z_get_X3_text ok dX3_takes_12 hN zw_548 ?_
    refine z_aload_n ok dX3_takes_15 0 rfl ?_
    refine z_get_X3_spot ok dX3_takes_16 hN zw_552 ?_
    refine z_mld51 ok dX3_takes_19 hN ((xg w 17 2)).toNatClampNeg (zidx_sp h_s h_l (by assumption)).1 (zidx_sp h_s h_l (by assumption)).2 ?_
    refine z_iload_n ok dX3_takes_20 1 rfl ?_
    replace hT := zlet_open hT
    obtain ⟨x4, hx4, hT⟩ := hT
    have hsx4 := hx4.symm
    have hJx4 : zZ k G N w 29 [(0, .ref (zad G 47)), (1, .int c)] [.int x4] := by
      refine z_istore_n ok dX3_takes_29 (hI 2 (by decide)) (lv' := [(2, .int x4), (0, .ref (zad G 47)), (1, .int c)]) rfl ?_
      refine z_aload_n ok dX3_takes_30 1 rfl ?_
      refine z_dup ok dX3_takes_31 rfl ?_
      refine z_get_X3_spot ok dX3_takes_32 hN zw_552 ?_
      refine z_iload_n ok dX3_takes_35 0 rfl ?_
      replace hT := zlet_open hT
      obtain ⟨x5, hx5, hT⟩ := hT
      have hsx5 := hx5.symm
      have hJx5 : zZ k G N w 44 [(0, .ref (zad G 47)), (1, .int c), (2, .int x4)] [.int x5, .int (xg w 17 2), .ref (zad G 47)] := by
        refine z_iadd ok dX3_takes_44 ?_
        refine z_put_X3_spot ok dX3_takes_45 hN zw_552 ?_
        replace hT := zlet_open hT
        obtain ⟨w6, hw6, hT⟩ := hT
        rw [← hw6]
        refine z_iload_n ok dX3_takes_48 2 rfl ?_
        exact z_iret ok hE dX3_takes_49 (by first | rfl | exact znar_is (by assumption)) ⟨congrArg Prod.fst hT, congrArg Prod.snd hT⟩
      refine z_if_eq ok dX3_takes_36 43 (by decide) (fun c7 => ?_) (fun c7 => ?_)
      · rw [if_pos c7] at hsx5
        refine z_iconst ok dX3_takes_43 (x := 0) (by decide) ?_
        rw [← hsx5] at hJx5
        refine z_locs [1, 2, 0] (lv' := [(0, .ref (zad G 47)), (1, .int c), (2, .int x4)]) rfl ?_
        exact hJx5
      · rw [if_neg c7] at hsx5
        refine z_iconst ok dX3_takes_39 (x := 1) (by decide) ?_
        refine z_goto ok dX3_takes_40 44 (by decide) ?_
        rw [← hsx5] at hJx5
        refine z_locs [1, 2, 0] (lv' := [(0, .ref (zad G 47)), (1, .int c), (2, .int x4)]) rfl ?_
        exact hJx5
    refine z_icmp_ne ok dX3_takes_21 28 (by decide) (fun c8 => ?_) (fun c8 => ?_)
    · rw [if_neg c8] at hsx4
      refine z_iconst ok dX3_takes_28 (x := 0) (by decide) ?_
      rw [← hsx4] at hJx4
      refine z_locs [0, 1] (lv' := [(0, .ref (zad G 47)), (1, .int c)]) rfl ?_
      exact hJx4
    · rw [if_pos c8] at hsx4
      refine z_iconst ok dX3_takes_24 (x := 1) (by decide) ?_
      refine z_goto ok dX3_takes_25 29 (by decide) ?_
      rw [← hsx4] at hJx4
      refine z_locs [0, 1] (lv' := [(0, .ref (zad G 47)), (1, .int c)]) rfl ?_
      exact hJx4

def d_X3_takesCell (w : xW)  : Int32 × xW :=
  if (xg w 17 1) ≤ ((xg w 17 2) + 1) then (((-1), w))
  else (if (d_X3_in w (xg w 14 ((xg w 17 2)).toNatClampNeg) 97 102) = 0 then (((-1), w))
  else (if (d_X3_in w (xg w 14 (((xg w 17 2) + 1)).toNatClampNeg) 49 54) = 0 then (((-1), w))
  else (zlet ((((6 * ((xg w 14 (((xg w 17 2) + 1)).toNatClampNeg) - 49)) + (xg w 14 ((xg w 17 2)).toNatClampNeg)) - 97)) fun x4 =>
  zlet (xs w 17 2 ((xg w 17 2) + 2)) fun w5 =>
  (x4, w5))))
set_option maxRecDepth 100000 in
set_option maxHeartbeats 4000000 in
theorem c_X3_takesCell (G : zG) (N : Nat) (hN : 54 ≤ N) (hg : zGeo G N) (w : xW) (h_l : ∃ n, n ≤ 80 ∧ xg w 17 1 = nI n) (h_s : ∃ n, n ≤ 80 ∧ xg w 17 2 = nI n) : zM yX3_takesCell cX3_takesCell 2 (some .int) 1 22 G N [.ref (zad G 47)] w (some (d_X3_takesCell w).1) (d_X3_takesCell w).2 := by
  obtain ⟨r, u, hT⟩ := zpair (d_X3_takesCell w)
  rw [hT]
  dsimp only
  unfold d_X3_takesCell at hT
  refine zM_of zy_X3_takesCell.2.2.2.2.2.2.2 hg ⟨Nat.le_of_ble_eq_true rfl, by decide⟩ rfl (fun k ok hE hI => ?_)
  have old := hE.old
  refine z_aload_n ok dX3_takesCell_0 0 rfl ?_
  refine z_get_X3_spot ok dX3_takesCell_1 hN zw_552 ?_
  refine z_iconst ok dX3_takesCell_4 (x := 1) (by decide) ?_
  refine z_iadd ok dX3_takesCell_5 ?_
  refine z_aload_n ok dX3_takesCell_6 0 rfl ?_
  refine z_get_X3_length ok dX3_takesCell_7 hN zw_549 ?_
  refine z_icmp_ge ok dX3_takesCell_10 53 (by decide) (fun c1 => ?_) (fun c1 => ?_)
  · rw [if_pos c1] at hT
    refine z_iconst ok dX3_takesCell_53 (x := (-1)) (by decide) ?_
    exact z_iret ok hE dX3_takesCell_54 rfl ⟨congrArg Prod.fst hT, congrArg Prod.snd hT⟩
  · rw [if_neg c1] at hT
    refine z_aload_n ok dX3_takesCell_13 0 rfl ?_
    refine z_get_X3_text ok dX3_takesCell_14 hN zw_548 ?_
    refine z_aload_n ok dX3_takesCell_17 0 rfl ?_
    refine z_get_X3_spot ok dX3_takesCell_18 hN zw_552 ?_
    refine z_mld51 ok dX3_takesCell_21 hN ((xg w 17 2)).toNatClampNeg (zidx_s0 h_s h_l (by assumption)).1 (zidx_s0 h_s h_l (by assumption)).2 ?_
    refine z_bipush ok dX3_takesCell_22 (x := 97) (by decide) ?_
    refine z_bipush ok dX3_takesCell_24 (x := 102) (by decide) ?_
    refine z_callSi ok old dX3_takesCell_26 [] (c_X3_in G N hN hg w (xg w 14 ((xg w 17 2)).toNatClampNeg) 97 102) zy_X3_in zw_603 rfl rfl (by decide) (Nat.le_of_ble_eq_true rfl) ?_
    refine z_if_eq ok dX3_takesCell_29 53 (by decide) (fun c2 => ?_) (fun c2 => ?_)
    · rw [if_pos c2] at hT
      refine z_iconst ok dX3_takesCell_53 (x := (-1)) (by decide) ?_
      exact z_iret ok hE dX3_takesCell_54 rfl ⟨congrArg Prod.fst hT, congrArg Prod.snd hT⟩
    · rw [if_neg c2] at hT
      refine z_aload_n ok dX3_takesCell_32 0 rfl ?_
      refine z_get_X3_text ok dX3_takesCell_33 hN zw_548 ?_
      refine z_aload_n ok dX3_takesCell_36 0 rfl ?_
      refine z_get_X3_spot ok dX3_takesCell_37 hN zw_552 ?_
      refine z_iconst ok dX3_takesCell_40 (x := 1) (by decide) ?_
      refine z_iadd ok dX3_takesCell_41 ?_
      refine z_mld51 ok dX3_takesCell_42 hN (((xg w 17 2) + 1)).toNatClampNeg (zidx_s1 h_s h_l (by assumption)).1 (zidx_s1 h_s h_l (by assumption)).2 ?_
      refine z_bipush ok dX3_takesCell_43 (x := 49) (by decide) ?_
      refine z_bipush ok dX3_takesCell_45 (x := 54) (by decide) ?_
      refine z_callSi ok old dX3_takesCell_47 [] (c_X3_in G N hN hg w (xg w 14 (((xg w 17 2) + 1)).toNatClampNeg) 49 54) zy_X3_in zw_603 rfl rfl (by decide) (Nat.le_of_ble_eq_true rfl) ?_
      refine z_if_ne ok dX3_takesCell_50 55 (by decide) (fun c3 => ?_) (fun c3 => ?_)
      · rw [if_neg c3] at hT
        refine z_bipush ok dX3_takesCell_55 (x := 6) (by decide) ?_
        refine z_aload_n ok dX3_takesCell_57 0 rfl ?_
        refine z_get_X3_text ok dX3_takesCell_58 hN zw_548 ?_
        refine z_aload_n ok dX3_takesCell_61 0 rfl ?_
        refine z_get_X3_spot ok dX3_takesCell_62 hN zw_552 ?_
        refine z_iconst ok dX3_takesCell_65 (x := 1) (by decide) ?_
        refine z_iadd ok dX3_takesCell_66 ?_
        refine z_mld51 ok dX3_takesCell_67 hN (((xg w 17 2) + 1)).toNatClampNeg (zidx_s1 h_s h_l (by assumption)).1 (zidx_s1 h_s h_l (by assumption)).2 ?_
        refine z_bipush ok dX3_takesCell_68 (x := 49) (by decide) ?_
        refine z_isub ok dX3_takesCell_70 ?_
        refine z_imul ok dX3_takesCell_71 ?_
        refine z_aload_n ok dX3_takesCell_72 0 rfl ?_
        refine z_get_X3_text ok dX3_takesCell_73 hN zw_548 ?_
        refine z_aload_n ok dX3_takesCell_76 0 rfl ?_
        refine z_get_X3_spot ok dX3_takesCell_77 hN zw_552 ?_
        refine z_mld51 ok dX3_takesCell_80 hN ((xg w 17 2)).toNatClampNeg (zidx_s0 h_s h_l (by assumption)).1 (zidx_s0 h_s h_l (by assumption)).2 ?_
        refine z_iadd ok dX3_takesCell_81 ?_
        refine z_bipush ok dX3_takesCell_82 (x := 97) (by decide) ?_
        refine z_isub ok dX3_takesCell_84 ?_
        replace hT := zlet_open hT
        obtain ⟨x4, hx4, hT⟩ := hT
        rw [← hx4]
        refine z_istore_n ok dX3_takesCell_85 (hI 1 (by decide)) (lv' := [(1, .int x4), (0, .ref (zad G 47))]) rfl ?_
        refine z_aload_n ok dX3_takesCell_86 1 rfl ?_
        refine z_dup ok dX3_takesCell_87 rfl ?_
        refine z_get_X3_spot ok dX3_takesCell_88 hN zw_552 ?_
        refine z_iconst ok dX3_takesCell_91 (x := 2) (by decide) ?_
        refine z_iadd ok dX3_takesCell_92 ?_
        refine z_put_X3_spot ok dX3_takesCell_93 hN zw_552 ?_
        replace hT := zlet_open hT
        obtain ⟨w5, hw5, hT⟩ := hT
        rw [← hw5]
        refine z_iload_n ok dX3_takesCell_96 0 rfl ?_
        exact z_iret ok hE dX3_takesCell_97 rfl ⟨congrArg Prod.fst hT, congrArg Prod.snd hT⟩
      · rw [if_pos c3] at hT
        refine z_iconst ok dX3_takesCell_53 (x := (-1)) (by decide) ?_
        exact z_iret ok hE dX3_takesCell_54 rfl ⟨congrArg Prod.fst hT, congrArg Prod.snd hT⟩
