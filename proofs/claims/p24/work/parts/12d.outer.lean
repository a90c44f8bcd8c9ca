def d_X2_type (w : xW) (ch : Int32) : Int32 × xW :=
  if ch < 32 then (((-1), w))
  else (if ch ≤ 126 then (if (xg w 10 1) < 0 then (((-3), w))
  else (if (xg w 10 1) < 80 then (zlet (xs w 7 ((xg w 10 1)).toNatClampNeg (zc ch)) fun w5 =>
  zlet (xs w5 10 1 ((xg w5 10 1) + 1)) fun w6 =>
  ((xg w6 10 1), w6))
  else (((-3), w))))
  else (((-1), w)))
set_option maxRecDepth 100000 in
set_option maxHeartbeats 4000000 in
theorem c_X2_type (G : zG) (N : Nat) (hN : 47 ≤ N) (hg : zGeo G N) (w : xW) (ch : Int32) : zM yX2_type cX2_type 2 (some .int) 0 0 G N [.ref (zad G 0), .int ch] w (some (d_X2_type w ch).1) (d_X2_type w ch).2 := by
  obtain ⟨r, u, hT⟩ := zpair (d_X2_type w ch)
  rw [hT]
  dsimp only
  unfold d_X2_type at hT
  refine zM_of zy_X2_type.2.2.2.2.2.2.2 hg ⟨Nat.le_of_ble_eq_true rfl, by decide⟩ rfl (fun k ok hE hI => ?_)
  have old := hE.old
  refine z_iload_n ok dX2_type_0 1 rfl ?_
  refine z_bipush ok dX2_type_1 (x := 32) (by decide) ?_
  refine z_icmp_lt ok dX2_type_3 12 (by decide) (fun c1 => ?_) (fun c1 => ?_)
  · rw [if_pos c1] at hT
    refine z_iconst ok dX2_type_12 (x := (-1)) (by decide) ?_
    exact z_iret ok hE dX2_type_13 rfl ⟨congrArg Prod.fst hT, congrArg Prod.snd hT⟩
  · rw [if_neg c1] at hT
    refine z_iload_n ok dX2_type_6 1 rfl ?_
    refine z_bipush ok dX2_type_7 (x := 126) (by decide) ?_
    refine z_icmp_le ok dX2_type_9 14 (by decide) (fun c2 => ?_) (fun c2 => ?_)
    · rw [if_pos c2] at hT
      refine z_aload_n ok dX2_type_14 0 rfl ?_
      refine z_get_X2_textLength ok dX2_type_15 hN zw_181 ?_
      refine z_if_lt ok dX2_type_18 33 (by decide) (fun c3 => ?_) (fun c3 => ?_)
      · rw [if_pos c3] at hT
        refine z_bipush ok dX2_type_33 (x := (-3)) (by decide) ?_
        exact z_iret ok hE dX2_type_35 rfl ⟨congrArg Prod.fst hT, congrArg Prod.snd hT⟩
      · rw [if_neg c3] at hT
        refine z_aload_n ok dX2_type_21 0 rfl ?_
        refine z_get_X2_textLength ok dX2_type_22 hN zw_181 ?_
        refine z_aload_n ok dX2_type_25 0 rfl ?_
        refine z_get_X2_text ok dX2_type_26 hN zw_180 ?_
        refine z_alen ok dX2_type_29 2 (by omega) (zE_2 G w) (t := 1) (ty := .char) (x := 80) rfl rfl ?_
        refine z_icmp_lt ok dX2_type_30 36 (by decide) (fun c4 => ?_) (fun c4 => ?_)
        · rw [if_pos c4] at hT
          refine z_aload_n ok dX2_type_36 0 rfl ?_
          refine z_get_X2_text ok dX2_type_37 hN zw_180 ?_
          refine z_aload_n ok dX2_type_40 0 rfl ?_
          refine z_get_X2_textLength ok dX2_type_41 hN zw_181 ?_
          refine z_iload_n ok dX2_type_44 1 rfl ?_
          refine z_i2c ok dX2_type_45 ?_
          refine z_cast ok dX2_type_46 2 (by omega) (zE_2 G) ((xg w 10 1)).toNatClampNeg (zidx80p (by assumption) (by assumption)).1 (zidx80p (by assumption) (by assumption)).2 (by decide) rfl ?_
          replace hT := zlet_open hT
          obtain ⟨w5, hw5, hT⟩ := hT
          rw [← hw5]
          refine z_aload_n ok dX2_type_47 0 rfl ?_
          refine z_dup ok dX2_type_48 rfl ?_
          refine z_get_X2_textLength ok dX2_type_49 hN zw_181 ?_
          refine z_iconst ok dX2_type_52 (x := 1) (by decide) ?_
          refine z_iadd ok dX2_type_53 ?_
          refine z_put_X2_textLength ok dX2_type_54 hN zw_181 ?_
          replace hT := zlet_open hT
          obtain ⟨w6, hw6, hT⟩ := hT
          rw [← hw6]
          refine z_aload_n ok dX2_type_57 0 rfl ?_
          refine z_get_X2_textLength ok dX2_type_58 hN zw_181 ?_
          exact z_iret ok hE dX2_type_61 rfl ⟨congrArg Prod.fst hT, congrArg Prod.snd hT⟩
        · rw [if_neg c4] at hT
          refine z_bipush ok dX2_type_33 (x := (-3)) (by decide) ?_
          exact z_iret ok hE dX2_type_35 rfl ⟨congrArg Prod.fst hT, congrArg Prod.snd hT⟩
    · rw [if_neg c2] at hT
      refine z_iconst ok dX2_type_12 (x := (-1)) (by decide) ?_
      exact z_iret ok hE dX2_type_13 rfl ⟨congrArg Prod.fst hT, congrArg Prod.snd hT⟩

def d_X2_clearText (w : xW)  : Int32 × xW :=
  zlet ((xg w 10 1)) fun x1 =>
  zlet (xs w 10 1 0) fun w2 =>
  (x1, w2)
set_option maxRecDepth 100000 in
set_option maxHeartbeats 4000000 in
theorem c_X2_clearText (G : zG) (N : Nat) (hN : 47 ≤ N) (hg : zGeo G N) (w : xW) : zM yX2_clearText cX2_clearText 2 (some .int) 0 0 G N [.ref (zad G 0)] w (some (d_X2_clearText w).1) (d_X2_clearText w).2 := by
  obtain ⟨r, u, hT⟩ := zpair (d_X2_clearText w)
  rw [hT]
  dsimp only
  unfold d_X2_clearText at hT
  refine zM_of zy_X2_clearText.2.2.2.2.2.2.2 hg ⟨Nat.le_of_ble_eq_true rfl, by decide⟩ rfl (fun k ok hE hI => ?_)
  have old := hE.old
  refine z_aload_n ok dX2_clearText_0 0 rfl ?_
  refine z_get_X2_textLength ok dX2_clearText_1 hN zw_181 ?_
  replace hT := zlet_open hT
  obtain ⟨x1, hx1, hT⟩ := hT
  rw [← hx1]
  refine z_istore_n ok dX2_clearText_4 (hI 1 (by decide)) (lv' := [(1, .int x1), (0, .ref (zad G 0))]) rfl ?_
  refine z_aload_n ok dX2_clearText_5 1 rfl ?_
  refine z_iconst ok dX2_clearText_6 (x := 0) (by decide) ?_
  refine z_put_X2_textLength ok dX2_clearText_7 hN zw_181 ?_
  replace hT := zlet_open hT
  obtain ⟨w2, hw2, hT⟩ := hT
  rw [← hw2]
  refine z_iload_n ok dX2_clearText_10 0 rfl ?_
  exact z_iret ok hE dX2_clearText_11 rfl ⟨congrArg Prod.fst hT, congrArg Prod.snd hT⟩

def d_X2_signAt (w : xW) (pos : Int32) : Int32 :=
  if pos < 0 then (0)
  else (if (xg w 10 1) ≤ pos then (0)
  else (if 80 ≤ pos then (0)
  else ((zc (xg w 7 pos.toNatClampNeg)))))
set_option maxRecDepth 100000 in
set_option maxHeartbeats 4000000 in
theorem c_X2_signAt (G : zG) (N : Nat) (hN : 47 ≤ N) (hg : zGeo G N) (w : xW) (pos : Int32) : zM yX2_signAt cX2_signAt 2 (some .char) 0 0 G N [.ref (zad G 0), .int pos] w (some (d_X2_signAt w pos)) w := by
  generalize hT : d_X2_signAt w pos = r
  unfold d_X2_signAt at hT
  refine zM_of zy_X2_signAt.2.2.2.2.2.2.2 hg ⟨Nat.le_of_ble_eq_true rfl, by decide⟩ rfl (fun k ok hE hI => ?_)
  have old := hE.old
  refine z_iload_n ok dX2_signAt_0 1 rfl ?_
  refine z_if_lt ok dX2_signAt_1 30 (by decide) (fun c1 => ?_) (fun c1 => ?_)
  · rw [if_pos c1] at hT
    refine z_iconst ok dX2_signAt_30 (x := 0) (by decide) ?_
    exact z_iret ok hE dX2_signAt_31 rfl ⟨hT, rfl⟩
  · rw [if_neg c1] at hT
    refine z_iload_n ok dX2_signAt_4 1 rfl ?_
    refine z_aload_n ok dX2_signAt_5 0 rfl ?_
    refine z_get_X2_textLength ok dX2_signAt_6 hN zw_181 ?_
    refine z_icmp_ge ok dX2_signAt_9 30 (by decide) (fun c2 => ?_) (fun c2 => ?_)
    · rw [if_pos c2] at hT
      refine z_iconst ok dX2_signAt_30 (x := 0) (by decide) ?_
      exact z_iret ok hE dX2_signAt_31 rfl ⟨hT, rfl⟩
    · rw [if_neg c2] at hT
      refine z_iload_n ok dX2_signAt_12 1 rfl ?_
      refine z_aload_n ok dX2_signAt_13 0 rfl ?_
      refine z_get_X2_text ok dX2_signAt_14 hN zw_180 ?_
      refine z_alen ok dX2_signAt_17 2 (by omega) (zE_2 G w) (t := 1) (ty := .char) (x := 80) rfl rfl ?_
      refine z_icmp_ge ok dX2_signAt_18 30 (by decide) (fun c3 => ?_) (fun c3 => ?_)
      · rw [if_pos c3] at hT
        refine z_iconst ok dX2_signAt_30 (x := 0) (by decide) ?_
        exact z_iret ok hE dX2_signAt_31 rfl ⟨hT, rfl⟩
      · rw [if_neg c3] at hT
        refine z_aload_n ok dX2_signAt_21 0 rfl ?_
        refine z_get_X2_text ok dX2_signAt_22 hN zw_180 ?_
        refine z_iload_n ok dX2_signAt_25 1 rfl ?_
        refine z_cald ok dX2_signAt_26 2 (by omega) (zE_2 G w) pos.toNatClampNeg (zidx80 (by assumption) (by assumption)).1 (zidx80 (by assumption) (by assumption)).2 (by decide) ?_
        refine z_goto ok dX2_signAt_27 31 (by decide) ?_
        exact z_iret ok hE dX2_signAt_31 (zc_nar _) ⟨hT, rfl⟩

def d_X2_cellAt (w : xW) (pos : Int32) : Int32 :=
  zlet (((d_X2_signAt w pos) - 97)) fun x1 =>
  zlet (((d_X2_signAt w (pos + 1)) - 49)) fun x2 =>
  zlet (if x1 < 0 then (0)
  else (if 6 ≤ x1 then (0)
  else (if x2 < 0 then (0)
  else (if 6 ≤ x2 then (0)
  else (1)))) : Int32) fun x3 =>
  if x3 = 0 then ((-1))
  else (((6 * x2) + x1))
set_option maxRecDepth 100000 in
set_option maxHeartbeats 4000000 in
theorem c_X2_cellAt (G : zG) (N : Nat) (hN : 47 ≤ N) (hg : zGeo G N) (w : xW) (pos : Int32) : zM yX2_cellAt cX2_cellAt 5 (some .int) 1 21 G N [.ref (zad G 0), .int pos] w (some (d_X2_cellAt w pos)) w := by
  generalize hT : d_X2_cellAt w pos = r
  unfold d_X2_cellAt at hT
  refine zM_of zy_X2_cellAt.2.2.2.2.2.2.2 hg ⟨Nat.le_of_ble_eq_true rfl, by decide⟩ rfl (fun k ok hE hI => ?_)
  have old := hE.old
  refine z_aload_n ok dX2_cellAt_0 0 rfl ?_
  refine z_iload_n ok dX2_cellAt_1 1 rfl ?_
  refine z_callVi ok old dX2_cellAt_2 [] (c_X2_signAt G N hN hg w pos) zy_X2_signAt zw_474 0 (by omega) (zE_0 G w) rfl rfl rfl rfl rfl (by decide) (Nat.le_of_ble_eq_true rfl) ?_
  refine z_bipush ok dX2_cellAt_5 (x := 97) (by decide) ?_
  refine z_isub ok dX2_cellAt_7 ?_
  replace hT := zlet_open hT
  obtain ⟨x1, hx1, hT⟩ := hT
  rw [← hx1]
  refine z_istore_n ok dX2_cellAt_8 (hI 2 (by decide)) (lv' := [(2, .int x1), (0, .ref (zad G 0)), (1, .int pos)]) rfl ?_
  refine z_aload_n ok dX2_cellAt_9 1 rfl ?_
  refine z_iload_n ok dX2_cellAt_10 2 rfl ?_
  refine z_iconst ok dX2_cellAt_11 (x := 1) (by decide) ?_
  refine z_iadd ok dX2_cellAt_12 ?_
  refine z_callVi ok old dX2_cellAt_13 [] (c_X2_signAt G N hN hg w (pos + 1)) zy_X2_signAt zw_474 0 (by omega) (zE_0 G w) rfl rfl rfl rfl rfl (by decide) (Nat.le_of_ble_eq_true rfl) ?_
  refine z_bipush ok dX2_cellAt_16 (x := 49) (by decide) ?_
  refine z_isub ok dX2_cellAt_18 ?_
  replace hT := zlet_open hT
  obtain ⟨x2, hx2, hT⟩ := hT
  rw [← hx2]
  refine z_istore_n ok dX2_cellAt_19 (hI 3 (by decide)) (lv' := [(3, .int x2), (2, .int x1), (0, .ref (zad G 0)), (1, .int pos)]) rfl ?_
  refine z_iload_n ok dX2_cellAt_20 1 rfl ?_
  replace hT := zlet_open hT
  obtain ⟨x3, hx3, hT⟩ := hT
  have hsx3 := hx3.symm
  have hJx3 : zZ k G N w 45 [(0, .ref (zad G 0)), (1, .int pos), (2, .int x1), (3, .int x2)] [.int x3] := by
    refine z_istore ok dX2_cellAt_45 (hI 4 (by decide)) (lv' := [(4, .int x3), (0, .ref (zad G 0)), (1, .int pos), (2, .int x1), (3, .int x2)]) rfl ?_
    refine z_iload ok dX2_cellAt_47 0 rfl ?_
    refine z_if_eq ok dX2_cellAt_49 61 (by decide) (fun c4 => ?_) (fun c4 => ?_)
    · rw [if_pos c4] at hT
      refine z_iconst ok dX2_cellAt_61 (x := (-1)) (by decide) ?_
      exact z_iret ok hE dX2_cellAt_62 rfl ⟨hT, rfl⟩
    · rw [if_neg c4] at hT
      refine z_bipush ok dX2_cellAt_52 (x := 6) (by decide) ?_
      refine z_iload_n ok dX2_cellAt_54 4 rfl ?_
      refine z_imul ok dX2_cellAt_55 ?_
      refine z_iload_n ok dX2_cellAt_56 3 rfl ?_
      refine z_iadd ok dX2_cellAt_57 ?_
      refine z_goto ok dX2_cellAt_58 62 (by decide) ?_
      exact z_iret ok hE dX2_cellAt_62 rfl ⟨hT, rfl⟩
  refine z_if_lt ok dX2_cellAt_21 44 (by decide) (fun c5 => ?_) (fun c5 => ?_)
  · rw [if_pos c5] at hsx3
    refine z_iconst ok dX2_cellAt_44 (x := 0) (by decide) ?_
    rw [← hsx3] at hJx3
    refine z_locs [2, 3, 1, 0] (lv' := [(0, .ref (zad G 0)), (1, .int pos), (2, .int x1), (3, .int x2)]) rfl ?_
    exact hJx3
  · rw [if_neg c5] at hsx3
    refine z_iload_n ok dX2_cellAt_24 1 rfl ?_
    refine z_bipush ok dX2_cellAt_25 (x := 6) (by decide) ?_
    refine z_icmp_ge ok dX2_cellAt_27 44 (by decide) (fun c6 => ?_) (fun c6 => ?_)
    · rw [if_pos c6] at hsx3
      refine z_iconst ok dX2_cellAt_44 (x := 0) (by decide) ?_
      rw [← hsx3] at hJx3
      refine z_locs [2, 3, 1, 0] (lv' := [(0, .ref (zad G 0)), (1, .int pos), (2, .int x1), (3, .int x2)]) rfl ?_
      exact hJx3
    · rw [if_neg c6] at hsx3
      refine z_iload_n ok dX2_cellAt_30 0 rfl ?_
      refine z_if_lt ok dX2_cellAt_31 44 (by decide) (fun c7 => ?_) (fun c7 => ?_)
      · rw [if_pos c7] at hsx3
        refine z_iconst ok dX2_cellAt_44 (x := 0) (by decide) ?_
        rw [← hsx3] at hJx3
        refine z_locs [2, 3, 1, 0] (lv' := [(0, .ref (zad G 0)), (1, .int pos), (2, .int x1), (3, .int x2)]) rfl ?_
        exact hJx3
      · rw [if_neg c7] at hsx3
        refine z_iload_n ok dX2_cellAt_34 0 rfl ?_
        refine z_bipush ok dX2_cellAt_35 (x := 6) (by decide) ?_
        refine z_icmp_ge ok dX2_cellAt_37 44 (by decide) (fun c8 => ?_) (fun c8 => ?_)
        · rw [if_pos c8] at hsx3
          refine z_iconst ok dX2_cellAt_44 (x := 0) (by decide) ?_
          rw [← hsx3] at hJx3
          refine z_locs [2, 3, 1, 0] (lv' := [(0, .ref (zad G 0)), (1, .int pos), (2, .int x1), (3, .int x2)]) rfl ?_
          exact hJx3
        · rw [if_neg c8] at hsx3
          refine z_iconst ok dX2_cellAt_40 (x := 1) (by decide) ?_
          refine z_goto ok dX2_cellAt_41 45 (by decide) ?_
          rw [← hsx3] at hJx3
          refine z_locs [2, 3, 1, 0] (lv' := [(0, .ref (zad G 0)), (1, .int pos), (2, .int x1), (3, .int x2)]) rfl ?_
          exact hJx3

def d_X2_signsOfForm (w : xW) (pos : Int32) : Int32 :=
  if (d_X2_signAt w pos) = 45 then (if (d_X2_signAt w (pos + 1)) = 59 then (2)
  else (zlet (if (d_X2_cellAt w pos) = (-1) then (0)
  else (if (d_X2_cellAt w (pos + 2)) = (-1) then (0)
  else (if (d_X2_signAt w (pos + 4)) = 59 then (1)
  else (0))) : Int32) fun x8 =>
  if x8 = 0 then (0)
  else (5)))
  else (zlet (if (d_X2_cellAt w pos) = (-1) then (0)
  else (if (d_X2_cellAt w (pos + 2)) = (-1) then (0)
  else (if (d_X2_signAt w (pos + 4)) = 59 then (1)
  else (0))) : Int32) fun x2 =>
  if x2 = 0 then (0)
  else (5))
set_option maxRecDepth 100000 in
set_option maxHeartbeats 4000000 in
theorem c_X2_signsOfForm (G : zG) (N : Nat) (hN : 47 ≤ N) (hg : zGeo G N) (w : xW) (pos : Int32) : zM yX2_signsOfForm cX2_signsOfForm 3 (some .int) 2 45 G N [.ref (zad G 0), .int pos] w (some (d_X2_signsOfForm w pos)) w := by
  generalize hT : d_X2_signsOfForm w pos = r
  unfold d_X2_signsOfForm at hT
  refine zM_of zy_X2_signsOfForm.2.2.2.2.2.2.2 hg ⟨Nat.le_of_ble_eq_true rfl, by decide⟩ rfl (fun k ok hE hI => ?_)
  have old := hE.old
  refine z_aload_n ok dX2_signsOfForm_0 0 rfl ?_
  refine z_iload_n ok dX2_signsOfForm_1 1 rfl ?_
  refine z_callVi ok old dX2_signsOfForm_2 [] (c_X2_signAt G N hN hg w pos) zy_X2_signAt zw_474 0 (by omega) (zE_0 G w) rfl rfl rfl rfl rfl (by decide) (Nat.le_of_ble_eq_true rfl) ?_
  refine z_bipush ok dX2_signsOfForm_5 (x := 45) (by decide) ?_
  refine z_icmp_ne ok dX2_signsOfForm_7 24 (by decide) (fun c1 => ?_) (fun c1 => ?_)
  · rw [if_neg c1] at hT
    refine z_aload_n ok dX2_signsOfForm_24 0 rfl ?_
    refine z_iload_n ok dX2_signsOfForm_25 1 rfl ?_
    refine z_callVi ok old dX2_signsOfForm_26 [] (c_X2_cellAt G N hN hg w pos) zy_X2_cellAt zw_478 0 (by omega) (zE_0 G w) rfl rfl rfl rfl rfl (by decide) (Nat.le_of_ble_eq_true rfl) ?_
    refine z_iconst ok dX2_signsOfForm_29 (x := (-1)) (by decide) ?_
    replace hT := zlet_open hT
    obtain ⟨x2, hx2, hT⟩ := hT
    have hsx2 := hx2.symm
    have hJx2 : zZ k G N w 61 [(0, .ref (zad G 0)), (1, .int pos)] [.int x2] := by
      refine z_istore_n ok dX2_signsOfForm_61 (hI 2 (by decide)) (lv' := [(2, .int x2), (0, .ref (zad G 0)), (1, .int pos)]) rfl ?_
      refine z_iload_n ok dX2_signsOfForm_62 0 rfl ?_
      refine z_if_eq ok dX2_signsOfForm_63 70 (by decide) (fun c3 => ?_) (fun c3 => ?_)
      · rw [if_pos c3] at hT
        refine z_iconst ok dX2_signsOfForm_70 (x := 0) (by decide) ?_
        exact z_iret ok hE dX2_signsOfForm_71 rfl ⟨hT, rfl⟩
      · rw [if_neg c3] at hT
        refine z_iconst ok dX2_signsOfForm_66 (x := 5) (by decide) ?_
        refine z_goto ok dX2_signsOfForm_67 71 (by decide) ?_
        exact z_iret ok hE dX2_signsOfForm_71 rfl ⟨hT, rfl⟩
    refine z_icmp_eq ok dX2_signsOfForm_30 60 (by decide) (fun c4 => ?_) (fun c4 => ?_)
    · rw [if_pos c4] at hsx2
      refine z_iconst ok dX2_signsOfForm_60 (x := 0) (by decide) ?_
      rw [← hsx2] at hJx2
      refine z_locs [0, 1] (lv' := [(0, .ref (zad G 0)), (1, .int pos)]) rfl ?_
      exact hJx2
    · rw [if_neg c4] at hsx2
      refine z_aload_n ok dX2_signsOfForm_33 0 rfl ?_
      refine z_iload_n ok dX2_signsOfForm_34 1 rfl ?_
      refine z_iconst ok dX2_signsOfForm_35 (x := 2) (by decide) ?_
      refine z_iadd ok dX2_signsOfForm_36 ?_
      refine z_callVi ok old dX2_signsOfForm_37 [] (c_X2_cellAt G N hN hg w (pos + 2)) zy_X2_cellAt zw_478 0 (by omega) (zE_0 G w) rfl rfl rfl rfl rfl (by decide) (Nat.le_of_ble_eq_true rfl) ?_
      refine z_iconst ok dX2_signsOfForm_40 (x := (-1)) (by decide) ?_
      refine z_icmp_eq ok dX2_signsOfForm_41 60 (by decide) (fun c5 => ?_) (fun c5 => ?_)
      · rw [if_pos c5] at hsx2
        refine z_iconst ok dX2_signsOfForm_60 (x := 0) (by decide) ?_
        rw [← hsx2] at hJx2
        refine z_locs [0, 1] (lv' := [(0, .ref (zad G 0)), (1, .int pos)]) rfl ?_
        exact hJx2
      · rw [if_neg c5] at hsx2
        refine z_aload_n ok dX2_signsOfForm_44 0 rfl ?_
        refine z_iload_n ok dX2_signsOfForm_45 1 rfl ?_
        refine z_iconst ok dX2_signsOfForm_46 (x := 4) (by decide) ?_
        refine z_iadd ok dX2_signsOfForm_47 ?_
        refine z_callVi ok old dX2_signsOfForm_48 [] (c_X2_signAt G N hN hg w (pos + 4)) zy_X2_signAt zw_474 0 (by omega) (zE_0 G w) rfl rfl rfl rfl rfl (by decide) (Nat.le_of_ble_eq_true rfl) ?_
        refine z_bipush ok dX2_signsOfForm_51 (x := 59) (by decide) ?_
        refine z_icmp_ne ok dX2_signsOfForm_53 60 (by decide) (fun c6 => ?_) (fun c6 => ?_)
        · rw [if_neg c6] at hsx2
          refine z_iconst ok dX2_signsOfForm_60 (x := 0) (by decide) ?_
          rw [← hsx2] at hJx2
          refine z_locs [0, 1] (lv' := [(0, .ref (zad G 0)), (1, .int pos)]) rfl ?_
          exact hJx2
        · rw [if_pos c6] at hsx2
          refine z_iconst ok dX2_signsOfForm_56 (x := 1) (by decide) ?_
          refine z_goto ok dX2_signsOfForm_57 61 (by decide) ?_
          rw [← hsx2] at hJx2
          refine z_locs [0, 1] (lv' := [(0, .ref (zad G 0)), (1, .int pos)]) rfl ?_
          exact hJx2
  · rw [if_pos c1] at hT
    refine z_aload_n ok dX2_signsOfForm_10 0 rfl ?_
    refine z_iload_n ok dX2_signsOfForm_11 1 rfl ?_
    refine z_iconst ok dX2_signsOfForm_12 (x := 1) (by decide) ?_
    refine z_iadd ok dX2_signsOfForm_13 ?_
    refine z_callVi ok old dX2_signsOfForm_14 [] (c_X2_signAt G N hN hg w (pos + 1)) zy_X2_signAt zw_474 0 (by omega) (zE_0 G w) rfl rfl rfl rfl rfl (by decide) (Nat.le_of_ble_eq_true rfl) ?_
    refine z_bipush ok dX2_signsOfForm_17 (x := 59) (by decide) ?_
    refine z_icmp_ne ok dX2_signsOfForm_19 24 (by decide) (fun c7 => ?_) (fun c7 => ?_)
    · rw [if_neg c7] at hT
      refine z_aload_n ok dX2_signsOfForm_24 0 rfl ?_
      refine z_iload_n ok dX2_signsOfForm_25 1 rfl ?_
      refine z_callVi ok old dX2_signsOfForm_26 [] (c_X2_cellAt G N hN hg w pos) zy_X2_cellAt zw_478 0 (by omega) (zE_0 G w) rfl rfl rfl rfl rfl (by decide) (Nat.le_of_ble_eq_true rfl) ?_
      refine z_iconst ok dX2_signsOfForm_29 (x := (-1)) (by decide) ?_
      replace hT := zlet_open hT
      obtain ⟨x8, hx8, hT⟩ := hT
      have hsx8 := hx8.symm
      have hJx8 : zZ k G N w 61 [(0, .ref (zad G 0)), (1, .int pos)] [.int x8] := by
        refine z_istore_n ok dX2_signsOfForm_61 (hI 2 (by decide)) (lv' := [(2, .int x8), (0, .ref (zad G 0)), (1, .int pos)]) rfl ?_
        refine z_iload_n ok dX2_signsOfForm_62 0 rfl ?_
        refine z_if_eq ok dX2_signsOfForm_63 70 (by decide) (fun c9 => ?_) (fun c9 => ?_)
        · rw [if_pos c9] at hT
          refine z_iconst ok dX2_signsOfForm_70 (x := 0) (by decide) ?_
          exact z_iret ok hE dX2_signsOfForm_71 rfl ⟨hT, rfl⟩
        · rw [if_neg c9] at hT
          refine z_iconst ok dX2_signsOfForm_66 (x := 5) (by decide) ?_
          refine z_goto ok dX2_signsOfForm_67 71 (by decide) ?_
          exact z_iret ok hE dX2_signsOfForm_71 rfl ⟨hT, rfl⟩
      refine z_icmp_eq ok dX2_signsOfForm_30 60 (by decide) (fun c10 => ?_) (fun c10 => ?_)
      · rw [if_pos c10] at hsx8
        refine z_iconst ok dX2_signsOfForm_60 (x := 0) (by decide) ?_
        rw [← hsx8] at hJx8
        refine z_locs [0, 1] (lv' := [(0, .ref (zad G 0)), (1, .int pos)]) rfl ?_
        exact hJx8
      · rw [if_neg c10] at hsx8
        refine z_aload_n ok dX2_signsOfForm_33 0 rfl ?_
        refine z_iload_n ok dX2_signsOfForm_34 1 rfl ?_
        refine z_iconst ok dX2_signsOfForm_35 (x := 2) (by decide) ?_
        refine z_iadd ok dX2_signsOfForm_36 ?_
        refine z_callVi ok old dX2_signsOfForm_37 [] (c_X2_cellAt G N hN hg w (pos + 2)) zy_X2_cellAt zw_478 0 (by omega) (zE_0 G w) rfl rfl rfl rfl rfl (by decide) (Nat.le_of_ble_eq_true rfl) ?_
        refine z_iconst ok dX2_signsOfForm_40 (x := (-1)) (by decide) ?_
        refine z_icmp_eq ok dX2_signsOfForm_41 60 (by decide) (fun c11 => ?_) (fun c11 => ?_)
        · rw [if_pos c11] at hsx8
          refine z_iconst ok dX2_signsOfForm_60 (x := 0) (by decide) ?_
          rw [← hsx8] at hJx8
          refine z_locs [0, 1] (lv' := [(0, .ref (zad G 0)), (1, .int pos)]) rfl ?_
          exact hJx8
        · rw [if_neg c11] at hsx8
          refine z_aload_n ok dX2_signsOfForm_44 0 rfl ?_
          refine z_iload_n ok dX2_signsOfForm_45 1 rfl ?_
          refine z_iconst ok dX2_signsOfForm_46 (x := 4) (by decide) ?_
          refine z_iadd ok dX2_signsOfForm_47 ?_
          refine z_callVi ok old dX2_signsOfForm_48 [] (c_X2_signAt G N hN hg w (pos + 4)) zy_X2_signAt zw_474 0 (by omega) (zE_0 G w) rfl rfl rfl rfl rfl (by decide) (Nat.le_of_ble_eq_true rfl) ?_
          refine z_bipush ok dX2_signsOfForm_51 (x := 59) (by decide) ?_
          refine z_icmp_ne ok dX2_signsOfForm_53 60 (by decide) (fun c12 => ?_) (fun c12 => ?_)
          · rw [if_neg c12] at hsx8
            refine z_iconst ok dX2_signsOfForm_60 (x := 0) (by decide) ?_
            rw [← hsx8] at hJx8
            refine z_locs [0, 1] (lv' := [(0, .ref (zad G 0)), (1, .int pos)]) rfl ?_
            exact hJx8
          · rw [if_pos c12] at hsx8
            refine z_iconst ok dX2_signsOfForm_56 (x := 1) (by decide) ?_
            refine z_goto ok dX2_signsOfForm_57 61 (by decide) ?_
            rw [← hsx8] at hJx8
            refine z_locs [0, 1] (lv' := [(0, .ref (zad G 0)), (1, .int pos)]) rfl ?_
            exact hJx8
    · rw [if_pos c7] at hT
      refine z_iconst ok dX2_signsOfForm_22 (x := 2) (by decide) ?_
      exact z_iret ok hE dX2_signsOfForm_23 rfl ⟨hT, rfl⟩

def d_X2_movesInText_4k  (e1_1 : Int32) (e1_2 : Nat) : Int32 :=
  e1_1
def d_X2_movesInText_4 (w : xW) (kt1 : Int32 → Nat → Int32) : Nat → Int32 → Nat → Int32
  | 0, _, _ => default
  | n1 + 1, v1_1, v1_2 => if (xg w 10 1) ≤ (nI v1_2) then (kt1 v1_1 v1_2)
  else (if (d_X2_signAt w (nI v1_2)) = 59 then (d_X2_movesInText_4 w kt1 n1 (v1_1 + 1) (v1_2 + 1))
  else (d_X2_movesInText_4 w kt1 n1 v1_1 (v1_2 + 1)))
def d_X2_movesInText (w : xW)  : Int32 :=
  d_X2_movesInText_4 w d_X2_movesInText_4k ((xg w 10 1).toNatClampNeg + 1) 0 0
set_option maxRecDepth 100000 in
set_option maxHeartbeats 4000000 in
theorem c_X2_movesInText (G : zG) (N : Nat) (hN : 47 ≤ N) (hg : zGeo G N) (w : xW) : zM yX2_movesInText cX2_movesInText 3 (some .int) 1 21 G N [.ref (zad G 0)] w (some (d_X2_movesInText w)) w := by
  generalize hT : d_X2_movesInText w = r
  unfold d_X2_movesInText at hT
  refine zM_of zy_X2_movesInText.2.2.2.2.2.2.2 hg ⟨Nat.le_of_ble_eq_true rfl, by decide⟩ rfl (fun k ok hE hI => ?_)
  have old := hE.old
  refine z_iconst ok dX2_movesInText_0 (x := 0) (by decide) ?_
  refine z_istore_n ok dX2_movesInText_1 (hI 1 (by decide)) (lv' := [(1, .int 0), (0, .ref (zad G 0))]) rfl ?_
  refine z_iconst ok dX2_movesInText_2 (x := 0) (by decide) ?_
  refine z_istore_n ok dX2_movesInText_3 (hI 2 (by decide)) (lv' := [(2, .int 0), (1, .int 0), (0, .ref (zad G 0))]) rfl ?_
  refine z_locs [2, 1, 0] (lv' := [(0, .ref (zad G 0)), (1, .int 0), (2, .int 0)]) rfl ?_
  obtain ⟨kt1, hkt1⟩ : ∃ z, z = d_X2_movesInText_4k := ⟨_, rfl⟩
  rw [← hkt1] at hT
  have hk1 : ∀ (e1_1 : Int32) (e1_2 : Nat), e1_2 ≤ (xg w 10 1).toNatClampNeg → kt1 e1_1 e1_2 = r → zZ k G N w 31 [(0, .ref (zad G 0)), (1, .int e1_1), (2, .int (nI e1_2))] [] := by
    intro e1_1 e1_2 q1_0 hT1
    rw [hkt1, d_X2_movesInText_4k] at hT1
    refine z_iload_n ok dX2_movesInText_31 1 rfl ?_
    exact z_iret ok hE dX2_movesInText_32 rfl ⟨hT1, rfl⟩
  have hl1 : ∀ (n1 : Nat) (v1_1 : Int32) (v1_2 : Nat), (xg w 10 1).toNatClampNeg < v1_2 + n1 → v1_2 ≤ (xg w 10 1).toNatClampNeg → d_X2_movesInText_4 w kt1 n1 v1_1 v1_2 = r → zZ k G N w 4 [(0, .ref (zad G 0)), (1, .int v1_1), (2, .int (nI v1_2))] [] := by
    intro n1
    induction n1 with
    | zero =>
      intro v1_1 v1_2 q1_0 q1_1
      exact absurd q1_0 (by omega)
    | succ n1 ih1 =>
      intro v1_1 v1_2 q1_0 q1_1 hT1
      rw [d_X2_movesInText_4] at hT1
      refine z_iload_n ok dX2_movesInText_4 2 rfl ?_
      refine z_aload_n ok dX2_movesInText_5 0 rfl ?_
      refine z_get_X2_textLength ok dX2_movesInText_6 hN zw_181 ?_
      refine z_icmp_ge ok dX2_movesInText_9 31 (by decide) (fun c2 => ?_) (fun c2 => ?_)
      · rw [if_pos c2] at hT1
        refine z_locs [0, 1, 2] (lv' := [(0, .ref (zad G 0)), (1, .int v1_1), (2, .int (nI v1_2))]) rfl ?_
        exact hk1 v1_1 v1_2 (by omega) hT1
      · rw [if_neg c2] at hT1
        have := zclamp_lt (xg w 10 1)
        have := zlt_cl (c := v1_2) (by assumption) (by omega)
        refine z_aload_n ok dX2_movesInText_12 0 rfl ?_
        refine z_iload_n ok dX2_movesInText_13 2 rfl ?_
        refine z_callVi ok old dX2_movesInText_14 [] (c_X2_signAt G N hN hg w (nI v1_2)) zy_X2_signAt zw_474 0 (by omega) (zE_0 G w) rfl rfl rfl rfl rfl (by decide) (Nat.le_of_ble_eq_true rfl) ?_
        refine z_bipush ok dX2_movesInText_17 (x := 59) (by decide) ?_
        refine z_icmp_ne ok dX2_movesInText_19 25 (by decide) (fun c3 => ?_) (fun c3 => ?_)
        · rw [if_neg c3] at hT1
          refine z_iinc ok dX2_movesInText_25 (hI 2 (by decide)) 2 rfl (y := (nI (v1_2 + 1))) (z_incn v1_2 1) (lv' := [(2, .int (nI (v1_2 + 1))), (0, .ref (zad G 0)), (1, .int v1_1)]) rfl ?_
          refine z_goto ok dX2_movesInText_28 4 (by decide) ?_
          refine z_locs [1, 2, 0] (lv' := [(0, .ref (zad G 0)), (1, .int v1_1), (2, .int (nI (v1_2 + 1)))]) rfl ?_
          exact ih1 v1_1 (v1_2 + 1) (by omega) (by omega) hT1
        · rw [if_pos c3] at hT1
          refine z_iinc ok dX2_movesInText_22 (hI 1 (by decide)) 1 rfl (y := (v1_1 + 1)) rfl (lv' := [(1, .int (v1_1 + 1)), (0, .ref (zad G 0)), (2, .int (nI v1_2))]) rfl ?_
          refine z_iinc ok dX2_movesInText_25 (hI 2 (by decide)) 2 rfl (y := (nI (v1_2 + 1))) (z_incn v1_2 1) (lv' := [(2, .int (nI (v1_2 + 1))), (1, .int (v1_1 + 1)), (0, .ref (zad G 0))]) rfl ?_
          refine z_goto ok dX2_movesInText_28 4 (by decide) ?_
          refine z_locs [2, 1, 0] (lv' := [(0, .ref (zad G 0)), (1, .int (v1_1 + 1)), (2, .int (nI (v1_2 + 1)))]) rfl ?_
          exact ih1 (v1_1 + 1) (v1_2 + 1) (by omega) (by omega) hT1
  exact hl1 ((xg w 10 1).toNatClampNeg + 1) 0 0 (by omega) (by omega) hT
