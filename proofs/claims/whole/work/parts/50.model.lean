/-! the model's methods that look at every move -/
def d_X3_repliesTo (w : xW) (mv : Nat) : Int32 × xW :=
  zlet (d_X3_makes w (mv / 36) (mv % 36)) fun w1 =>
  if (xg w1 11 145) ≤ 0 then (zlet ((d_X3_movesOf w1 (xg w1 11 144))) fun x3 =>
  if x3 = 0 then ((1, w1))
  else ((x3, w1)))
  else ((1, w1))
set_option maxRecDepth 100000 in
set_option maxHeartbeats 4000000 in
theorem c_X3_repliesTo (G : zG) (N : Nat) (hN : 54 ≤ N) (hg : zGeo G N) (w : xW) (mv : Nat) (h_mv : mv < 1296) : zM yX3_repliesTo cX3_repliesTo 3 (some .int) 7 163 G N [.ref (zad G 47), .int (nI mv)] w (some (d_X3_repliesTo w mv).1) (d_X3_repliesTo w mv).2 := by
  obtain ⟨r, u, hT⟩ := zpair (d_X3_repliesTo w mv)
  rw [hT]
  dsimp only
  unfold d_X3_repliesTo at hT
  refine zM_of zy_X3_repliesTo.2.2.2.2.2.2.2 hg ⟨Nat.le_of_ble_eq_true rfl, by decide⟩ rfl (fun k ok hE hI => ?_)
  have old := hE.old
  refine z_aload_n ok dX3_repliesTo_0 0 rfl ?_
  refine z_iload_n ok dX3_repliesTo_1 1 rfl ?_
  refine z_bipush ok dX3_repliesTo_2 (x := 36) (by decide) ?_
  refine z_idiv_n ok dX3_repliesTo_4 mv 36 rfl rfl (by omega) (by omega) (by omega) ?_
  refine z_iload_n ok dX3_repliesTo_5 1 rfl ?_
  refine z_bipush ok dX3_repliesTo_6 (x := 36) (by decide) ?_
  refine z_irem_n ok dX3_repliesTo_8 mv 36 rfl rfl (by omega) (by omega) (by omega) ?_
  refine z_callVv ok old dX3_repliesTo_9 [] (c_X3_makes G N hN hg w (mv / 36) (by omega) (mv % 36) (by omega)) zy_X3_makes zw_667 47 (by omega) (zE_47 G w) rfl rfl rfl rfl rfl (by decide) (Nat.le_of_ble_eq_true rfl) ?_
  replace hT := zlet_open hT
  obtain ⟨w1, hw1, hT⟩ := hT
  rw [← hw1]
  refine z_aload_n ok dX3_repliesTo_12 0 rfl ?_
  refine z_get_X3_st ok dX3_repliesTo_13 hN zw_544 ?_
  refine z_sipush ok dX3_repliesTo_16 (x := 145) (by decide) ?_
  refine z_mld48 ok dX3_repliesTo_19 hN 145 rfl (by omega) ?_
  refine z_if_le ok dX3_repliesTo_20 27 (by decide) (fun c2 => ?_) (fun c2 => ?_)
  · rw [if_pos c2] at hT
    refine z_aload_n ok dX3_repliesTo_27 0 rfl ?_
    refine z_aload_n ok dX3_repliesTo_28 0 rfl ?_
    refine z_get_X3_st ok dX3_repliesTo_29 hN zw_544 ?_
    refine z_sipush ok dX3_repliesTo_32 (x := 144) (by decide) ?_
    refine z_mld48 ok dX3_repliesTo_35 hN 144 rfl (by omega) ?_
    refine z_callVi ok old dX3_repliesTo_36 [] (c_X3_movesOf G N hN hg w1 (xg w1 11 144)) zy_X3_movesOf zw_690 47 (by omega) (zE_47 G w1) rfl rfl rfl rfl rfl (by decide) (Nat.le_of_ble_eq_true rfl) ?_
    replace hT := zlet_open hT
    obtain ⟨x3, hx3, hT⟩ := hT
    rw [← hx3]
    refine z_istore_n ok dX3_repliesTo_39 (hI 2 (by decide)) (lv' := [(2, .int x3), (0, .ref (zad G 47)), (1, .int (nI mv))]) rfl ?_
    refine z_iload_n ok dX3_repliesTo_40 0 rfl ?_
    refine z_if_ne ok dX3_repliesTo_41 48 (by decide) (fun c4 => ?_) (fun c4 => ?_)
    · rw [if_neg c4] at hT
      refine z_iload_n ok dX3_repliesTo_48 0 rfl ?_
      exact z_iret ok hE dX3_repliesTo_49 rfl ⟨congrArg Prod.fst hT, congrArg Prod.snd hT⟩
    · rw [if_pos c4] at hT
      refine z_iconst ok dX3_repliesTo_44 (x := 1) (by decide) ?_
      refine z_goto ok dX3_repliesTo_45 49 (by decide) ?_
      exact z_iret ok hE dX3_repliesTo_49 rfl ⟨congrArg Prod.fst hT, congrArg Prod.snd hT⟩
  · rw [if_neg c2] at hT
    refine z_iconst ok dX3_repliesTo_23 (x := 0) (by decide) ?_
    refine z_goto ok dX3_repliesTo_24 39 (by decide) ?_
    refine z_istore_n ok dX3_repliesTo_39 (hI 2 (by decide)) (lv' := [(2, .int 0), (0, .ref (zad G 47)), (1, .int (nI mv))]) rfl ?_
    refine z_iload_n ok dX3_repliesTo_40 0 rfl ?_
    refine z_if_ne ok dX3_repliesTo_41 48 (by decide) (fun q => absurd q (by decide)) (fun _ => ?_)
    refine z_iconst ok dX3_repliesTo_44 (x := 1) (by decide) ?_
    refine z_goto ok dX3_repliesTo_45 49 (by decide) ?_
    exact z_iret ok hE dX3_repliesTo_49 rfl ⟨congrArg Prod.fst hT, congrArg Prod.snd hT⟩
