def d_X2_move (w : xW) (frm : Int32) (dst : Int32) : Int32 × xW :=
  if (d_X2_isCell w frm) = 0 then (((-1), w))
  else (if (d_X2_isCell w dst) = 0 then (((-1), w))
  else (zlet frm.toNatClampNeg fun c_frm =>
  zlet dst.toNatClampNeg fun c_dst =>
  if (d_X1_reasonAgainst w 0 c_frm c_dst) = 0 then (zlet (d_X2_record w) fun w4 =>
  zlet (d_X1_makeMove w4 0 c_frm c_dst) fun p5 =>
  (p5.1, p5.2))
  else (((-2), w))))
set_option maxRecDepth 100000 in
set_option maxHeartbeats 4000000 in
theorem c_X2_move (G : zG) (N : Nat) (hN : 47 ≤ N) (hg : zGeo G N) (w : xW) (frm : Int32) (dst : Int32) : zM yX2_move cX2_move 3 (some .int) 5 127 G N [.ref (zad G 0), .int frm, .int dst] w (some (d_X2_move w frm dst).1) (d_X2_move w frm dst).2 := by
  obtain ⟨r, u, hT⟩ := zpair (d_X2_move w frm dst)
  rw [hT]
  dsimp only
  unfold d_X2_move at hT
  refine zM_of zy_X2_move.2.2.2.2.2.2.2 hg ⟨Nat.le_of_ble_eq_true rfl, by decide⟩ rfl (fun k ok hE hI => ?_)
  have old := hE.old
  refine z_iload_n ok dX2_move_0 1 rfl ?_
  refine z_callSi ok old dX2_move_1 [] (c_X2_isCell G N hN hg w frm) zy_X2_isCell zw_260 rfl rfl (by decide) (Nat.le_of_ble_eq_true rfl) ?_
  refine z_if_eq ok dX2_move_4 14 (by decide) (fun c1 => ?_) (fun c1 => ?_)
  · rw [if_pos c1] at hT
    refine z_iconst ok dX2_move_14 (x := (-1)) (by decide) ?_
    exact z_iret ok hE dX2_move_15 rfl ⟨congrArg Prod.fst hT, congrArg Prod.snd hT⟩
  · rw [if_neg c1] at hT
    refine z_iload_n ok dX2_move_7 2 rfl ?_
    refine z_callSi ok old dX2_move_8 [] (c_X2_isCell G N hN hg w dst) zy_X2_isCell zw_260 rfl rfl (by decide) (Nat.le_of_ble_eq_true rfl) ?_
    refine z_if_ne ok dX2_move_11 16 (by decide) (fun c2 => ?_) (fun c2 => ?_)
    · rw [if_neg c2] at hT
      replace hT := zlet_open hT
      obtain ⟨c_frm, hc_frm, hT⟩ := hT
      obtain ⟨lc_frm, ec_frm⟩ := zcellx (zisCell (by assumption)) hc_frm
      subst ec_frm
      replace hT := zlet_open hT
      obtain ⟨c_dst, hc_dst, hT⟩ := hT
      obtain ⟨lc_dst, ec_dst⟩ := zcellx (zisCell (by assumption)) hc_dst
      subst ec_dst
      refine z_aload_n ok dX2_move_16 0 rfl ?_
      refine z_get_X2_game ok dX2_move_17 hN zw_176 ?_
      refine z_iload_n ok dX2_move_20 1 rfl ?_
      refine z_iload_n ok dX2_move_21 2 rfl ?_
      refine z_callVNi ok old dX2_move_22 [] (c_X1_reasonAgainst G N hN hg w 0 (by decide) c_frm (by omega) c_dst (by omega)) zy_X1_reasonAgainst zw_316 (5 + 6 * 0) (zg_lt hN (by decide)) (zE_game G w (by decide)) rfl rfl rfl rfl rfl (by decide) (Nat.le_of_ble_eq_true rfl) ?_
      refine z_if_eq ok dX2_move_25 31 (by decide) (fun c3 => ?_) (fun c3 => ?_)
      · rw [if_pos c3] at hT
        refine z_aload_n ok dX2_move_31 0 rfl ?_
        refine z_callVv ok old dX2_move_32 [] (c_X2_record G N hN hg w ) zy_X2_record zw_206 0 (by omega) (zE_0 G w) rfl rfl rfl rfl rfl (by decide) (Nat.le_of_ble_eq_true rfl) ?_
        replace hT := zlet_open hT
        obtain ⟨w4, hw4, hT⟩ := hT
        rw [← hw4]
        refine z_aload_n ok dX2_move_35 0 rfl ?_
        refine z_get_X2_game ok dX2_move_36 hN zw_176 ?_
        refine z_iload_n ok dX2_move_39 1 rfl ?_
        refine z_iload_n ok dX2_move_40 2 rfl ?_
        refine z_callVNi ok old dX2_move_41 [] (c_X1_makeMove G N hN hg w4 0 (by decide) c_frm (by omega) c_dst (by omega)) zy_X1_makeMove zw_344 (5 + 6 * 0) (zg_lt hN (by decide)) (zE_game G w4 (by decide)) rfl rfl rfl rfl rfl (by decide) (Nat.le_of_ble_eq_true rfl) ?_
        replace hT := zlet_open hT
        obtain ⟨p5, hp5, hT⟩ := hT
        rw [← hp5]
        exact z_iret ok hE dX2_move_44 rfl ⟨congrArg Prod.fst hT, congrArg Prod.snd hT⟩
      · rw [if_neg c3] at hT
        refine z_bipush ok dX2_move_28 (x := (-2)) (by decide) ?_
        exact z_iret ok hE dX2_move_30 rfl ⟨congrArg Prod.fst hT, congrArg Prod.snd hT⟩
    · rw [if_pos c2] at hT
      refine z_iconst ok dX2_move_14 (x := (-1)) (by decide) ?_
      exact z_iret ok hE dX2_move_15 rfl ⟨congrArg Prod.fst hT, congrArg Prod.snd hT⟩

def d_X2_pass (w : xW)  : Int32 × xW :=
  if (d_X1_reasonAgainstPass w 0) = 0 then (zlet (d_X2_record w) fun w2 =>
  zlet (d_X1_makePass w2 0) fun w3 =>
  if (d_X1_isOver w3 0) = 0 then ((0, w3))
  else ((1, w3)))
  else (((-2), w))
set_option maxRecDepth 100000 in
set_option maxHeartbeats 4000000 in
theorem c_X2_pass (G : zG) (N : Nat) (hN : 47 ≤ N) (hg : zGeo G N) (w : xW) : zM yX2_pass cX2_pass 1 (some .int) 6 144 G N [.ref (zad G 0)] w (some (d_X2_pass w).1) (d_X2_pass w).2 := by
  obtain ⟨r, u, hT⟩ := zpair (d_X2_pass w)
  rw [hT]
  dsimp only
  unfold d_X2_pass at hT
  refine zM_of zy_X2_pass.2.2.2.2.2.2.2 hg ⟨Nat.le_of_ble_eq_true rfl, by decide⟩ rfl (fun k ok hE hI => ?_)
  have old := hE.old
  refine z_aload_n ok dX2_pass_0 0 rfl ?_
  refine z_get_X2_game ok dX2_pass_1 hN zw_176 ?_
  refine z_callVNi ok old dX2_pass_4 [] (c_X1_reasonAgainstPass G N hN hg w 0 (by decide)) zy_X1_reasonAgainstPass zw_369 (5 + 6 * 0) (zg_lt hN (by decide)) (zE_game G w (by decide)) rfl rfl rfl rfl rfl (by decide) (Nat.le_of_ble_eq_true rfl) ?_
  refine z_if_eq ok dX2_pass_7 13 (by decide) (fun c1 => ?_) (fun c1 => ?_)
  · rw [if_pos c1] at hT
    refine z_aload_n ok dX2_pass_13 0 rfl ?_
    refine z_callVv ok old dX2_pass_14 [] (c_X2_record G N hN hg w ) zy_X2_record zw_206 0 (by omega) (zE_0 G w) rfl rfl rfl rfl rfl (by decide) (Nat.le_of_ble_eq_true rfl) ?_
    replace hT := zlet_open hT
    obtain ⟨w2, hw2, hT⟩ := hT
    rw [← hw2]
    refine z_aload_n ok dX2_pass_17 0 rfl ?_
    refine z_get_X2_game ok dX2_pass_18 hN zw_176 ?_
    refine z_callVNv ok old dX2_pass_21 [] (c_X1_makePass G N hN hg w2 0 (by decide)) zy_X1_makePass zw_383 (5 + 6 * 0) (zg_lt hN (by decide)) (zE_game G w2 (by decide)) rfl rfl rfl rfl rfl (by decide) (Nat.le_of_ble_eq_true rfl) ?_
    replace hT := zlet_open hT
    obtain ⟨w3, hw3, hT⟩ := hT
    rw [← hw3]
    refine z_aload_n ok dX2_pass_24 0 rfl ?_
    refine z_get_X2_game ok dX2_pass_25 hN zw_176 ?_
    refine z_callVNi ok old dX2_pass_28 [] (c_X1_isOver G N hN hg w3 0 (by decide)) zy_X1_isOver zw_261 (5 + 6 * 0) (zg_lt hN (by decide)) (zE_game G w3 (by decide)) rfl rfl rfl rfl rfl (by decide) (Nat.le_of_ble_eq_true rfl) ?_
    refine z_if_eq ok dX2_pass_31 38 (by decide) (fun c4 => ?_) (fun c4 => ?_)
    · rw [if_pos c4] at hT
      refine z_iconst ok dX2_pass_38 (x := 0) (by decide) ?_
      exact z_iret ok hE dX2_pass_39 rfl ⟨congrArg Prod.fst hT, congrArg Prod.snd hT⟩
    · rw [if_neg c4] at hT
      refine z_iconst ok dX2_pass_34 (x := 1) (by decide) ?_
      refine z_goto ok dX2_pass_35 39 (by decide) ?_
      exact z_iret ok hE dX2_pass_39 rfl ⟨congrArg Prod.fst hT, congrArg Prod.snd hT⟩
  · rw [if_neg c1] at hT
    refine z_bipush ok dX2_pass_10 (x := (-2)) (by decide) ?_
    exact z_iret ok hE dX2_pass_12 rfl ⟨congrArg Prod.fst hT, congrArg Prod.snd hT⟩

def d_X2_refusal (w : xW) (frm : Int32) (dst : Int32) : Int32 :=
  if (d_X2_isCell w frm) = 0 then ((-1))
  else (if (d_X2_isCell w dst) = 0 then ((-1))
  else (zlet frm.toNatClampNeg fun c_frm =>
  zlet dst.toNatClampNeg fun c_dst =>
  (d_X1_reasonAgainst w 0 c_frm c_dst)))
set_option maxRecDepth 100000 in
set_option maxHeartbeats 4000000 in
theorem c_X2_refusal (G : zG) (N : Nat) (hN : 47 ≤ N) (hg : zGeo G N) (w : xW) (frm : Int32) (dst : Int32) : zM yX2_refusal cX2_refusal 3 (some .int) 4 100 G N [.ref (zad G 0), .int frm, .int dst] w (some (d_X2_refusal w frm dst)) w := by
  generalize hT : d_X2_refusal w frm dst = r
  unfold d_X2_refusal at hT
  refine zM_of zy_X2_refusal.2.2.2.2.2.2.2 hg ⟨Nat.le_of_ble_eq_true rfl, by decide⟩ rfl (fun k ok hE hI => ?_)
  have old := hE.old
  refine z_iload_n ok dX2_refusal_0 1 rfl ?_
  refine z_callSi ok old dX2_refusal_1 [] (c_X2_isCell G N hN hg w frm) zy_X2_isCell zw_260 rfl rfl (by decide) (Nat.le_of_ble_eq_true rfl) ?_
  refine z_if_eq ok dX2_refusal_4 14 (by decide) (fun c1 => ?_) (fun c1 => ?_)
  · rw [if_pos c1] at hT
    refine z_iconst ok dX2_refusal_14 (x := (-1)) (by decide) ?_
    exact z_iret ok hE dX2_refusal_15 rfl ⟨hT, rfl⟩
  · rw [if_neg c1] at hT
    refine z_iload_n ok dX2_refusal_7 2 rfl ?_
    refine z_callSi ok old dX2_refusal_8 [] (c_X2_isCell G N hN hg w dst) zy_X2_isCell zw_260 rfl rfl (by decide) (Nat.le_of_ble_eq_true rfl) ?_
    refine z_if_ne ok dX2_refusal_11 16 (by decide) (fun c2 => ?_) (fun c2 => ?_)
    · rw [if_neg c2] at hT
      replace hT := zlet_open hT
      obtain ⟨c_frm, hc_frm, hT⟩ := hT
      obtain ⟨lc_frm, ec_frm⟩ := zcellx (zisCell (by assumption)) hc_frm
      subst ec_frm
      replace hT := zlet_open hT
      obtain ⟨c_dst, hc_dst, hT⟩ := hT
      obtain ⟨lc_dst, ec_dst⟩ := zcellx (zisCell (by assumption)) hc_dst
      subst ec_dst
      refine z_aload_n ok dX2_refusal_16 0 rfl ?_
      refine z_get_X2_game ok dX2_refusal_17 hN zw_176 ?_
      refine z_iload_n ok dX2_refusal_20 1 rfl ?_
      refine z_iload_n ok dX2_refusal_21 2 rfl ?_
      refine z_callVNi ok old dX2_refusal_22 [] (c_X1_reasonAgainst G N hN hg w 0 (by decide) c_frm (by omega) c_dst (by omega)) zy_X1_reasonAgainst zw_316 (5 + 6 * 0) (zg_lt hN (by decide)) (zE_game G w (by decide)) rfl rfl rfl rfl rfl (by decide) (Nat.le_of_ble_eq_true rfl) ?_
      exact z_iret ok hE dX2_refusal_25 rfl ⟨hT, rfl⟩
    · rw [if_pos c2] at hT
      refine z_iconst ok dX2_refusal_14 (x := (-1)) (by decide) ?_
      exact z_iret ok hE dX2_refusal_15 rfl ⟨hT, rfl⟩

def d_X2_cost (w : xW) (frm : Int32) (dst : Int32) : Int32 :=
  if (d_X2_isCell w frm) = 0 then ((-1))
  else (if (d_X2_isCell w dst) = 0 then ((-1))
  else (zlet frm.toNatClampNeg fun c_frm =>
  zlet dst.toNatClampNeg fun c_dst =>
  zlet ((d_X0_price w 0 c_frm c_dst)) fun x3 =>
  if x3 = 0 then ((-4))
  else (x3)))
set_option maxRecDepth 100000 in
set_option maxHeartbeats 4000000 in
theorem c_X2_cost (G : zG) (N : Nat) (hN : 47 ≤ N) (hg : zGeo G N) (w : xW) (frm : Int32) (dst : Int32) : zM yX2_cost cX2_cost 4 (some .int) 3 77 G N [.ref (zad G 0), .int frm, .int dst] w (some (d_X2_cost w frm dst)) w := by
  generalize hT : d_X2_cost w frm dst = r
  unfold d_X2_cost at hT
  refine zM_of zy_X2_cost.2.2.2.2.2.2.2 hg ⟨Nat.le_of_ble_eq_true rfl, by decide⟩ rfl (fun k ok hE hI => ?_)
  have old := hE.old
  refine z_iload_n ok dX2_cost_0 1 rfl ?_
  refine z_callSi ok old dX2_cost_1 [] (c_X2_isCell G N hN hg w frm) zy_X2_isCell zw_260 rfl rfl (by decide) (Nat.le_of_ble_eq_true rfl) ?_
  refine z_if_eq ok dX2_cost_4 14 (by decide) (fun c1 => ?_) (fun c1 => ?_)
  · rw [if_pos c1] at hT
    refine z_iconst ok dX2_cost_14 (x := (-1)) (by decide) ?_
    exact z_iret ok hE dX2_cost_15 rfl ⟨hT, rfl⟩
  · rw [if_neg c1] at hT
    refine z_iload_n ok dX2_cost_7 2 rfl ?_
    refine z_callSi ok old dX2_cost_8 [] (c_X2_isCell G N hN hg w dst) zy_X2_isCell zw_260 rfl rfl (by decide) (Nat.le_of_ble_eq_true rfl) ?_
    refine z_if_ne ok dX2_cost_11 16 (by decide) (fun c2 => ?_) (fun c2 => ?_)
    · rw [if_neg c2] at hT
      replace hT := zlet_open hT
      obtain ⟨c_frm, hc_frm, hT⟩ := hT
      obtain ⟨lc_frm, ec_frm⟩ := zcellx (zisCell (by assumption)) hc_frm
      subst ec_frm
      replace hT := zlet_open hT
      obtain ⟨c_dst, hc_dst, hT⟩ := hT
      obtain ⟨lc_dst, ec_dst⟩ := zcellx (zisCell (by assumption)) hc_dst
      subst ec_dst
      refine z_aload_n ok dX2_cost_16 0 rfl ?_
      refine z_get_X2_game ok dX2_cost_17 hN zw_176 ?_
      refine z_getN_X1_board ok dX2_cost_20 0 (by decide) hN zw_89 ?_
      refine z_iload_n ok dX2_cost_23 1 rfl ?_
      refine z_iload_n ok dX2_cost_24 2 rfl ?_
      refine z_callVNi ok old dX2_cost_25 [] (c_X0_price G N hN hg w 0 (by decide) c_frm (by omega) c_dst (by omega)) zy_X0_price zw_436 (6 + 6 * 0) (zg_lt' hN (by decide)) (zE_board G w (by decide)) rfl rfl rfl rfl rfl (by decide) (Nat.le_of_ble_eq_true rfl) ?_
      replace hT := zlet_open hT
      obtain ⟨x3, hx3, hT⟩ := hT
      rw [← hx3]
      refine z_istore_n ok dX2_cost_28 (hI 3 (by decide)) (lv' := [(3, .int x3), (0, .ref (zad G 0)), (1, .int (nI c_frm)), (2, .int (nI c_dst))]) rfl ?_
      refine z_iload_n ok dX2_cost_29 0 rfl ?_
      refine z_if_ne ok dX2_cost_30 38 (by decide) (fun c4 => ?_) (fun c4 => ?_)
      · rw [if_neg c4] at hT
        refine z_iload_n ok dX2_cost_38 0 rfl ?_
        exact z_iret ok hE dX2_cost_39 rfl ⟨hT, rfl⟩
      · rw [if_pos c4] at hT
        refine z_bipush ok dX2_cost_33 (x := (-4)) (by decide) ?_
        refine z_goto ok dX2_cost_35 39 (by decide) ?_
        exact z_iret ok hE dX2_cost_39 rfl ⟨hT, rfl⟩
    · rw [if_pos c2] at hT
      refine z_iconst ok dX2_cost_14 (x := (-1)) (by decide) ?_
      exact z_iret ok hE dX2_cost_15 rfl ⟨hT, rfl⟩

def d_X2_moves (w : xW) (side : Int32) : Int32 :=
  if (d_X2_isSide w side) = 0 then ((-1))
  else ((d_X0_movesOf w 0 side))
set_option maxRecDepth 100000 in
set_option maxHeartbeats 4000000 in
theorem c_X2_moves (G : zG) (N : Nat) (hN : 47 ≤ N) (hg : zGeo G N) (w : xW) (side : Int32) : zM yX2_moves cX2_moves 2 (some .int) 5 124 G N [.ref (zad G 0), .int side] w (some (d_X2_moves w side)) w := by
  generalize hT : d_X2_moves w side = r
  unfold d_X2_moves at hT
  refine zM_of zy_X2_moves.2.2.2.2.2.2.2 hg ⟨Nat.le_of_ble_eq_true rfl, by decide⟩ rfl (fun k ok hE hI => ?_)
  have old := hE.old
  refine z_iload_n ok dX2_moves_0 1 rfl ?_
  refine z_callSi ok old dX2_moves_1 [] (c_X2_isSide G N hN hg w side) zy_X2_isSide zw_257 rfl rfl (by decide) (Nat.le_of_ble_eq_true rfl) ?_
  refine z_if_eq ok dX2_moves_4 21 (by decide) (fun c1 => ?_) (fun c1 => ?_)
  · rw [if_pos c1] at hT
    refine z_iconst ok dX2_moves_21 (x := (-1)) (by decide) ?_
    exact z_iret ok hE dX2_moves_22 rfl ⟨hT, rfl⟩
  · rw [if_neg c1] at hT
    refine z_aload_n ok dX2_moves_7 0 rfl ?_
    refine z_get_X2_game ok dX2_moves_8 hN zw_176 ?_
    refine z_getN_X1_board ok dX2_moves_11 0 (by decide) hN zw_89 ?_
    refine z_iload_n ok dX2_moves_14 1 rfl ?_
    refine z_callVNi ok old dX2_moves_15 [] (c_X0_movesOf G N hN hg w 0 (by decide) side) zy_X0_movesOf zw_392 (6 + 6 * 0) (zg_lt' hN (by decide)) (zE_board G w (by decide)) rfl rfl rfl rfl rfl (by decide) (Nat.le_of_ble_eq_true rfl) ?_
    refine z_goto ok dX2_moves_18 22 (by decide) ?_
    exact z_iret ok hE dX2_moves_22 rfl ⟨hT, rfl⟩

def d_X2_listed_27k  (e3_4 : Int32) (e3_5 : Nat) : Int32 :=
  (-4)
def d_X2_listed_37 (w : xW) (side : Int32) (index : Int32) (v3_5 : Nat) (kt5 : Int32 → Nat → Int32) : Nat → Int32 → Nat → Int32
  | 0, _, _ => default
  | n5 + 1, v5_4, v5_6 => if (d_X0_sideOn w 0 v3_5) = side then (if 36 ≤ v5_6 then (kt5 v5_4 v5_6)
  else (if (d_X0_canMove w 0 v3_5 v5_6) = 0 then (d_X2_listed_37 w side index v3_5 kt5 n5 v5_4 (v5_6 + 1))
  else (if v5_4 = index then ((nI ((36 * v3_5) + v5_6)))
  else (d_X2_listed_37 w side index v3_5 kt5 n5 (v5_4 + 1) (v5_6 + 1)))))
  else (kt5 v5_4 v5_6)
def d_X2_listed_27 (w : xW) (side : Int32) (index : Int32) (kt3 : Int32 → Nat → Int32) : Nat → Int32 → Nat → Int32
  | 0, _, _ => default
  | n3 + 1, v3_4, v3_5 => if 36 ≤ v3_5 then (kt3 v3_4 v3_5)
  else (d_X2_listed_37 w side index v3_5 (fun e5_4 e5_6 => (d_X2_listed_27 w side index kt3 n3 e5_4 (v3_5 + 1))) 37 v3_4 0)
def d_X2_listed (w : xW) (side : Int32) (index : Int32) : Int32 :=
  if (d_X2_isSide w side) = 0 then ((-1))
  else (if 0 ≤ index then (d_X2_listed_27 w side index d_X2_listed_27k 37 0 0)
  else ((-1)))
set_option maxRecDepth 100000 in
set_option maxHeartbeats 4000000 in
theorem c_X2_listed (G : zG) (N : Nat) (hN : 47 ≤ N) (hg : zGeo G N) (w : xW) (side : Int32) (index : Int32) : zM yX2_listed cX2_listed 7 (some .int) 4 100 G N [.ref (zad G 0), .int side, .int index] w (some (d_X2_listed w side index)) w := by
  generalize hT : d_X2_listed w side index = r
  unfold d_X2_listed at hT
  refine zM_of zy_X2_listed.2.2.2.2.2.2.2 hg ⟨Nat.le_of_ble_eq_true rfl, by decide⟩ rfl (fun k ok hE hI => ?_)
  have old := hE.old
  refine z_iload_n ok dX2_listed_0 1 rfl ?_
  refine z_callSi ok old dX2_listed_1 [] (c_X2_isSide G N hN hg w side) zy_X2_isSide zw_257 rfl rfl (by decide) (Nat.le_of_ble_eq_true rfl) ?_
  refine z_if_eq ok dX2_listed_4 11 (by decide) (fun c1 => ?_) (fun c1 => ?_)
  · rw [if_pos c1] at hT
    refine z_iconst ok dX2_listed_11 (x := (-1)) (by decide) ?_
    exact z_iret ok hE dX2_listed_12 rfl ⟨hT, rfl⟩
  · rw [if_neg c1] at hT
    refine z_iload_n ok dX2_listed_7 2 rfl ?_
    refine z_if_ge ok dX2_listed_8 13 (by decide) (fun c2 => ?_) (fun c2 => ?_)
    · rw [if_pos c2] at hT
      refine z_aload_n ok dX2_listed_13 0 rfl ?_
      refine z_get_X2_game ok dX2_listed_14 hN zw_176 ?_
      refine z_getN_X1_board ok dX2_listed_17 0 (by decide) hN zw_89 ?_
      refine z_astore_n ok dX2_listed_20 (hI 3 (by decide)) (lv' := [(3, .ref (zad G (6 + 6 * 0))), (0, .ref (zad G 0)), (1, .int side), (2, .int index)]) rfl ?_
      refine z_iconst ok dX2_listed_21 (x := 0) (by decide) ?_
      refine z_istore ok dX2_listed_22 (hI 4 (by decide)) (lv' := [(4, .int 0), (3, .ref (zad G (6 + 6 * 0))), (0, .ref (zad G 0)), (1, .int side), (2, .int index)]) rfl ?_
      refine z_iconst ok dX2_listed_24 (x := 0) (by decide) ?_
      refine z_istore ok dX2_listed_25 (hI 5 (by decide)) (lv' := [(5, .int 0), (4, .int 0), (3, .ref (zad G (6 + 6 * 0))), (0, .ref (zad G 0)), (1, .int side), (2, .int index)]) rfl ?_
      refine z_locs [3, 4, 5, 2, 1, 0] (lv' := [(0, .ref (zad G 0)), (1, .int side), (2, .int index), (3, .ref (zad G (6 + 6 * 0))), (4, .int 0), (5, .int 0)]) rfl ?_
      obtain ⟨kt3, hkt3⟩ : ∃ z, z = d_X2_listed_27k := ⟨_, rfl⟩
      rw [← hkt3] at hT
      have hk3 : ∀ (e3_4 : Int32) (e3_5 : Nat), e3_5 ≤ 36 → kt3 e3_4 e3_5 = r → zZ k G N w 95 [(0, .ref (zad G 0)), (1, .int side), (2, .int index), (3, .ref (zad G (6 + 6 * 0))), (4, .int e3_4), (5, .int (nI e3_5))] [] := by
        intro e3_4 e3_5 q3_0 hT3
        rw [hkt3, d_X2_listed_27k] at hT3
        refine z_bipush ok dX2_listed_95 (x := (-4)) (by decide) ?_
        exact z_iret ok hE dX2_listed_97 rfl ⟨hT3, rfl⟩
      have hl3 : ∀ (n3 : Nat) (v3_4 : Int32) (v3_5 : Nat), 36 < v3_5 + n3 → v3_5 ≤ 36 → d_X2_listed_27 w side index kt3 n3 v3_4 v3_5 = r → zZ k G N w 27 [(0, .ref (zad G 0)), (1, .int side), (2, .int index), (3, .ref (zad G (6 + 6 * 0))), (4, .int v3_4), (5, .int (nI v3_5))] [] := by
        intro n3
        induction n3 with
        | zero =>
          intro v3_4 v3_5 q3_0 q3_1
          exact absurd q3_0 (by omega)
        | succ n3 ih3 =>
          intro v3_4 v3_5 q3_0 q3_1 hT3
          rw [d_X2_listed_27] at hT3
          refine z_iload ok dX2_listed_27 5 rfl ?_
          refine z_bipush ok dX2_listed_29 (x := 36) (by decide) ?_
          refine z_icmp_ge_n ok dX2_listed_31 95 (by decide) v3_5 36 rfl rfl (by omega) (fun c4 => ?_) (fun c4 => ?_)
          · rw [if_pos c4] at hT3
            refine z_locs [0, 1, 2, 3, 4, 5] (lv' := [(0, .ref (zad G 0)), (1, .int side), (2, .int index), (3, .ref (zad G (6 + 6 * 0))), (4, .int v3_4), (5, .int (nI v3_5))]) rfl ?_
            exact hk3 v3_4 v3_5 (by omega) hT3
          · rw [if_neg c4] at hT3
            refine z_iconst ok dX2_listed_34 (x := 0) (by decide) ?_
            refine z_istore ok dX2_listed_35 (hI 6 (by decide)) (lv' := [(6, .int 0), (0, .ref (zad G 0)), (1, .int side), (2, .int index), (3, .ref (zad G (6 + 6 * 0))), (4, .int v3_4), (5, .int (nI v3_5))]) rfl ?_
            refine z_locs [1, 2, 3, 4, 5, 6, 0] (lv' := [(0, .ref (zad G 0)), (1, .int side), (2, .int index), (3, .ref (zad G (6 + 6 * 0))), (4, .int v3_4), (5, .int (nI v3_5)), (6, .int 0)]) rfl ?_
            obtain ⟨kt5, hkt5⟩ : ∃ z, z = ((fun e5_4 e5_6 => (d_X2_listed_27 w side index kt3 n3 e5_4 (v3_5 + 1))) : Int32 → Nat → Int32) := ⟨_, rfl⟩
            rw [← hkt5] at hT3
            have hk5 : ∀ (e5_4 : Int32) (e5_6 : Nat), e5_6 ≤ 36 → kt5 e5_4 e5_6 = r → zZ k G N w 89 [(0, .ref (zad G 0)), (1, .int side), (2, .int index), (3, .ref (zad G (6 + 6 * 0))), (4, .int e5_4), (5, .int (nI v3_5)), (6, .int (nI e5_6))] [] := by
              intro e5_4 e5_6 q5_0 hT5
              rw [hkt5] at hT5
              dsimp only at hT5
              refine z_iinc ok dX2_listed_89 (hI 5 (by decide)) 5 rfl (y := (nI (v3_5 + 1))) (z_incn v3_5 1) (lv' := [(5, .int (nI (v3_5 + 1))), (0, .ref (zad G 0)), (1, .int side), (2, .int index), (3, .ref (zad G (6 + 6 * 0))), (4, .int e5_4), (6, .int (nI e5_6))]) rfl ?_
              refine z_goto ok dX2_listed_92 27 (by decide) ?_
              refine z_locs [1, 2, 3, 4, 5, 0] (lv' := [(0, .ref (zad G 0)), (1, .int side), (2, .int index), (3, .ref (zad G (6 + 6 * 0))), (4, .int e5_4), (5, .int (nI (v3_5 + 1)))]) rfl ?_
              exact ih3 e5_4 (v3_5 + 1) (by omega) (by omega) hT5
            have hl5 : ∀ (n5 : Nat) (v5_4 : Int32) (v5_6 : Nat), 36 < v5_6 + n5 → v5_6 ≤ 36 → d_X2_listed_37 w side index v3_5 kt5 n5 v5_4 v5_6 = r → zZ k G N w 37 [(0, .ref (zad G 0)), (1, .int side), (2, .int index), (3, .ref (zad G (6 + 6 * 0))), (4, .int v5_4), (5, .int (nI v3_5)), (6, .int (nI v5_6))] [] := by
              intro n5
              induction n5 with
              | zero =>
                intro v5_4 v5_6 q5_0 q5_1
                exact absurd q5_0 (by omega)
              | succ n5 ih5 =>
                intro v5_4 v5_6 q5_0 q5_1 hT5
                rw [d_X2_listed_37] at hT5
                refine z_aload_n ok dX2_listed_37 3 rfl ?_
                refine z_iload ok dX2_listed_38 5 rfl ?_
                refine z_callVNi ok old dX2_listed_40 [] (c_X0_sideOn G N hN hg w 0 (by decide) v3_5 (by omega)) zy_X0_sideOn zw_397 (6 + 6 * 0) (zg_lt' hN (by decide)) (zE_board G w (by decide)) rfl rfl rfl rfl rfl (by decide) (Nat.le_of_ble_eq_true rfl) ?_
                refine z_iload_n ok dX2_listed_43 1 rfl ?_
                refine z_icmp_ne ok dX2_listed_44 89 (by decide) (fun c6 => ?_) (fun c6 => ?_)
                · rw [if_neg c6] at hT5
                  refine z_locs [0, 1, 2, 3, 4, 5, 6] (lv' := [(0, .ref (zad G 0)), (1, .int side), (2, .int index), (3, .ref (zad G (6 + 6 * 0))), (4, .int v5_4), (5, .int (nI v3_5)), (6, .int (nI v5_6))]) rfl ?_
                  exact hk5 v5_4 v5_6 (by omega) hT5
                · rw [if_pos c6] at hT5
                  refine z_iload ok dX2_listed_47 6 rfl ?_
                  refine z_bipush ok dX2_listed_49 (x := 36) (by decide) ?_
                  refine z_icmp_ge_n ok dX2_listed_51 89 (by decide) v5_6 36 rfl rfl (by omega) (fun c7 => ?_) (fun c7 => ?_)
                  · rw [if_pos c7] at hT5
                    refine z_locs [0, 1, 2, 3, 4, 5, 6] (lv' := [(0, .ref (zad G 0)), (1, .int side), (2, .int index), (3, .ref (zad G (6 + 6 * 0))), (4, .int v5_4), (5, .int (nI v3_5)), (6, .int (nI v5_6))]) rfl ?_
                    exact hk5 v5_4 v5_6 (by omega) hT5
                  · rw [if_neg c7] at hT5
                    refine z_aload_n ok dX2_listed_54 3 rfl ?_
                    refine z_iload ok dX2_listed_55 5 rfl ?_
                    refine z_iload ok dX2_listed_57 6 rfl ?_
                    refine z_callVNi ok old dX2_listed_59 [] (c_X0_canMove G N hN hg w 0 (by decide) v3_5 (by omega) v5_6 (by omega)) zy_X0_canMove zw_398 (6 + 6 * 0) (zg_lt' hN (by decide)) (zE_board G w (by decide)) rfl rfl rfl rfl rfl (by decide) (Nat.le_of_ble_eq_true rfl) ?_
                    refine z_if_eq ok dX2_listed_62 83 (by decide) (fun c8 => ?_) (fun c8 => ?_)
                    · rw [if_pos c8] at hT5
                      refine z_iinc ok dX2_listed_83 (hI 6 (by decide)) 6 rfl (y := (nI (v5_6 + 1))) (z_incn v5_6 1) (lv' := [(6, .int (nI (v5_6 + 1))), (0, .ref (zad G 0)), (1, .int side), (2, .int index), (3, .ref (zad G (6 + 6 * 0))), (4, .int v5_4), (5, .int (nI v3_5))]) rfl ?_
                      refine z_goto ok dX2_listed_86 37 (by decide) ?_
                      refine z_locs [1, 2, 3, 4, 5, 6, 0] (lv' := [(0, .ref (zad G 0)), (1, .int side), (2, .int index), (3, .ref (zad G (6 + 6 * 0))), (4, .int v5_4), (5, .int (nI v3_5)), (6, .int (nI (v5_6 + 1)))]) rfl ?_
                      exact ih5 v5_4 (v5_6 + 1) (by omega) (by omega) hT5
                    · rw [if_neg c8] at hT5
                      refine z_iload ok dX2_listed_65 4 rfl ?_
                      refine z_iload_n ok dX2_listed_67 2 rfl ?_
                      refine z_icmp_ne ok dX2_listed_68 80 (by decide) (fun c9 => ?_) (fun c9 => ?_)
                      · rw [if_neg c9] at hT5
                        refine z_iinc ok dX2_listed_80 (hI 4 (by decide)) 4 rfl (y := (v5_4 + 1)) rfl (lv' := [(4, .int (v5_4 + 1)), (0, .ref (zad G 0)), (1, .int side), (2, .int index), (3, .ref (zad G (6 + 6 * 0))), (5, .int (nI v3_5)), (6, .int (nI v5_6))]) rfl ?_
                        refine z_iinc ok dX2_listed_83 (hI 6 (by decide)) 6 rfl (y := (nI (v5_6 + 1))) (z_incn v5_6 1) (lv' := [(6, .int (nI (v5_6 + 1))), (4, .int (v5_4 + 1)), (0, .ref (zad G 0)), (1, .int side), (2, .int index), (3, .ref (zad G (6 + 6 * 0))), (5, .int (nI v3_5))]) rfl ?_
                        refine z_goto ok dX2_listed_86 37 (by decide) ?_
                        refine z_locs [2, 3, 4, 5, 1, 6, 0] (lv' := [(0, .ref (zad G 0)), (1, .int side), (2, .int index), (3, .ref (zad G (6 + 6 * 0))), (4, .int (v5_4 + 1)), (5, .int (nI v3_5)), (6, .int (nI (v5_6 + 1)))]) rfl ?_
                        exact ih5 (v5_4 + 1) (v5_6 + 1) (by omega) (by omega) hT5
                      · rw [if_pos c9] at hT5
                        refine z_bipush ok dX2_listed_71 (x := 36) (by decide) ?_
                        refine z_iload ok dX2_listed_73 5 rfl ?_
                        refine z_imul_n ok dX2_listed_75 36 v3_5 rfl rfl ?_
                        refine z_iload ok dX2_listed_76 6 rfl ?_
                        refine z_iadd_n ok dX2_listed_78 (36 * v3_5) v5_6 rfl rfl ?_
                        exact z_iret ok hE dX2_listed_79 rfl ⟨hT5, rfl⟩
            exact hl5 37 v3_4 0 (by omega) (by omega) hT3
      exact hl3 37 0 0 (by omega) (by omega) hT
    · rw [if_neg c2] at hT
      refine z_iconst ok dX2_listed_11 (x := (-1)) (by decide) ?_
      exact z_iret ok hE dX2_listed_12 rfl ⟨hT, rfl⟩

def d_X2_struck_51k (w4 : xW) (e5_4 : Int32) (e5_5 : Nat) : Int32 × xW :=
  (e5_4, w4)
def d_X2_struck_51 (side : Int32) (c_cell : Nat) (w4 : xW) (kt5 : Int32 → Nat → (Int32 × xW)) : Nat → Int32 → Nat → Int32 × xW
  | 0, _, _ => default
  | n5 + 1, v5_4, v5_5 => if 36 ≤ v5_5 then (kt5 v5_4 v5_5)
  else (if (d_X0_sideOn w4 1 v5_5) = side then (if (d_X0_canMove w4 1 v5_5 c_cell) = 0 then (d_X2_struck_51 side c_cell w4 kt5 n5 v5_4 (v5_5 + 1))
  else (d_X2_struck_51 side c_cell w4 kt5 n5 (v5_4 + 1) (v5_5 + 1)))
  else (d_X2_struck_51 side c_cell w4 kt5 n5 v5_4 (v5_5 + 1)))
def d_X2_struck (w : xW) (cell : Int32) (side : Int32) : Int32 × xW :=
  if (d_X2_isCell w cell) = 0 then (((-1), w))
  else (if (d_X2_isSide w side) = 0 then (((-1), w))
  else (zlet cell.toNatClampNeg fun c_cell =>
  zlet (d_X0_copyFrom w 1 0) fun w3 =>
  zlet (d_X0_place w3 1 c_cell (1 - side) 4 0) fun w4 =>
  d_X2_struck_51 side c_cell w4 (d_X2_struck_51k w4) 37 0 0))
set_option maxRecDepth 100000 in
set_option maxHeartbeats 4000000 in
theorem c_X2_struck (G : zG) (N : Nat) (hN : 47 ≤ N) (hg : zGeo G N) (w : xW) (cell : Int32) (side : Int32) : zM yX2_struck cX2_struck 6 (some .int) 4 100 G N [.ref (zad G 0), .int cell, .int side] w (some (d_X2_struck w cell side).1) (d_X2_struck w cell side).2 := by
  obtain ⟨r, u, hT⟩ := zpair (d_X2_struck w cell side)
  rw [hT]
  dsimp only
  unfold d_X2_struck at hT
  refine zM_of zy_X2_struck.2.2.2.2.2.2.2 hg ⟨Nat.le_of_ble_eq_true rfl, by decide⟩ rfl (fun k ok hE hI => ?_)
  have old := hE.old
  refine z_iload_n ok dX2_struck_0 1 rfl ?_
  refine z_callSi ok old dX2_struck_1 [] (c_X2_isCell G N hN hg w cell) zy_X2_isCell zw_260 rfl rfl (by decide) (Nat.le_of_ble_eq_true rfl) ?_
  refine z_if_eq ok dX2_struck_4 14 (by decide) (fun c1 => ?_) (fun c1 => ?_)
  · rw [if_pos c1] at hT
    refine z_iconst ok dX2_struck_14 (x := (-1)) (by decide) ?_
    exact z_iret ok hE dX2_struck_15 rfl ⟨congrArg Prod.fst hT, congrArg Prod.snd hT⟩
  · rw [if_neg c1] at hT
    refine z_iload_n ok dX2_struck_7 2 rfl ?_
    refine z_callSi ok old dX2_struck_8 [] (c_X2_isSide G N hN hg w side) zy_X2_isSide zw_257 rfl rfl (by decide) (Nat.le_of_ble_eq_true rfl) ?_
    refine z_if_ne ok dX2_struck_11 16 (by decide) (fun c2 => ?_) (fun c2 => ?_)
    · rw [if_neg c2] at hT
      replace hT := zlet_open hT
      obtain ⟨c_cell, hc_cell, hT⟩ := hT
      obtain ⟨lc_cell, ec_cell⟩ := zcellx (zisCell (by assumption)) hc_cell
      subst ec_cell
      refine z_aload_n ok dX2_struck_16 0 rfl ?_
      refine z_get_X2_trial ok dX2_struck_17 hN zw_177 ?_
      refine z_getN_X1_board ok dX2_struck_20 1 (by decide) hN zw_89 ?_
      refine z_astore_n ok dX2_struck_23 (hI 3 (by decide)) (lv' := [(3, .ref (zad G (6 + 6 * 1))), (0, .ref (zad G 0)), (1, .int (nI c_cell)), (2, .int side)]) rfl ?_
      refine z_aload_n ok dX2_struck_24 0 rfl ?_
      refine z_aload_n ok dX2_struck_25 1 rfl ?_
      refine z_get_X2_game ok dX2_struck_26 hN zw_176 ?_
      refine z_getN_X1_board ok dX2_struck_29 0 (by decide) hN zw_89 ?_
      refine z_callVNv ok old dX2_struck_32 [] (c_X0_copyFrom G N hN hg w 1 (by decide) 0 (by decide)) zy_X0_copyFrom zw_441 (6 + 6 * 1) (zg_lt' hN (by decide)) (zE_board G w (by decide)) rfl rfl rfl rfl rfl (by decide) (Nat.le_of_ble_eq_true rfl) ?_
      replace hT := zlet_open hT
      obtain ⟨w3, hw3, hT⟩ := hT
      rw [← hw3]
      refine z_aload_n ok dX2_struck_35 0 rfl ?_
      refine z_iload_n ok dX2_struck_36 2 rfl ?_
      refine z_iconst ok dX2_struck_37 (x := 1) (by decide) ?_
      refine z_iload_n ok dX2_struck_38 3 rfl ?_
      refine z_isub ok dX2_struck_39 ?_
      refine z_iconst ok dX2_struck_40 (x := 4) (by decide) ?_
      refine z_iconst ok dX2_struck_41 (x := 0) (by decide) ?_
      refine z_callVNv ok old dX2_struck_42 [] (c_X0_place G N hN hg w3 1 (by decide) c_cell (by omega) (1 - side) 4 0) zy_X0_place zw_442 (6 + 6 * 1) (zg_lt' hN (by decide)) (zE_board G w3 (by decide)) rfl rfl rfl rfl rfl (by decide) (Nat.le_of_ble_eq_true rfl) ?_
      replace hT := zlet_open hT
      obtain ⟨w4, hw4, hT⟩ := hT
      rw [← hw4]
      refine z_iconst ok dX2_struck_45 (x := 0) (by decide) ?_
      refine z_istore ok dX2_struck_46 (hI 4 (by decide)) (lv' := [(4, .int 0), (3, .ref (zad G (6 + 6 * 1))), (0, .ref (zad G 0)), (1, .int (nI c_cell)), (2, .int side)]) rfl ?_
      refine z_iconst ok dX2_struck_48 (x := 0) (by decide) ?_
      refine z_istore ok dX2_struck_49 (hI 5 (by decide)) (lv' := [(5, .int 0), (4, .int 0), (3, .ref (zad G (6 + 6 * 1))), (0, .ref (zad G 0)), (1, .int (nI c_cell)), (2, .int side)]) rfl ?_
      refine z_locs [3, 4, 5, 2, 1, 0] (lv' := [(0, .ref (zad G 0)), (1, .int (nI c_cell)), (2, .int side), (3, .ref (zad G (6 + 6 * 1))), (4, .int 0), (5, .int 0)]) rfl ?_
      obtain ⟨kt5, hkt5⟩ : ∃ z, z = (d_X2_struck_51k w4) := ⟨_, rfl⟩
      rw [← hkt5] at hT
      have hk5 : ∀ (e5_4 : Int32) (e5_5 : Nat), e5_5 ≤ 36 → kt5 e5_4 e5_5 = (r, u) → zZ k G N w4 87 [(0, .ref (zad G 0)), (1, .int (nI c_cell)), (2, .int side), (3, .ref (zad G (6 + 6 * 1))), (4, .int e5_4), (5, .int (nI e5_5))] [] := by
        intro e5_4 e5_5 q5_0 hT5
        rw [hkt5, d_X2_struck_51k] at hT5
        refine z_iload ok dX2_struck_87 4 rfl ?_
        exact z_iret ok hE dX2_struck_89 rfl ⟨congrArg Prod.fst hT5, congrArg Prod.snd hT5⟩
      have hl5 : ∀ (n5 : Nat) (v5_4 : Int32) (v5_5 : Nat), 36 < v5_5 + n5 → v5_5 ≤ 36 → d_X2_struck_51 side c_cell w4 kt5 n5 v5_4 v5_5 = (r, u) → zZ k G N w4 51 [(0, .ref (zad G 0)), (1, .int (nI c_cell)), (2, .int side), (3, .ref (zad G (6 + 6 * 1))), (4, .int v5_4), (5, .int (nI v5_5))] [] := by
        intro n5
        induction n5 with
        | zero =>
          intro v5_4 v5_5 q5_0 q5_1
          exact absurd q5_0 (by omega)
        | succ n5 ih5 =>
          intro v5_4 v5_5 q5_0 q5_1 hT5
          rw [d_X2_struck_51] at hT5
          refine z_iload ok dX2_struck_51 5 rfl ?_
          refine z_bipush ok dX2_struck_53 (x := 36) (by decide) ?_
          refine z_icmp_ge_n ok dX2_struck_55 87 (by decide) v5_5 36 rfl rfl (by omega) (fun c6 => ?_) (fun c6 => ?_)
          · rw [if_pos c6] at hT5
            refine z_locs [0, 1, 2, 3, 4, 5] (lv' := [(0, .ref (zad G 0)), (1, .int (nI c_cell)), (2, .int side), (3, .ref (zad G (6 + 6 * 1))), (4, .int v5_4), (5, .int (nI v5_5))]) rfl ?_
            exact hk5 v5_4 v5_5 (by omega) hT5
          · rw [if_neg c6] at hT5
            refine z_aload_n ok dX2_struck_58 3 rfl ?_
            refine z_iload ok dX2_struck_59 5 rfl ?_
            refine z_callVNi ok old dX2_struck_61 [] (c_X0_sideOn G N hN hg w4 1 (by decide) v5_5 (by omega)) zy_X0_sideOn zw_397 (6 + 6 * 1) (zg_lt' hN (by decide)) (zE_board G w4 (by decide)) rfl rfl rfl rfl rfl (by decide) (Nat.le_of_ble_eq_true rfl) ?_
            refine z_iload_n ok dX2_struck_64 2 rfl ?_
            refine z_icmp_ne ok dX2_struck_65 81 (by decide) (fun c7 => ?_) (fun c7 => ?_)
            · rw [if_neg c7] at hT5
              refine z_iinc ok dX2_struck_81 (hI 5 (by decide)) 5 rfl (y := (nI (v5_5 + 1))) (z_incn v5_5 1) (lv' := [(5, .int (nI (v5_5 + 1))), (0, .ref (zad G 0)), (1, .int (nI c_cell)), (2, .int side), (3, .ref (zad G (6 + 6 * 1))), (4, .int v5_4)]) rfl ?_
              refine z_goto ok dX2_struck_84 51 (by decide) ?_
              refine z_locs [1, 2, 3, 4, 5, 0] (lv' := [(0, .ref (zad G 0)), (1, .int (nI c_cell)), (2, .int side), (3, .ref (zad G (6 + 6 * 1))), (4, .int v5_4), (5, .int (nI (v5_5 + 1)))]) rfl ?_
              exact ih5 v5_4 (v5_5 + 1) (by omega) (by omega) hT5
            · rw [if_pos c7] at hT5
              refine z_aload_n ok dX2_struck_68 3 rfl ?_
              refine z_iload ok dX2_struck_69 5 rfl ?_
              refine z_iload_n ok dX2_struck_71 1 rfl ?_
              refine z_callVNi ok old dX2_struck_72 [] (c_X0_canMove G N hN hg w4 1 (by decide) v5_5 (by omega) c_cell (by omega)) zy_X0_canMove zw_398 (6 + 6 * 1) (zg_lt' hN (by decide)) (zE_board G w4 (by decide)) rfl rfl rfl rfl rfl (by decide) (Nat.le_of_ble_eq_true rfl) ?_
              refine z_if_eq ok dX2_struck_75 81 (by decide) (fun c8 => ?_) (fun c8 => ?_)
              · rw [if_pos c8] at hT5
                refine z_iinc ok dX2_struck_81 (hI 5 (by decide)) 5 rfl (y := (nI (v5_5 + 1))) (z_incn v5_5 1) (lv' := [(5, .int (nI (v5_5 + 1))), (0, .ref (zad G 0)), (1, .int (nI c_cell)), (2, .int side), (3, .ref (zad G (6 + 6 * 1))), (4, .int v5_4)]) rfl ?_
                refine z_goto ok dX2_struck_84 51 (by decide) ?_
                refine z_locs [1, 2, 3, 4, 5, 0] (lv' := [(0, .ref (zad G 0)), (1, .int (nI c_cell)), (2, .int side), (3, .ref (zad G (6 + 6 * 1))), (4, .int v5_4), (5, .int (nI (v5_5 + 1)))]) rfl ?_
                exact ih5 v5_4 (v5_5 + 1) (by omega) (by omega) hT5
              · rw [if_neg c8] at hT5
                refine z_iinc ok dX2_struck_78 (hI 4 (by decide)) 4 rfl (y := (v5_4 + 1)) rfl (lv' := [(4, .int (v5_4 + 1)), (0, .ref (zad G 0)), (1, .int (nI c_cell)), (2, .int side), (3, .ref (zad G (6 + 6 * 1))), (5, .int (nI v5_5))]) rfl ?_
                refine z_iinc ok dX2_struck_81 (hI 5 (by decide)) 5 rfl (y := (nI (v5_5 + 1))) (z_incn v5_5 1) (lv' := [(5, .int (nI (v5_5 + 1))), (4, .int (v5_4 + 1)), (0, .ref (zad G 0)), (1, .int (nI c_cell)), (2, .int side), (3, .ref (zad G (6 + 6 * 1)))]) rfl ?_
                refine z_goto ok dX2_struck_84 51 (by decide) ?_
                refine z_locs [2, 3, 4, 5, 1, 0] (lv' := [(0, .ref (zad G 0)), (1, .int (nI c_cell)), (2, .int side), (3, .ref (zad G (6 + 6 * 1))), (4, .int (v5_4 + 1)), (5, .int (nI (v5_5 + 1)))]) rfl ?_
                exact ih5 (v5_4 + 1) (v5_5 + 1) (by omega) (by omega) hT5
      exact hl5 37 0 0 (by omega) (by omega) hT
    · rw [if_pos c2] at hT
      refine z_iconst ok dX2_struck_14 (x := (-1)) (by decide) ?_
      exact z_iret ok hE dX2_struck_15 rfl ⟨congrArg Prod.fst hT, congrArg Prod.snd hT⟩

def d_X2_leaveFrom_10k  (e1_3 : Nat) (ew1 : xW) : xW :=
  ew1
def d_X2_leaveFrom_10 (f : Nat) (kt1 : Nat → xW → xW) : Nat → Nat → xW → xW
  | 0, _, _ => default
  | n1 + 1, v1_3, vw1 => if 36 ≤ v1_3 then (kt1 v1_3 vw1)
  else (if (d_X0_hasPiece vw1 1 v1_3) = 0 then (if (d_X0_canMove vw1 1 f v1_3) = 0 then (d_X2_leaveFrom_10 f kt1 n1 (v1_3 + 1) vw1)
  else (zlet (((d_X0_springOn vw1 1 f) - (d_X0_price vw1 1 f v1_3))) fun x5 =>
  zlet (xs vw1 (5 + zpr vw1 6) v1_3 (if (xg vw1 (5 + zpr vw1 6) v1_3) < x5 then x5 else (xg vw1 (5 + zpr vw1 6) v1_3))) fun w6 =>
  d_X2_leaveFrom_10 f kt1 n1 (v1_3 + 1) w6))
  else (d_X2_leaveFrom_10 f kt1 n1 (v1_3 + 1) vw1))
def d_X2_leaveFrom (w : xW) (f : Nat) : xW :=
  d_X2_leaveFrom_10 f d_X2_leaveFrom_10k 37 0 w
set_option maxRecDepth 100000 in
set_option maxHeartbeats 4000000 in
theorem c_X2_leaveFrom (G : zG) (N : Nat) (hN : 47 ≤ N) (hg : zGeo G N) (w : xW) (f : Nat) (h_f : f < 36) : zM yX2_leaveFrom cX2_leaveFrom 5 none 4 100 G N [.ref (zad G 0), .int (nI f)] w none (d_X2_leaveFrom w f) := by
  generalize hT : d_X2_leaveFrom w f = u
  unfold d_X2_leaveFrom at hT
  refine zM_of zy_X2_leaveFrom.2.2.2.2.2.2.2 hg ⟨Nat.le_of_ble_eq_true rfl, by decide⟩ rfl (fun k ok hE hI => ?_)
  have old := hE.old
  refine z_aload_n ok dX2_leaveFrom_0 0 rfl ?_
  refine z_get_X2_trial ok dX2_leaveFrom_1 hN zw_177 ?_
  refine z_getN_X1_board ok dX2_leaveFrom_4 1 (by decide) hN zw_89 ?_
  refine z_astore_n ok dX2_leaveFrom_7 (hI 2 (by decide)) (lv' := [(2, .ref (zad G (6 + 6 * 1))), (0, .ref (zad G 0)), (1, .int (nI f))]) rfl ?_
  refine z_iconst ok dX2_leaveFrom_8 (x := 0) (by decide) ?_
  refine z_istore_n ok dX2_leaveFrom_9 (hI 3 (by decide)) (lv' := [(3, .int 0), (2, .ref (zad G (6 + 6 * 1))), (0, .ref (zad G 0)), (1, .int (nI f))]) rfl ?_
  refine z_locs [2, 3, 1, 0] (lv' := [(0, .ref (zad G 0)), (1, .int (nI f)), (2, .ref (zad G (6 + 6 * 1))), (3, .int 0)]) rfl ?_
  obtain ⟨kt1, hkt1⟩ : ∃ z, z = d_X2_leaveFrom_10k := ⟨_, rfl⟩
  rw [← hkt1] at hT
  have hk1 : ∀ (e1_3 : Nat) (ew1 : xW), e1_3 ≤ 36 → kt1 e1_3 ew1 = u → zZ k G N ew1 70 [(0, .ref (zad G 0)), (1, .int (nI f)), (2, .ref (zad G (6 + 6 * 1))), (3, .int (nI e1_3))] [] := by
    intro e1_3 ew1 q1_0 hT1
    rw [hkt1, d_X2_leaveFrom_10k] at hT1
    exact z_vret ok hE dX2_leaveFrom_70 hT1
  have hl1 : ∀ (n1 : Nat) (v1_3 : Nat) (vw1 : xW), 36 < v1_3 + n1 → v1_3 ≤ 36 → d_X2_leaveFrom_10 f kt1 n1 v1_3 vw1 = u → zZ k G N vw1 10 [(0, .ref (zad G 0)), (1, .int (nI f)), (2, .ref (zad G (6 + 6 * 1))), (3, .int (nI v1_3))] [] := by
    intro n1
    induction n1 with
    | zero =>
      intro v1_3 vw1 q1_0 q1_1
      exact absurd q1_0 (by omega)
    | succ n1 ih1 =>
      intro v1_3 vw1 q1_0 q1_1 hT1
      rw [d_X2_leaveFrom_10] at hT1
      refine z_iload_n ok dX2_leaveFrom_10 3 rfl ?_
      refine z_bipush ok dX2_leaveFrom_11 (x := 36) (by decide) ?_
      refine z_icmp_ge_n ok dX2_leaveFrom_13 70 (by decide) v1_3 36 rfl rfl (by omega) (fun c2 => ?_) (fun c2 => ?_)
      · rw [if_pos c2] at hT1
        refine z_locs [0, 1, 2, 3] (lv' := [(0, .ref (zad G 0)), (1, .int (nI f)), (2, .ref (zad G (6 + 6 * 1))), (3, .int (nI v1_3))]) rfl ?_
        exact hk1 v1_3 vw1 (by omega) hT1
      · rw [if_neg c2] at hT1
        refine z_aload_n ok dX2_leaveFrom_16 2 rfl ?_
        refine z_iload_n ok dX2_leaveFrom_17 3 rfl ?_
        refine z_callVNi ok old dX2_leaveFrom_18 [] (c_X0_hasPiece G N hN hg vw1 1 (by decide) v1_3 (by omega)) zy_X0_hasPiece zw_265 (6 + 6 * 1) (zg_lt' hN (by decide)) (zE_board G vw1 (by decide)) rfl rfl rfl rfl rfl (by decide) (Nat.le_of_ble_eq_true rfl) ?_
        refine z_if_ne ok dX2_leaveFrom_21 64 (by decide) (fun c3 => ?_) (fun c3 => ?_)
        · rw [if_neg c3] at hT1
          refine z_iinc ok dX2_leaveFrom_64 (hI 3 (by decide)) 3 rfl (y := (nI (v1_3 + 1))) (z_incn v1_3 1) (lv' := [(3, .int (nI (v1_3 + 1))), (0, .ref (zad G 0)), (1, .int (nI f)), (2, .ref (zad G (6 + 6 * 1)))]) rfl ?_
          refine z_goto ok dX2_leaveFrom_67 10 (by decide) ?_
          refine z_locs [1, 2, 3, 0] (lv' := [(0, .ref (zad G 0)), (1, .int (nI f)), (2, .ref (zad G (6 + 6 * 1))), (3, .int (nI (v1_3 + 1)))]) rfl ?_
          exact ih1 (v1_3 + 1) vw1 (by omega) (by omega) hT1
        · rw [if_pos c3] at hT1
          refine z_aload_n ok dX2_leaveFrom_24 2 rfl ?_
          refine z_iload_n ok dX2_leaveFrom_25 1 rfl ?_
          refine z_iload_n ok dX2_leaveFrom_26 3 rfl ?_
          refine z_callVNi ok old dX2_leaveFrom_27 [] (c_X0_canMove G N hN hg vw1 1 (by decide) f (by omega) v1_3 (by omega)) zy_X0_canMove zw_398 (6 + 6 * 1) (zg_lt' hN (by decide)) (zE_board G vw1 (by decide)) rfl rfl rfl rfl rfl (by decide) (Nat.le_of_ble_eq_true rfl) ?_
          refine z_if_eq ok dX2_leaveFrom_30 64 (by decide) (fun c4 => ?_) (fun c4 => ?_)
          · rw [if_pos c4] at hT1
            refine z_iinc ok dX2_leaveFrom_64 (hI 3 (by decide)) 3 rfl (y := (nI (v1_3 + 1))) (z_incn v1_3 1) (lv' := [(3, .int (nI (v1_3 + 1))), (0, .ref (zad G 0)), (1, .int (nI f)), (2, .ref (zad G (6 + 6 * 1)))]) rfl ?_
            refine z_goto ok dX2_leaveFrom_67 10 (by decide) ?_
            refine z_locs [1, 2, 3, 0] (lv' := [(0, .ref (zad G 0)), (1, .int (nI f)), (2, .ref (zad G (6 + 6 * 1))), (3, .int (nI (v1_3 + 1)))]) rfl ?_
            exact ih1 (v1_3 + 1) vw1 (by omega) (by omega) hT1
          · rw [if_neg c4] at hT1
            refine z_aload_n ok dX2_leaveFrom_33 2 rfl ?_
            refine z_iload_n ok dX2_leaveFrom_34 1 rfl ?_
            refine z_callVNi ok old dX2_leaveFrom_35 [] (c_X0_springOn G N hN hg vw1 1 (by decide) f (by omega)) zy_X0_springOn zw_420 (6 + 6 * 1) (zg_lt' hN (by decide)) (zE_board G vw1 (by decide)) rfl rfl rfl rfl rfl (by decide) (Nat.le_of_ble_eq_true rfl) ?_
            refine z_aload_n ok dX2_leaveFrom_38 2 rfl ?_
            refine z_iload_n ok dX2_leaveFrom_39 1 rfl ?_
            refine z_iload_n ok dX2_leaveFrom_40 3 rfl ?_
            refine z_callVNi ok old dX2_leaveFrom_41 [.int (d_X0_springOn vw1 1 f)] (c_X0_price G N hN hg vw1 1 (by decide) f (by omega) v1_3 (by omega)) zy_X0_price zw_436 (6 + 6 * 1) (zg_lt' hN (by decide)) (zE_board G vw1 (by decide)) rfl rfl rfl rfl rfl (by decide) (Nat.le_of_ble_eq_true rfl) ?_
            refine z_isub ok dX2_leaveFrom_44 ?_
            replace hT1 := zlet_open hT1
            obtain ⟨x5, hx5, hT1⟩ := hT1
            rw [← hx5]
            refine z_istore ok dX2_leaveFrom_45 (hI 4 (by decide)) (lv' := [(4, .int x5), (0, .ref (zad G 0)), (1, .int (nI f)), (2, .ref (zad G (6 + 6 * 1))), (3, .int (nI v1_3))]) rfl ?_
            refine z_aload_n ok dX2_leaveFrom_47 1 rfl ?_
            refine z_get_X2_springLeftNext ok dX2_leaveFrom_48 hN zw_183 ?_
            refine z_iload_n ok dX2_leaveFrom_51 4 rfl ?_
            refine z_aload_n ok dX2_leaveFrom_52 1 rfl ?_
            refine z_get_X2_springLeftNext ok dX2_leaveFrom_53 hN zw_183 ?_
            refine z_iload_n ok dX2_leaveFrom_56 4 rfl ?_
            refine z_rld ok dX2_leaveFrom_57 vw1 6 hN v1_3 rfl (by omega) ?_
            refine z_iload ok dX2_leaveFrom_58 0 rfl ?_
            refine z_max ok dX2_leaveFrom_60 zw_457 zw_335 zw_52 zw_336 ⟨by decide, Nat.le_of_ble_eq_true rfl⟩ ?_
            refine z_rst ok dX2_leaveFrom_63 vw1 6 hN v1_3 rfl (by omega) ?_
            replace hT1 := zlet_open hT1
            obtain ⟨w6, hw6, hT1⟩ := hT1
            rw [← hw6]
            refine z_iinc ok dX2_leaveFrom_64 (hI 3 (by decide)) 4 rfl (y := (nI (v1_3 + 1))) (z_incn v1_3 1) (lv' := [(3, .int (nI (v1_3 + 1))), (4, .int x5), (0, .ref (zad G 0)), (1, .int (nI f)), (2, .ref (zad G (6 + 6 * 1)))]) rfl ?_
            refine z_goto ok dX2_leaveFrom_67 10 (by decide) ?_
            refine z_locs [2, 3, 4, 0] (lv' := [(0, .ref (zad G 0)), (1, .int (nI f)), (2, .ref (zad G (6 + 6 * 1))), (3, .int (nI (v1_3 + 1)))]) rfl ?_
            exact ih1 (v1_3 + 1) w6 (by omega) (by omega) hT1
  exact hl1 37 0 w (by omega) (by omega) hT

def d_X2_makeReachWider_26k  (e2_4 : Nat) (ew2 : xW) : xW :=
  zlet (xp ew2 5 ((zpr ew2 6) - 3)) fun w3 =>
  zlet (xp w3 6 ((zpr ew2 5) - 3)) fun w4 =>
  w4
def d_X2_makeReachWider_26 (side : Int32) (kind : Int32) (kt2 : Nat → xW → xW) : Nat → Nat → xW → xW
  | 0, _, _ => default
  | n2 + 1, v2_4, vw2 => if 36 ≤ v2_4 then (kt2 v2_4 vw2)
  else (if (xg vw2 (5 + zpr vw2 5) v2_4) ≤ 0 then (d_X2_makeReachWider_26 side kind kt2 n2 (v2_4 + 1) vw2)
  else (zlet (d_X0_place vw2 1 v2_4 side kind (xg vw2 (5 + zpr vw2 5) v2_4)) fun w7 =>
  zlet (d_X2_leaveFrom w7 v2_4) fun w8 =>
  zlet (d_X0_empty w8 1 v2_4) fun w9 =>
  d_X2_makeReachWider_26 side kind kt2 n2 (v2_4 + 1) w9))
def d_X2_makeReachWider (w : xW) (side : Int32) (kind : Int32) : xW :=
  zlet (xcopy w (5 + zpr w 6) 0 (5 + zpr w 5) 0) fun w1 =>
  d_X2_makeReachWider_26 side kind d_X2_makeReachWider_26k 37 0 w1
set_option maxRecDepth 100000 in
set_option maxHeartbeats 4000000 in
theorem c_X2_makeReachWider (G : zG) (N : Nat) (hN : 47 ≤ N) (hg : zGeo G N) (w : xW) (side : Int32) (kind : Int32) : zM yX2_makeReachWider cX2_makeReachWider 5 none 5 124 G N [.ref (zad G 0), .int side, .int kind] w none (d_X2_makeReachWider w side kind) := by
  generalize hT : d_X2_makeReachWider w side kind = u
  unfold d_X2_makeReachWider at hT
  refine zM_of zy_X2_makeReachWider.2.2.2.2.2.2.2 hg ⟨Nat.le_of_ble_eq_true rfl, by decide⟩ rfl (fun k ok hE hI => ?_)
  have old := hE.old
  refine z_aload_n ok dX2_makeReachWider_0 0 rfl ?_
  refine z_get_X2_trial ok dX2_makeReachWider_1 hN zw_177 ?_
  refine z_getN_X1_board ok dX2_makeReachWider_4 1 (by decide) hN zw_89 ?_
  refine z_astore_n ok dX2_makeReachWider_7 (hI 3 (by decide)) (lv' := [(3, .ref (zad G (6 + 6 * 1))), (0, .ref (zad G 0)), (1, .int side), (2, .int kind)]) rfl ?_
  refine z_aload_n ok dX2_makeReachWider_8 1 rfl ?_
  refine z_get_X2_springLeft ok dX2_makeReachWider_9 hN zw_182 ?_
  refine z_iconst ok dX2_makeReachWider_12 (x := 0) (by decide) ?_
  refine z_aload_n ok dX2_makeReachWider_13 1 rfl ?_
  refine z_get_X2_springLeftNext ok dX2_makeReachWider_14 hN zw_183 ?_
  refine z_iconst ok dX2_makeReachWider_17 (x := 0) (by decide) ?_
  refine z_bipush ok dX2_makeReachWider_18 (x := 36) (by decide) ?_
  refine z_copy ok dX2_makeReachWider_20 zw_452 zw_224 zw_223 zw_51 (zpr w 5) (zpr w 6) (by have := zpr_lt w 5; omega) (by have := zpr_lt w 6; omega) ((fun u => zE_row G w u 5) w) (fun u => zE_row G w u 6) (v := (5 + zpr w 6)) (o := 0) (v0 := (5 + zpr w 5)) (o0 := 0) (n := 36) (u := xcopy w (5 + zpr w 6) 0 (5 + zpr w 5) 0) rfl (by decide) (xcopy_xg w (5 + zpr w 6) 0 (5 + zpr w 5) 0) rfl (fun b h1 h2 => zown_row _ _ _) ⟨by decide, Nat.le_trans (Nat.add_le_add_left znative _) (Nat.le_of_ble_eq_true rfl)⟩ ?_
  replace hT := zlet_open hT
  obtain ⟨w1, hw1, hT⟩ := hT
  rw [← hw1]
  refine z_iconst ok dX2_makeReachWider_23 (x := 0) (by decide) ?_
  refine z_istore ok dX2_makeReachWider_24 (hI 4 (by decide)) (lv' := [(4, .int 0), (3, .ref (zad G (6 + 6 * 1))), (0, .ref (zad G 0)), (1, .int side), (2, .int kind)]) rfl ?_
  refine z_locs [2, 3, 4, 1, 0] (lv' := [(0, .ref (zad G 0)), (1, .int side), (2, .int kind), (3, .ref (zad G (6 + 6 * 1))), (4, .int 0)]) rfl ?_
  obtain ⟨kt2, hkt2⟩ : ∃ z, z = d_X2_makeReachWider_26k := ⟨_, rfl⟩
  rw [← hkt2] at hT
  have hk2 : ∀ (e2_4 : Nat) (ew2 : xW), e2_4 ≤ 36 → kt2 e2_4 ew2 = u → zZ k G N ew2 76 [(0, .ref (zad G 0)), (1, .int side), (2, .int kind), (3, .ref (zad G (6 + 6 * 1))), (4, .int (nI e2_4))] [] := by
    intro e2_4 ew2 q2_0 hT2
    rw [hkt2, d_X2_makeReachWider_26k] at hT2
    refine z_aload_n ok dX2_makeReachWider_76 0 rfl ?_
    refine z_get_X2_springLeft ok dX2_makeReachWider_77 hN zw_182 ?_
    refine z_astore ok dX2_makeReachWider_80 (hI 4 (by decide)) (lv' := [(4, .ref (zad G (zpr ew2 5))), (0, .ref (zad G 0)), (1, .int side), (2, .int kind), (3, .ref (zad G (6 + 6 * 1)))]) rfl ?_
    refine z_aload_n ok dX2_makeReachWider_82 1 rfl ?_
    refine z_aload_n ok dX2_makeReachWider_83 1 rfl ?_
    refine z_get_X2_springLeftNext ok dX2_makeReachWider_84 hN zw_183 ?_
    refine z_put_X2_springLeft ok dX2_makeReachWider_87 hN (zpr ew2 6) (zpr_34 _ _) zw_182 ?_
    replace hT2 := zlet_open hT2
    obtain ⟨w3, hw3, hT2⟩ := hT2
    rw [← hw3]
    refine z_aload_n ok dX2_makeReachWider_90 1 rfl ?_
    refine z_aload ok dX2_makeReachWider_91 0 rfl ?_
    refine z_put_X2_springLeftNext ok dX2_makeReachWider_93 hN (zpr ew2 5) (zpr_34 _ _) zw_183 ?_
    replace hT2 := zlet_open hT2
    obtain ⟨w4, hw4, hT2⟩ := hT2
    rw [← hw4]
    exact z_vret ok hE dX2_makeReachWider_96 hT2
  have hl2 : ∀ (n2 : Nat) (v2_4 : Nat) (vw2 : xW), 36 < v2_4 + n2 → v2_4 ≤ 36 → d_X2_makeReachWider_26 side kind kt2 n2 v2_4 vw2 = u → zZ k G N vw2 26 [(0, .ref (zad G 0)), (1, .int side), (2, .int kind), (3, .ref (zad G (6 + 6 * 1))), (4, .int (nI v2_4))] [] := by
    intro n2
    induction n2 with
    | zero =>
      intro v2_4 vw2 q2_0 q2_1
      exact absurd q2_0 (by omega)
    | succ n2 ih2 =>
      intro v2_4 vw2 q2_0 q2_1 hT2
      rw [d_X2_makeReachWider_26] at hT2
      refine z_iload ok dX2_makeReachWider_26 4 rfl ?_
      refine z_bipush ok dX2_makeReachWider_28 (x := 36) (by decide) ?_
      refine z_icmp_ge_n ok dX2_makeReachWider_30 76 (by decide) v2_4 36 rfl rfl (by omega) (fun c5 => ?_) (fun c5 => ?_)
      · rw [if_pos c5] at hT2
        refine z_locs [0, 1, 2, 3, 4] (lv' := [(0, .ref (zad G 0)), (1, .int side), (2, .int kind), (3, .ref (zad G (6 + 6 * 1))), (4, .int (nI v2_4))]) rfl ?_
        exact hk2 v2_4 vw2 (by omega) hT2
      · rw [if_neg c5] at hT2
        refine z_aload_n ok dX2_makeReachWider_33 0 rfl ?_
        refine z_get_X2_springLeft ok dX2_makeReachWider_34 hN zw_182 ?_
        refine z_iload ok dX2_makeReachWider_37 4 rfl ?_
        refine z_rld ok dX2_makeReachWider_39 vw2 5 hN v2_4 rfl (by omega) ?_
        refine z_if_le ok dX2_makeReachWider_40 70 (by decide) (fun c6 => ?_) (fun c6 => ?_)
        · rw [if_pos c6] at hT2
          refine z_iinc ok dX2_makeReachWider_70 (hI 4 (by decide)) 4 rfl (y := (nI (v2_4 + 1))) (z_incn v2_4 1) (lv' := [(4, .int (nI (v2_4 + 1))), (0, .ref (zad G 0)), (1, .int side), (2, .int kind), (3, .ref (zad G (6 + 6 * 1)))]) rfl ?_
          refine z_goto ok dX2_makeReachWider_73 26 (by decide) ?_
          refine z_locs [1, 2, 3, 4, 0] (lv' := [(0, .ref (zad G 0)), (1, .int side), (2, .int kind), (3, .ref (zad G (6 + 6 * 1))), (4, .int (nI (v2_4 + 1)))]) rfl ?_
          exact ih2 (v2_4 + 1) vw2 (by omega) (by omega) hT2
        · rw [if_neg c6] at hT2
          refine z_aload_n ok dX2_makeReachWider_43 3 rfl ?_
          refine z_iload ok dX2_makeReachWider_44 4 rfl ?_
          refine z_iload_n ok dX2_makeReachWider_46 1 rfl ?_
          refine z_iload_n ok dX2_makeReachWider_47 2 rfl ?_
          refine z_aload_n ok dX2_makeReachWider_48 0 rfl ?_
          refine z_get_X2_springLeft ok dX2_makeReachWider_49 hN zw_182 ?_
          refine z_iload ok dX2_makeReachWider_52 4 rfl ?_
          refine z_rld ok dX2_makeReachWider_54 vw2 5 hN v2_4 rfl (by omega) ?_
          refine z_callVNv ok old dX2_makeReachWider_55 [] (c_X0_place G N hN hg vw2 1 (by decide) v2_4 (by omega) side kind (xg vw2 (5 + zpr vw2 5) v2_4)) zy_X0_place zw_442 (6 + 6 * 1) (zg_lt' hN (by decide)) (zE_board G vw2 (by decide)) rfl rfl rfl rfl rfl (by decide) (Nat.le_of_ble_eq_true rfl) ?_
          replace hT2 := zlet_open hT2
          obtain ⟨w7, hw7, hT2⟩ := hT2
          rw [← hw7]
          refine z_aload_n ok dX2_makeReachWider_58 0 rfl ?_
          refine z_iload ok dX2_makeReachWider_59 4 rfl ?_
          refine z_callVv ok old dX2_makeReachWider_61 [] (c_X2_leaveFrom G N hN hg w7 v2_4 (by omega)) zy_X2_leaveFrom zw_453 0 (by omega) (zE_0 G w7) rfl rfl rfl rfl rfl (by decide) (Nat.le_of_ble_eq_true rfl) ?_
          replace hT2 := zlet_open hT2
          obtain ⟨w8, hw8, hT2⟩ := hT2
          rw [← hw8]
          refine z_aload_n ok dX2_makeReachWider_64 3 rfl ?_
          refine z_iload ok dX2_makeReachWider_65 4 rfl ?_
          refine z_callVNv ok old dX2_makeReachWider_67 [] (c_X0_empty G N hN hg w8 1 (by decide) v2_4 (by omega)) zy_X0_empty zw_447 (6 + 6 * 1) (zg_lt' hN (by decide)) (zE_board G w8 (by decide)) rfl rfl rfl rfl rfl (by decide) (Nat.le_of_ble_eq_true rfl) ?_
          replace hT2 := zlet_open hT2
          obtain ⟨w9, hw9, hT2⟩ := hT2
          rw [← hw9]
          refine z_iinc ok dX2_makeReachWider_70 (hI 4 (by decide)) 4 rfl (y := (nI (v2_4 + 1))) (z_incn v2_4 1) (lv' := [(4, .int (nI (v2_4 + 1))), (0, .ref (zad G 0)), (1, .int side), (2, .int kind), (3, .ref (zad G (6 + 6 * 1)))]) rfl ?_
          refine z_goto ok dX2_makeReachWider_73 26 (by decide) ?_
          refine z_locs [1, 2, 3, 4, 0] (lv' := [(0, .ref (zad G 0)), (1, .int side), (2, .int kind), (3, .ref (zad G (6 + 6 * 1))), (4, .int (nI (v2_4 + 1)))]) rfl ?_
          exact ih2 (v2_4 + 1) w9 (by omega) (by omega) hT2
  exact hl2 37 0 w1 (by omega) (by omega) hT

def d_X2_cellsReached_4k  (e1_1 : Int32) (e1_2 : Nat) : Int32 :=
  e1_1
def d_X2_cellsReached_4 (w : xW) (kt1 : Int32 → Nat → Int32) : Nat → Int32 → Nat → Int32
  | 0, _, _ => default
  | n1 + 1, v1_1, v1_2 => if 36 ≤ v1_2 then (kt1 v1_1 v1_2)
  else (if (xg w (5 + zpr w 5) v1_2) = (-1) then (d_X2_cellsReached_4 w kt1 n1 v1_1 (v1_2 + 1))
  else (d_X2_cellsReached_4 w kt1 n1 (v1_1 + 1) (v1_2 + 1)))
def d_X2_cellsReached (w : xW)  : Int32 :=
  d_X2_cellsReached_4 w d_X2_cellsReached_4k 37 0 0
set_option maxRecDepth 100000 in
set_option maxHeartbeats 4000000 in
theorem c_X2_cellsReached (G : zG) (N : Nat) (hN : 47 ≤ N) (hg : zGeo G N) (w : xW) : zM yX2_cellsReached cX2_cellsReached 3 (some .int) 0 0 G N [.ref (zad G 0)] w (some (d_X2_cellsReached w)) w := by
  generalize hT : d_X2_cellsReached w = r
  unfold d_X2_cellsReached at hT
  refine zM_of zy_X2_cellsReached.2.2.2.2.2.2.2 hg ⟨Nat.le_of_ble_eq_true rfl, by decide⟩ rfl (fun k ok hE hI => ?_)
  have old := hE.old
  refine z_iconst ok dX2_cellsReached_0 (x := 0) (by decide) ?_
  refine z_istore_n ok dX2_cellsReached_1 (hI 1 (by decide)) (lv' := [(1, .int 0), (0, .ref (zad G 0))]) rfl ?_
  refine z_iconst ok dX2_cellsReached_2 (x := 0) (by decide) ?_
  refine z_istore_n ok dX2_cellsReached_3 (hI 2 (by decide)) (lv' := [(2, .int 0), (1, .int 0), (0, .ref (zad G 0))]) rfl ?_
  refine z_locs [2, 1, 0] (lv' := [(0, .ref (zad G 0)), (1, .int 0), (2, .int 0)]) rfl ?_
  obtain ⟨kt1, hkt1⟩ : ∃ z, z = d_X2_cellsReached_4k := ⟨_, rfl⟩
  rw [← hkt1] at hT
  have hk1 : ∀ (e1_1 : Int32) (e1_2 : Nat), e1_2 ≤ 36 → kt1 e1_1 e1_2 = r → zZ k G N w 29 [(0, .ref (zad G 0)), (1, .int e1_1), (2, .int (nI e1_2))] [] := by
    intro e1_1 e1_2 q1_0 hT1
    rw [hkt1, d_X2_cellsReached_4k] at hT1
    refine z_iload_n ok dX2_cellsReached_29 1 rfl ?_
    exact z_iret ok hE dX2_cellsReached_30 rfl ⟨hT1, rfl⟩
  have hl1 : ∀ (n1 : Nat) (v1_1 : Int32) (v1_2 : Nat), 36 < v1_2 + n1 → v1_2 ≤ 36 → d_X2_cellsReached_4 w kt1 n1 v1_1 v1_2 = r → zZ k G N w 4 [(0, .ref (zad G 0)), (1, .int v1_1), (2, .int (nI v1_2))] [] := by
    intro n1
    induction n1 with
    | zero =>
      intro v1_1 v1_2 q1_0 q1_1
      exact absurd q1_0 (by omega)
    | succ n1 ih1 =>
      intro v1_1 v1_2 q1_0 q1_1 hT1
      rw [d_X2_cellsReached_4] at hT1
      refine z_iload_n ok dX2_cellsReached_4 2 rfl ?_
      refine z_bipush ok dX2_cellsReached_5 (x := 36) (by decide) ?_
      refine z_icmp_ge_n ok dX2_cellsReached_7 29 (by decide) v1_2 36 rfl rfl (by omega) (fun c2 => ?_) (fun c2 => ?_)
      · rw [if_pos c2] at hT1
        refine z_locs [0, 1, 2] (lv' := [(0, .ref (zad G 0)), (1, .int v1_1), (2, .int (nI v1_2))]) rfl ?_
        exact hk1 v1_1 v1_2 (by omega) hT1
      · rw [if_neg c2] at hT1
        refine z_aload_n ok dX2_cellsReached_10 0 rfl ?_
        refine z_get_X2_springLeft ok dX2_cellsReached_11 hN zw_182 ?_
        refine z_iload_n ok dX2_cellsReached_14 2 rfl ?_
        refine z_rld ok dX2_cellsReached_15 w 5 hN v1_2 rfl (by omega) ?_
        refine z_iconst ok dX2_cellsReached_16 (x := (-1)) (by decide) ?_
        refine z_icmp_eq ok dX2_cellsReached_17 23 (by decide) (fun c3 => ?_) (fun c3 => ?_)
        · rw [if_pos c3] at hT1
          refine z_iinc ok dX2_cellsReached_23 (hI 2 (by decide)) 2 rfl (y := (nI (v1_2 + 1))) (z_incn v1_2 1) (lv' := [(2, .int (nI (v1_2 + 1))), (0, .ref (zad G 0)), (1, .int v1_1)]) rfl ?_
          refine z_goto ok dX2_cellsReached_26 4 (by decide) ?_
          refine z_locs [1, 2, 0] (lv' := [(0, .ref (zad G 0)), (1, .int v1_1), (2, .int (nI (v1_2 + 1)))]) rfl ?_
          exact ih1 v1_1 (v1_2 + 1) (by omega) (by omega) hT1
        · rw [if_neg c3] at hT1
          refine z_iinc ok dX2_cellsReached_20 (hI 1 (by decide)) 1 rfl (y := (v1_1 + 1)) rfl (lv' := [(1, .int (v1_1 + 1)), (0, .ref (zad G 0)), (2, .int (nI v1_2))]) rfl ?_
          refine z_iinc ok dX2_cellsReached_23 (hI 2 (by decide)) 2 rfl (y := (nI (v1_2 + 1))) (z_incn v1_2 1) (lv' := [(2, .int (nI (v1_2 + 1))), (1, .int (v1_1 + 1)), (0, .ref (zad G 0))]) rfl ?_
          refine z_goto ok dX2_cellsReached_26 4 (by decide) ?_
          refine z_locs [2, 1, 0] (lv' := [(0, .ref (zad G 0)), (1, .int (v1_1 + 1)), (2, .int (nI (v1_2 + 1)))]) rfl ?_
          exact ih1 (v1_1 + 1) (v1_2 + 1) (by omega) (by omega) hT1
  exact hl1 37 0 0 (by omega) (by omega) hT
