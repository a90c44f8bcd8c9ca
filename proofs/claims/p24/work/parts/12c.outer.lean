def d_X2_reach_136k  (e10_5 : Nat) (ew10 : xW) : Int32 × xW :=
  ((d_X2_cellsReached ew10), ew10)
def d_X2_reach_136 (c_moves : Nat) (x5 : Int32) (x6 : Int32) (kt10 : Nat → xW → (Int32 × xW)) : Nat → Nat → xW → Int32 × xW
  | 0, _, _ => default
  | n10 + 1, v10_5, vw10 => if c_moves ≤ v10_5 then (kt10 v10_5 vw10)
  else (zlet (d_X2_makeReachWider vw10 x5 x6) fun w12 =>
  d_X2_reach_136 c_moves x5 x6 kt10 n10 (v10_5 + 1) w12)
def d_X2_reach_92k (c_moves : Nat) (x5 : Int32) (x6 : Int32) (e9_5 : Nat) (ew9 : xW) : Int32 × xW :=
  d_X2_reach_136 c_moves x5 x6 d_X2_reach_136k (c_moves + 1) 0 ew9
def d_X2_reach_92 (c_cell : Nat) (kt9 : Nat → xW → (Int32 × xW)) : Nat → Nat → xW → Int32 × xW
  | 0, _, _ => default
  | n9 + 1, v9_5, vw9 => if 36 ≤ v9_5 then (kt9 v9_5 vw9)
  else (zlet (if v9_5 = c_cell then ((d_X0_springOn vw9 0 c_cell))
  else ((-1)) : Int32) fun x14 =>
  zlet (xs vw9 (5 + zpr vw9 5) v9_5 x14) fun w15 =>
  d_X2_reach_92 c_cell kt9 n9 (v9_5 + 1) w15)
def d_X2_reach (w : xW) (cell : Int32) (moves : Int32) : Int32 × xW :=
  if (d_X2_isCell w cell) = 0 then (((-1), w))
  else (if moves < 0 then (((-1), w))
  else (if moves ≤ 12 then (zlet cell.toNatClampNeg fun c_cell =>
  if (d_X0_hasPiece w 0 c_cell) = 0 then (((-4), w))
  else (zlet moves.toNatClampNeg fun c_moves =>
  zlet ((d_X0_sideOn w 0 c_cell)) fun x5 =>
  zlet ((d_X0_kindOn w 0 c_cell)) fun x6 =>
  zlet (d_X0_copyFrom w 1 0) fun w7 =>
  zlet (d_X0_empty w7 1 c_cell) fun w8 =>
  d_X2_reach_92 c_cell (d_X2_reach_92k c_moves x5 x6) 37 0 w8))
  else (((-1), w))))
set_option maxRecDepth 100000 in
set_option maxHeartbeats 4000000 in
theorem c_X2_reach (G : zG) (N : Nat) (hN : 47 ≤ N) (hg : zGeo G N) (w : xW) (cell : Int32) (moves : Int32) : zM yX2_reach cX2_reach 6 (some .int) 6 148 G N [.ref (zad G 0), .int cell, .int moves] w (some (d_X2_reach w cell moves).1) (d_X2_reach w cell moves).2 := by
  obtain ⟨r, u, hT⟩ := zpair (d_X2_reach w cell moves)
  rw [hT]
  dsimp only
  unfold d_X2_reach at hT
  refine zM_of zy_X2_reach.2.2.2.2.2.2.2 hg ⟨Nat.le_of_ble_eq_true rfl, by decide⟩ rfl (fun k ok hE hI => ?_)
  have old := hE.old
  refine z_iload_n ok dX2_reach_0 1 rfl ?_
  refine z_callSi ok old dX2_reach_1 [] (c_X2_isCell G N hN hg w cell) zy_X2_isCell zw_260 rfl rfl (by decide) (Nat.le_of_ble_eq_true rfl) ?_
  refine z_if_eq ok dX2_reach_4 17 (by decide) (fun c1 => ?_) (fun c1 => ?_)
  · rw [if_pos c1] at hT
    refine z_iconst ok dX2_reach_17 (x := (-1)) (by decide) ?_
    exact z_iret ok hE dX2_reach_18 rfl ⟨congrArg Prod.fst hT, congrArg Prod.snd hT⟩
  · rw [if_neg c1] at hT
    refine z_iload_n ok dX2_reach_7 2 rfl ?_
    refine z_if_lt ok dX2_reach_8 17 (by decide) (fun c2 => ?_) (fun c2 => ?_)
    · rw [if_pos c2] at hT
      refine z_iconst ok dX2_reach_17 (x := (-1)) (by decide) ?_
      exact z_iret ok hE dX2_reach_18 rfl ⟨congrArg Prod.fst hT, congrArg Prod.snd hT⟩
    · rw [if_neg c2] at hT
      refine z_iload_n ok dX2_reach_11 2 rfl ?_
      refine z_bipush ok dX2_reach_12 (x := 12) (by decide) ?_
      refine z_icmp_le ok dX2_reach_14 19 (by decide) (fun c3 => ?_) (fun c3 => ?_)
      · rw [if_pos c3] at hT
        replace hT := zlet_open hT
        obtain ⟨c_cell, hc_cell, hT⟩ := hT
        obtain ⟨lc_cell, ec_cell⟩ := zcellx (zisCell (by assumption)) hc_cell
        subst ec_cell
        refine z_aload_n ok dX2_reach_19 0 rfl ?_
        refine z_get_X2_game ok dX2_reach_20 hN zw_176 ?_
        refine z_getN_X1_board ok dX2_reach_23 0 (by decide) hN zw_89 ?_
        refine z_iload_n ok dX2_reach_26 1 rfl ?_
        refine z_callVNi ok old dX2_reach_27 [] (c_X0_hasPiece G N hN hg w 0 (by decide) c_cell (by omega)) zy_X0_hasPiece zw_265 (6 + 6 * 0) (zg_lt' hN (by decide)) (zE_board G w (by decide)) rfl rfl rfl rfl rfl (by decide) (Nat.le_of_ble_eq_true rfl) ?_
        refine z_if_ne ok dX2_reach_30 36 (by decide) (fun c4 => ?_) (fun c4 => ?_)
        · rw [if_neg c4] at hT
          replace hT := zlet_open hT
          obtain ⟨c_moves, hc_moves, hT⟩ := hT
          obtain ⟨lc_moves, ec_moves⟩ := zcellx (zidx13 (by assumption) (by assumption)) hc_moves
          subst ec_moves
          refine z_aload_n ok dX2_reach_36 0 rfl ?_
          refine z_get_X2_game ok dX2_reach_37 hN zw_176 ?_
          refine z_getN_X1_board ok dX2_reach_40 0 (by decide) hN zw_89 ?_
          refine z_iload_n ok dX2_reach_43 1 rfl ?_
          refine z_callVNi ok old dX2_reach_44 [] (c_X0_sideOn G N hN hg w 0 (by decide) c_cell (by omega)) zy_X0_sideOn zw_397 (6 + 6 * 0) (zg_lt' hN (by decide)) (zE_board G w (by decide)) rfl rfl rfl rfl rfl (by decide) (Nat.le_of_ble_eq_true rfl) ?_
          replace hT := zlet_open hT
          obtain ⟨x5, hx5, hT⟩ := hT
          rw [← hx5]
          refine z_istore_n ok dX2_reach_47 (hI 3 (by decide)) (lv' := [(3, .int x5), (0, .ref (zad G 0)), (1, .int (nI c_cell)), (2, .int (nI c_moves))]) rfl ?_
          refine z_aload_n ok dX2_reach_48 1 rfl ?_
          refine z_get_X2_game ok dX2_reach_49 hN zw_176 ?_
          refine z_getN_X1_board ok dX2_reach_52 0 (by decide) hN zw_89 ?_
          refine z_iload_n ok dX2_reach_55 2 rfl ?_
          refine z_callVNi ok old dX2_reach_56 [] (c_X0_kindOn G N hN hg w 0 (by decide) c_cell (by omega)) zy_X0_kindOn zw_419 (6 + 6 * 0) (zg_lt' hN (by decide)) (zE_board G w (by decide)) rfl rfl rfl rfl rfl (by decide) (Nat.le_of_ble_eq_true rfl) ?_
          replace hT := zlet_open hT
          obtain ⟨x6, hx6, hT⟩ := hT
          rw [← hx6]
          refine z_istore ok dX2_reach_59 (hI 4 (by decide)) (lv' := [(4, .int x6), (3, .int x5), (0, .ref (zad G 0)), (1, .int (nI c_cell)), (2, .int (nI c_moves))]) rfl ?_
          refine z_aload_n ok dX2_reach_61 2 rfl ?_
          refine z_get_X2_trial ok dX2_reach_62 hN zw_177 ?_
          refine z_getN_X1_board ok dX2_reach_65 1 (by decide) hN zw_89 ?_
          refine z_aload_n ok dX2_reach_68 2 rfl ?_
          refine z_get_X2_game ok dX2_reach_69 hN zw_176 ?_
          refine z_getN_X1_board ok dX2_reach_72 0 (by decide) hN zw_89 ?_
          refine z_callVNv ok old dX2_reach_75 [] (c_X0_copyFrom G N hN hg w 1 (by decide) 0 (by decide)) zy_X0_copyFrom zw_441 (6 + 6 * 1) (zg_lt' hN (by decide)) (zE_board G w (by decide)) rfl rfl rfl rfl rfl (by decide) (Nat.le_of_ble_eq_true rfl) ?_
          replace hT := zlet_open hT
          obtain ⟨w7, hw7, hT⟩ := hT
          rw [← hw7]
          refine z_aload_n ok dX2_reach_78 2 rfl ?_
          refine z_get_X2_trial ok dX2_reach_79 hN zw_177 ?_
          refine z_getN_X1_board ok dX2_reach_82 1 (by decide) hN zw_89 ?_
          refine z_iload_n ok dX2_reach_85 3 rfl ?_
          refine z_callVNv ok old dX2_reach_86 [] (c_X0_empty G N hN hg w7 1 (by decide) c_cell (by omega)) zy_X0_empty zw_447 (6 + 6 * 1) (zg_lt' hN (by decide)) (zE_board G w7 (by decide)) rfl rfl rfl rfl rfl (by decide) (Nat.le_of_ble_eq_true rfl) ?_
          replace hT := zlet_open hT
          obtain ⟨w8, hw8, hT⟩ := hT
          rw [← hw8]
          refine z_iconst ok dX2_reach_89 (x := 0) (by decide) ?_
          refine z_istore ok dX2_reach_90 (hI 5 (by decide)) (lv' := [(5, .int 0), (4, .int x6), (3, .int x5), (0, .ref (zad G 0)), (1, .int (nI c_cell)), (2, .int (nI c_moves))]) rfl ?_
          refine z_locs [3, 4, 5, 2, 1, 0] (lv' := [(0, .ref (zad G 0)), (1, .int (nI c_cell)), (2, .int (nI c_moves)), (3, .int x5), (4, .int x6), (5, .int 0)]) rfl ?_
          obtain ⟨kt9, hkt9⟩ : ∃ z, z = (d_X2_reach_92k c_moves x5 x6) := ⟨_, rfl⟩
          rw [← hkt9] at hT
          have hk9 : ∀ (e9_5 : Nat) (ew9 : xW), e9_5 ≤ 36 → kt9 e9_5 ew9 = (r, u) → zZ k G N ew9 133 [(0, .ref (zad G 0)), (1, .int (nI c_cell)), (2, .int (nI c_moves)), (3, .int x5), (4, .int x6), (5, .int (nI e9_5))] [] := by
            intro e9_5 ew9 q9_0 hT9
            rw [hkt9, d_X2_reach_92k] at hT9
            refine z_iconst ok dX2_reach_133 (x := 0) (by decide) ?_
            refine z_istore ok dX2_reach_134 (hI 5 (by decide)) (lv' := [(5, .int 0), (0, .ref (zad G 0)), (1, .int (nI c_cell)), (2, .int (nI c_moves)), (3, .int x5), (4, .int x6)]) rfl ?_
            refine z_locs [1, 2, 3, 4, 5, 0] (lv' := [(0, .ref (zad G 0)), (1, .int (nI c_cell)), (2, .int (nI c_moves)), (3, .int x5), (4, .int x6), (5, .int 0)]) rfl ?_
            obtain ⟨kt10, hkt10⟩ : ∃ z, z = d_X2_reach_136k := ⟨_, rfl⟩
            rw [← hkt10] at hT9
            have hk10 : ∀ (e10_5 : Nat) (ew10 : xW), e10_5 ≤ c_moves → kt10 e10_5 ew10 = (r, u) → zZ k G N ew10 155 [(0, .ref (zad G 0)), (1, .int (nI c_cell)), (2, .int (nI c_moves)), (3, .int x5), (4, .int x6), (5, .int (nI e10_5))] [] := by
              intro e10_5 ew10 q10_0 hT10
              rw [hkt10, d_X2_reach_136k] at hT10
              refine z_aload_n ok dX2_reach_155 0 rfl ?_
              refine z_callVi ok old dX2_reach_156 [] (c_X2_cellsReached G N hN hg ew10 ) zy_X2_cellsReached zw_458 0 (by omega) (zE_0 G ew10) rfl rfl rfl rfl rfl (by decide) (Nat.le_of_ble_eq_true rfl) ?_
              exact z_iret ok hE dX2_reach_159 rfl ⟨congrArg Prod.fst hT10, congrArg Prod.snd hT10⟩
            have hl10 : ∀ (n10 : Nat) (v10_5 : Nat) (vw10 : xW), c_moves < v10_5 + n10 → v10_5 ≤ c_moves → d_X2_reach_136 c_moves x5 x6 kt10 n10 v10_5 vw10 = (r, u) → zZ k G N vw10 136 [(0, .ref (zad G 0)), (1, .int (nI c_cell)), (2, .int (nI c_moves)), (3, .int x5), (4, .int x6), (5, .int (nI v10_5))] [] := by
              intro n10
              induction n10 with
              | zero =>
                intro v10_5 vw10 q10_0 q10_1
                exact absurd q10_0 (by omega)
              | succ n10 ih10 =>
                intro v10_5 vw10 q10_0 q10_1 hT10
                rw [d_X2_reach_136] at hT10
                refine z_iload ok dX2_reach_136 5 rfl ?_
                refine z_iload_n ok dX2_reach_138 2 rfl ?_
                refine z_icmp_ge_n ok dX2_reach_139 155 (by decide) v10_5 c_moves rfl rfl (by omega) (fun c11 => ?_) (fun c11 => ?_)
                · rw [if_pos c11] at hT10
                  refine z_locs [0, 1, 2, 3, 4, 5] (lv' := [(0, .ref (zad G 0)), (1, .int (nI c_cell)), (2, .int (nI c_moves)), (3, .int x5), (4, .int x6), (5, .int (nI v10_5))]) rfl ?_
                  exact hk10 v10_5 vw10 (by omega) hT10
                · rw [if_neg c11] at hT10
                  refine z_aload_n ok dX2_reach_142 0 rfl ?_
                  refine z_iload_n ok dX2_reach_143 3 rfl ?_
                  refine z_iload ok dX2_reach_144 4 rfl ?_
                  refine z_callVv ok old dX2_reach_146 [] (c_X2_makeReachWider G N hN hg vw10 x5 x6) zy_X2_makeReachWider zw_448 0 (by omega) (zE_0 G vw10) rfl rfl rfl rfl rfl (by decide) (Nat.le_of_ble_eq_true rfl) ?_
                  replace hT10 := zlet_open hT10
                  obtain ⟨w12, hw12, hT10⟩ := hT10
                  rw [← hw12]
                  refine z_iinc ok dX2_reach_149 (hI 5 (by decide)) 5 rfl (y := (nI (v10_5 + 1))) (z_incn v10_5 1) (lv' := [(5, .int (nI (v10_5 + 1))), (0, .ref (zad G 0)), (1, .int (nI c_cell)), (2, .int (nI c_moves)), (3, .int x5), (4, .int x6)]) rfl ?_
                  refine z_goto ok dX2_reach_152 136 (by decide) ?_
                  refine z_locs [1, 2, 3, 4, 5, 0] (lv' := [(0, .ref (zad G 0)), (1, .int (nI c_cell)), (2, .int (nI c_moves)), (3, .int x5), (4, .int x6), (5, .int (nI (v10_5 + 1)))]) rfl ?_
                  exact ih10 (v10_5 + 1) w12 (by omega) (by omega) hT10
            exact hl10 (c_moves + 1) 0 ew9 (by omega) (by omega) hT9
          have hl9 : ∀ (n9 : Nat) (v9_5 : Nat) (vw9 : xW), 36 < v9_5 + n9 → v9_5 ≤ 36 → d_X2_reach_92 c_cell kt9 n9 v9_5 vw9 = (r, u) → zZ k G N vw9 92 [(0, .ref (zad G 0)), (1, .int (nI c_cell)), (2, .int (nI c_moves)), (3, .int x5), (4, .int x6), (5, .int (nI v9_5))] [] := by
            intro n9
            induction n9 with
            | zero =>
              intro v9_5 vw9 q9_0 q9_1
              exact absurd q9_0 (by omega)
            | succ n9 ih9 =>
              intro v9_5 vw9 q9_0 q9_1 hT9
              rw [d_X2_reach_92] at hT9
              refine z_iload ok dX2_reach_92 5 rfl ?_
              refine z_bipush ok dX2_reach_94 (x := 36) (by decide) ?_
              refine z_icmp_ge_n ok dX2_reach_96 133 (by decide) v9_5 36 rfl rfl (by omega) (fun c13 => ?_) (fun c13 => ?_)
              · rw [if_pos c13] at hT9
                refine z_locs [0, 1, 2, 3, 4, 5] (lv' := [(0, .ref (zad G 0)), (1, .int (nI c_cell)), (2, .int (nI c_moves)), (3, .int x5), (4, .int x6), (5, .int (nI v9_5))]) rfl ?_
                exact hk9 v9_5 vw9 (by omega) hT9
              · rw [if_neg c13] at hT9
                refine z_aload_n ok dX2_reach_99 0 rfl ?_
                refine z_get_X2_springLeft ok dX2_reach_100 hN zw_182 ?_
                refine z_iload ok dX2_reach_103 5 rfl ?_
                refine z_iload ok dX2_reach_105 5 rfl ?_
                refine z_iload_n ok dX2_reach_107 1 rfl ?_
                replace hT9 := zlet_open hT9
                obtain ⟨x14, hx14, hT9⟩ := hT9
                have hsx14 := hx14.symm
                have hJx14 : zZ k G N vw9 126 [(0, .ref (zad G 0)), (1, .int (nI c_cell)), (2, .int (nI c_moves)), (3, .int x5), (4, .int x6), (5, .int (nI v9_5))] [.int x14, .int (nI v9_5), .ref (zad G (zpr vw9 5))] := by
                  refine z_rst ok dX2_reach_126 vw9 5 hN v9_5 rfl (by omega) ?_
                  replace hT9 := zlet_open hT9
                  obtain ⟨w15, hw15, hT9⟩ := hT9
                  rw [← hw15]
                  refine z_iinc ok dX2_reach_127 (hI 5 (by decide)) 5 rfl (y := (nI (v9_5 + 1))) (z_incn v9_5 1) (lv' := [(5, .int (nI (v9_5 + 1))), (0, .ref (zad G 0)), (1, .int (nI c_cell)), (2, .int (nI c_moves)), (3, .int x5), (4, .int x6)]) rfl ?_
                  refine z_goto ok dX2_reach_130 92 (by decide) ?_
                  refine z_locs [1, 2, 3, 4, 5, 0] (lv' := [(0, .ref (zad G 0)), (1, .int (nI c_cell)), (2, .int (nI c_moves)), (3, .int x5), (4, .int x6), (5, .int (nI (v9_5 + 1)))]) rfl ?_
                  exact ih9 (v9_5 + 1) w15 (by omega) (by omega) hT9
                refine z_icmp_ne_n ok dX2_reach_108 125 (by decide) v9_5 c_cell rfl rfl (by omega) (fun c16 => ?_) (fun c16 => ?_)
                · rw [if_neg c16] at hsx14
                  refine z_iconst ok dX2_reach_125 (x := (-1)) (by decide) ?_
                  rw [← hsx14] at hJx14
                  refine z_locs [0, 1, 2, 3, 4, 5] (lv' := [(0, .ref (zad G 0)), (1, .int (nI c_cell)), (2, .int (nI c_moves)), (3, .int x5), (4, .int x6), (5, .int (nI v9_5))]) rfl ?_
                  exact hJx14
                · rw [if_pos c16] at hsx14
                  refine z_aload_n ok dX2_reach_111 0 rfl ?_
                  refine z_get_X2_game ok dX2_reach_112 hN zw_176 ?_
                  refine z_getN_X1_board ok dX2_reach_115 0 (by decide) hN zw_89 ?_
                  refine z_iload_n ok dX2_reach_118 1 rfl ?_
                  refine z_callVNi ok old dX2_reach_119 [.int (nI v9_5), .ref (zad G (zpr vw9 5))] (c_X0_springOn G N hN hg vw9 0 (by decide) c_cell (by omega)) zy_X0_springOn zw_420 (6 + 6 * 0) (zg_lt' hN (by decide)) (zE_board G vw9 (by decide)) rfl rfl rfl rfl rfl (by decide) (Nat.le_of_ble_eq_true rfl) ?_
                  refine z_goto ok dX2_reach_122 126 (by decide) ?_
                  rw [← hsx14] at hJx14
                  refine z_locs [0, 1, 2, 3, 4, 5] (lv' := [(0, .ref (zad G 0)), (1, .int (nI c_cell)), (2, .int (nI c_moves)), (3, .int x5), (4, .int x6), (5, .int (nI v9_5))]) rfl ?_
                  exact hJx14
          exact hl9 37 0 w8 (by omega) (by omega) hT
        · rw [if_pos c4] at hT
          refine z_bipush ok dX2_reach_33 (x := (-4)) (by decide) ?_
          exact z_iret ok hE dX2_reach_35 rfl ⟨congrArg Prod.fst hT, congrArg Prod.snd hT⟩
      · rw [if_neg c3] at hT
        refine z_iconst ok dX2_reach_17 (x := (-1)) (by decide) ?_
        exact z_iret ok hE dX2_reach_18 rfl ⟨congrArg Prod.fst hT, congrArg Prod.snd hT⟩

def d_X2_gamesBehind (w : xW) (f : Nat) (t : Nat) : Int32 × xW :=
  zlet (d_X1_copyFrom w 1 0) fun w1 =>
  zlet (d_X1_makeMove w1 1 f t) fun p2 =>
  if (d_X1_isOver p2.2 1) = 0 then (((if 1 < (d_X0_movesOf p2.2 1 (xg p2.2 1 144)) then (d_X0_movesOf p2.2 1 (xg p2.2 1 144)) else 1), p2.2))
  else ((1, p2.2))
set_option maxRecDepth 100000 in
set_option maxHeartbeats 4000000 in
theorem c_X2_gamesBehind (G : zG) (N : Nat) (hN : 47 ≤ N) (hg : zGeo G N) (w : xW) (f : Nat) (h_f : f < 36) (t : Nat) (h_t : t < 36) : zM yX2_gamesBehind cX2_gamesBehind 3 (some .int) 5 127 G N [.ref (zad G 0), .int (nI f), .int (nI t)] w (some (d_X2_gamesBehind w f t).1) (d_X2_gamesBehind w f t).2 := by
  obtain ⟨r, u, hT⟩ := zpair (d_X2_gamesBehind w f t)
  rw [hT]
  dsimp only
  unfold d_X2_gamesBehind at hT
  refine zM_of zy_X2_gamesBehind.2.2.2.2.2.2.2 hg ⟨Nat.le_of_ble_eq_true rfl, by decide⟩ rfl (fun k ok hE hI => ?_)
  have old := hE.old
  refine z_aload_n ok dX2_gamesBehind_0 0 rfl ?_
  refine z_get_X2_trial ok dX2_gamesBehind_1 hN zw_177 ?_
  refine z_aload_n ok dX2_gamesBehind_4 0 rfl ?_
  refine z_get_X2_game ok dX2_gamesBehind_5 hN zw_176 ?_
  refine z_callVNv ok old dX2_gamesBehind_8 [] (c_X1_copyFrom G N hN hg w 1 (by decide) 0 (by decide)) zy_X1_copyFrom zw_214 (5 + 6 * 1) (zg_lt hN (by decide)) (zE_game G w (by decide)) rfl rfl rfl rfl rfl (by decide) (Nat.le_of_ble_eq_true rfl) ?_
  replace hT := zlet_open hT
  obtain ⟨w1, hw1, hT⟩ := hT
  rw [← hw1]
  refine z_aload_n ok dX2_gamesBehind_11 0 rfl ?_
  refine z_get_X2_trial ok dX2_gamesBehind_12 hN zw_177 ?_
  refine z_iload_n ok dX2_gamesBehind_15 1 rfl ?_
  refine z_iload_n ok dX2_gamesBehind_16 2 rfl ?_
  refine z_callVNi ok old dX2_gamesBehind_17 [] (c_X1_makeMove G N hN hg w1 1 (by decide) f (by omega) t (by omega)) zy_X1_makeMove zw_344 (5 + 6 * 1) (zg_lt hN (by decide)) (zE_game G w1 (by decide)) rfl rfl rfl rfl rfl (by decide) (Nat.le_of_ble_eq_true rfl) ?_
  replace hT := zlet_open hT
  obtain ⟨p2, hp2, hT⟩ := hT
  rw [← hp2]
  refine z_pop ok dX2_gamesBehind_20 rfl ?_
  refine z_aload_n ok dX2_gamesBehind_21 0 rfl ?_
  refine z_get_X2_trial ok dX2_gamesBehind_22 hN zw_177 ?_
  refine z_callVNi ok old dX2_gamesBehind_25 [] (c_X1_isOver G N hN hg p2.2 1 (by decide)) zy_X1_isOver zw_261 (5 + 6 * 1) (zg_lt hN (by decide)) (zE_game G p2.2 (by decide)) rfl rfl rfl rfl rfl (by decide) (Nat.le_of_ble_eq_true rfl) ?_
  refine z_if_eq ok dX2_gamesBehind_28 35 (by decide) (fun c3 => ?_) (fun c3 => ?_)
  · rw [if_pos c3] at hT
    refine z_iconst ok dX2_gamesBehind_35 (x := 1) (by decide) ?_
    refine z_aload_n ok dX2_gamesBehind_36 0 rfl ?_
    refine z_get_X2_trial ok dX2_gamesBehind_37 hN zw_177 ?_
    refine z_getN_X1_board ok dX2_gamesBehind_40 1 (by decide) hN zw_89 ?_
    refine z_aload_n ok dX2_gamesBehind_43 0 rfl ?_
    refine z_get_X2_trial ok dX2_gamesBehind_44 hN zw_177 ?_
    refine z_getN_X1_mover ok dX2_gamesBehind_47 1 (by decide) hN zw_95 ?_
    refine z_callVNi ok old dX2_gamesBehind_50 [.int 1] (c_X0_movesOf G N hN hg p2.2 1 (by decide) (xg p2.2 1 144)) zy_X0_movesOf zw_392 (6 + 6 * 1) (zg_lt' hN (by decide)) (zE_board G p2.2 (by decide)) rfl rfl rfl rfl rfl (by decide) (Nat.le_of_ble_eq_true rfl) ?_
    refine z_max ok dX2_gamesBehind_53 zw_457 zw_335 zw_52 zw_336 ⟨by decide, Nat.le_of_ble_eq_true rfl⟩ ?_
    exact z_iret ok hE dX2_gamesBehind_56 rfl ⟨congrArg Prod.fst hT, congrArg Prod.snd hT⟩
  · rw [if_neg c3] at hT
    refine z_iconst ok dX2_gamesBehind_31 (x := 1) (by decide) ?_
    refine z_goto ok dX2_gamesBehind_32 56 (by decide) ?_
    exact z_iret ok hE dX2_gamesBehind_56 rfl ⟨congrArg Prod.fst hT, congrArg Prod.snd hT⟩

def d_X2_replies_4k  (e1_1 : Int32) (e1_2 : Nat) (ew1 : xW) : Int32 × xW :=
  (e1_1, ew1)
def d_X2_replies_12 (v1_2 : Nat) (kt3 : Int32 → Nat → xW → (Int32 × xW)) : Nat → Int32 → Nat → xW → Int32 × xW
  | 0, _, _, _ => default
  | n3 + 1, v3_1, v3_3, vw3 => if 36 ≤ v3_3 then (kt3 v3_1 v3_3 vw3)
  else (if (d_X1_reasonAgainst vw3 0 v1_2 v3_3) = 0 then (zlet (d_X2_gamesBehind vw3 v1_2 v3_3) fun p6 =>
  zlet ((v3_1 + p6.1)) fun x7 =>
  d_X2_replies_12 v1_2 kt3 n3 x7 (v3_3 + 1) p6.2)
  else (d_X2_replies_12 v1_2 kt3 n3 v3_1 (v3_3 + 1) vw3))
def d_X2_replies_4  (kt1 : Int32 → Nat → xW → (Int32 × xW)) : Nat → Int32 → Nat → xW → Int32 × xW
  | 0, _, _, _ => default
  | n1 + 1, v1_1, v1_2, vw1 => if 36 ≤ v1_2 then (kt1 v1_1 v1_2 vw1)
  else (d_X2_replies_12 v1_2 (fun e3_1 e3_3 ew3 => (d_X2_replies_4  kt1 n1 e3_1 (v1_2 + 1) ew3)) 37 v1_1 0 vw1)
def d_X2_replies (w : xW)  : Int32 × xW :=
  d_X2_replies_4  d_X2_replies_4k 37 0 0 w
set_option maxRecDepth 100000 in
set_option maxHeartbeats 4000000 in
theorem c_X2_replies (G : zG) (N : Nat) (hN : 47 ≤ N) (hg : zGeo G N) (w : xW) : zM yX2_replies cX2_replies 4 (some .int) 6 149 G N [.ref (zad G 0)] w (some (d_X2_replies w).1) (d_X2_replies w).2 := by
  obtain ⟨r, u, hT⟩ := zpair (d_X2_replies w)
  rw [hT]
  dsimp only
  unfold d_X2_replies at hT
  refine zM_of zy_X2_replies.2.2.2.2.2.2.2 hg ⟨Nat.le_of_ble_eq_true rfl, by decide⟩ rfl (fun k ok hE hI => ?_)
  have old := hE.old
  refine z_iconst ok dX2_replies_0 (x := 0) (by decide) ?_
  refine z_istore_n ok dX2_replies_1 (hI 1 (by decide)) (lv' := [(1, .int 0), (0, .ref (zad G 0))]) rfl ?_
  refine z_iconst ok dX2_replies_2 (x := 0) (by decide) ?_
  refine z_istore_n ok dX2_replies_3 (hI 2 (by decide)) (lv' := [(2, .int 0), (1, .int 0), (0, .ref (zad G 0))]) rfl ?_
  refine z_locs [2, 1, 0] (lv' := [(0, .ref (zad G 0)), (1, .int 0), (2, .int 0)]) rfl ?_
  obtain ⟨kt1, hkt1⟩ : ∃ z, z = d_X2_replies_4k := ⟨_, rfl⟩
  rw [← hkt1] at hT
  have hk1 : ∀ (e1_1 : Int32) (e1_2 : Nat) (ew1 : xW), e1_2 ≤ 36 → kt1 e1_1 e1_2 ew1 = (r, u) → zZ k G N ew1 51 [(0, .ref (zad G 0)), (1, .int e1_1), (2, .int (nI e1_2))] [] := by
    intro e1_1 e1_2 ew1 q1_0 hT1
    rw [hkt1, d_X2_replies_4k] at hT1
    refine z_iload_n ok dX2_replies_51 1 rfl ?_
    exact z_iret ok hE dX2_replies_52 rfl ⟨congrArg Prod.fst hT1, congrArg Prod.snd hT1⟩
  have hl1 : ∀ (n1 : Nat) (v1_1 : Int32) (v1_2 : Nat) (vw1 : xW), 36 < v1_2 + n1 → v1_2 ≤ 36 → d_X2_replies_4  kt1 n1 v1_1 v1_2 vw1 = (r, u) → zZ k G N vw1 4 [(0, .ref (zad G 0)), (1, .int v1_1), (2, .int (nI v1_2))] [] := by
    intro n1
    induction n1 with
    | zero =>
      intro v1_1 v1_2 vw1 q1_0 q1_1
      exact absurd q1_0 (by omega)
    | succ n1 ih1 =>
      intro v1_1 v1_2 vw1 q1_0 q1_1 hT1
      rw [d_X2_replies_4] at hT1
      refine z_iload_n ok dX2_replies_4 2 rfl ?_
      refine z_bipush ok dX2_replies_5 (x := 36) (by decide) ?_
      refine z_icmp_ge_n ok dX2_replies_7 51 (by decide) v1_2 36 rfl rfl (by omega) (fun c2 => ?_) (fun c2 => ?_)
      · rw [if_pos c2] at hT1
        refine z_locs [0, 1, 2] (lv' := [(0, .ref (zad G 0)), (1, .int v1_1), (2, .int (nI v1_2))]) rfl ?_
        exact hk1 v1_1 v1_2 vw1 (by omega) hT1
      · rw [if_neg c2] at hT1
        refine z_iconst ok dX2_replies_10 (x := 0) (by decide) ?_
        refine z_istore_n ok dX2_replies_11 (hI 3 (by decide)) (lv' := [(3, .int 0), (0, .ref (zad G 0)), (1, .int v1_1), (2, .int (nI v1_2))]) rfl ?_
        refine z_locs [1, 2, 3, 0] (lv' := [(0, .ref (zad G 0)), (1, .int v1_1), (2, .int (nI v1_2)), (3, .int 0)]) rfl ?_
        obtain ⟨kt3, hkt3⟩ : ∃ z, z = ((fun e3_1 e3_3 ew3 => (d_X2_replies_4  kt1 n1 e3_1 (v1_2 + 1) ew3)) : Int32 → Nat → xW → (Int32 × xW)) := ⟨_, rfl⟩
        rw [← hkt3] at hT1
        have hk3 : ∀ (e3_1 : Int32) (e3_3 : Nat) (ew3 : xW), e3_3 ≤ 36 → kt3 e3_1 e3_3 ew3 = (r, u) → zZ k G N ew3 45 [(0, .ref (zad G 0)), (1, .int e3_1), (2, .int (nI v1_2)), (3, .int (nI e3_3))] [] := by
          intro e3_1 e3_3 ew3 q3_0 hT3
          rw [hkt3] at hT3
          dsimp only at hT3
          refine z_iinc ok dX2_replies_45 (hI 2 (by decide)) 2 rfl (y := (nI (v1_2 + 1))) (z_incn v1_2 1) (lv' := [(2, .int (nI (v1_2 + 1))), (0, .ref (zad G 0)), (1, .int e3_1), (3, .int (nI e3_3))]) rfl ?_
          refine z_goto ok dX2_replies_48 4 (by decide) ?_
          refine z_locs [1, 2, 0] (lv' := [(0, .ref (zad G 0)), (1, .int e3_1), (2, .int (nI (v1_2 + 1)))]) rfl ?_
          exact ih1 e3_1 (v1_2 + 1) ew3 (by omega) (by omega) hT3
        have hl3 : ∀ (n3 : Nat) (v3_1 : Int32) (v3_3 : Nat) (vw3 : xW), 36 < v3_3 + n3 → v3_3 ≤ 36 → d_X2_replies_12 v1_2 kt3 n3 v3_1 v3_3 vw3 = (r, u) → zZ k G N vw3 12 [(0, .ref (zad G 0)), (1, .int v3_1), (2, .int (nI v1_2)), (3, .int (nI v3_3))] [] := by
          intro n3
          induction n3 with
          | zero =>
            intro v3_1 v3_3 vw3 q3_0 q3_1
            exact absurd q3_0 (by omega)
          | succ n3 ih3 =>
            intro v3_1 v3_3 vw3 q3_0 q3_1 hT3
            rw [d_X2_replies_12] at hT3
            refine z_iload_n ok dX2_replies_12 3 rfl ?_
            refine z_bipush ok dX2_replies_13 (x := 36) (by decide) ?_
            refine z_icmp_ge_n ok dX2_replies_15 45 (by decide) v3_3 36 rfl rfl (by omega) (fun c4 => ?_) (fun c4 => ?_)
            · rw [if_pos c4] at hT3
              refine z_locs [0, 1, 2, 3] (lv' := [(0, .ref (zad G 0)), (1, .int v3_1), (2, .int (nI v1_2)), (3, .int (nI v3_3))]) rfl ?_
              exact hk3 v3_1 v3_3 vw3 (by omega) hT3
            · rw [if_neg c4] at hT3
              refine z_aload_n ok dX2_replies_18 0 rfl ?_
              refine z_get_X2_game ok dX2_replies_19 hN zw_176 ?_
              refine z_iload_n ok dX2_replies_22 2 rfl ?_
              refine z_iload_n ok dX2_replies_23 3 rfl ?_
              refine z_callVNi ok old dX2_replies_24 [] (c_X1_reasonAgainst G N hN hg vw3 0 (by decide) v1_2 (by omega) v3_3 (by omega)) zy_X1_reasonAgainst zw_316 (5 + 6 * 0) (zg_lt hN (by decide)) (zE_game G vw3 (by decide)) rfl rfl rfl rfl rfl (by decide) (Nat.le_of_ble_eq_true rfl) ?_
              refine z_if_ne ok dX2_replies_27 39 (by decide) (fun c5 => ?_) (fun c5 => ?_)
              · rw [if_neg c5] at hT3
                refine z_iinc ok dX2_replies_39 (hI 3 (by decide)) 3 rfl (y := (nI (v3_3 + 1))) (z_incn v3_3 1) (lv' := [(3, .int (nI (v3_3 + 1))), (0, .ref (zad G 0)), (1, .int v3_1), (2, .int (nI v1_2))]) rfl ?_
                refine z_goto ok dX2_replies_42 12 (by decide) ?_
                refine z_locs [1, 2, 3, 0] (lv' := [(0, .ref (zad G 0)), (1, .int v3_1), (2, .int (nI v1_2)), (3, .int (nI (v3_3 + 1)))]) rfl ?_
                exact ih3 v3_1 (v3_3 + 1) vw3 (by omega) (by omega) hT3
              · rw [if_pos c5] at hT3
                refine z_iload_n ok dX2_replies_30 1 rfl ?_
                refine z_aload_n ok dX2_replies_31 0 rfl ?_
                refine z_iload_n ok dX2_replies_32 2 rfl ?_
                refine z_iload_n ok dX2_replies_33 3 rfl ?_
                refine z_callVi ok old dX2_replies_34 [.int v3_1] (c_X2_gamesBehind G N hN hg vw3 v1_2 (by omega) v3_3 (by omega)) zy_X2_gamesBehind zw_540 0 (by omega) (zE_0 G vw3) rfl rfl rfl rfl rfl (by decide) (Nat.le_of_ble_eq_true rfl) ?_
                replace hT3 := zlet_open hT3
                obtain ⟨p6, hp6, hT3⟩ := hT3
                rw [← hp6]
                refine z_iadd ok dX2_replies_37 ?_
                replace hT3 := zlet_open hT3
                obtain ⟨x7, hx7, hT3⟩ := hT3
                rw [← hx7]
                refine z_istore_n ok dX2_replies_38 (hI 1 (by decide)) (lv' := [(1, .int x7), (0, .ref (zad G 0)), (2, .int (nI v1_2)), (3, .int (nI v3_3))]) rfl ?_
                refine z_iinc ok dX2_replies_39 (hI 3 (by decide)) 3 rfl (y := (nI (v3_3 + 1))) (z_incn v3_3 1) (lv' := [(3, .int (nI (v3_3 + 1))), (1, .int x7), (0, .ref (zad G 0)), (2, .int (nI v1_2))]) rfl ?_
                refine z_goto ok dX2_replies_42 12 (by decide) ?_
                refine z_locs [2, 1, 3, 0] (lv' := [(0, .ref (zad G 0)), (1, .int x7), (2, .int (nI v1_2)), (3, .int (nI (v3_3 + 1)))]) rfl ?_
                exact ih3 x7 (v3_3 + 1) p6.2 (by omega) (by omega) hT3
        exact hl3 37 v1_1 0 vw1 (by omega) (by omega) hT1
  exact hl1 37 0 0 w (by omega) (by omega) hT

def d_X2_worthOf (w : xW) (f : Nat) (t : Nat) : Int32 × xW :=
  zlet (d_X1_copyFrom w 1 0) fun w1 =>
  zlet (d_X1_carryOut w1 1 f t) fun p2 =>
  zlet ((xg p2.2 0 144)) fun x3 =>
  zlet (((d_X0_springsOf p2.2 1 x3) - (d_X0_springsOf p2.2 1 (1 - x3)))) fun x4 =>
  if (d_X1_isOver p2.2 1) = 0 then ((x4, p2.2))
  else (((x4 + 10000), p2.2))
set_option maxRecDepth 100000 in
set_option maxHeartbeats 4000000 in
theorem c_X2_worthOf (G : zG) (N : Nat) (hN : 47 ≤ N) (hg : zGeo G N) (w : xW) (f : Nat) (h_f : f < 36) (t : Nat) (h_t : t < 36) : zM yX2_worthOf cX2_worthOf 5 (some .int) 4 104 G N [.ref (zad G 0), .int (nI f), .int (nI t)] w (some (d_X2_worthOf w f t).1) (d_X2_worthOf w f t).2 := by
  obtain ⟨r, u, hT⟩ := zpair (d_X2_worthOf w f t)
  rw [hT]
  dsimp only
  unfold d_X2_worthOf at hT
  refine zM_of zy_X2_worthOf.2.2.2.2.2.2.2 hg ⟨Nat.le_of_ble_eq_true rfl, by decide⟩ rfl (fun k ok hE hI => ?_)
  have old := hE.old
  refine z_aload_n ok dX2_worthOf_0 0 rfl ?_
  refine z_get_X2_trial ok dX2_worthOf_1 hN zw_177 ?_
  refine z_aload_n ok dX2_worthOf_4 0 rfl ?_
  refine z_get_X2_game ok dX2_worthOf_5 hN zw_176 ?_
  refine z_callVNv ok old dX2_worthOf_8 [] (c_X1_copyFrom G N hN hg w 1 (by decide) 0 (by decide)) zy_X1_copyFrom zw_214 (5 + 6 * 1) (zg_lt hN (by decide)) (zE_game G w (by decide)) rfl rfl rfl rfl rfl (by decide) (Nat.le_of_ble_eq_true rfl) ?_
  replace hT := zlet_open hT
  obtain ⟨w1, hw1, hT⟩ := hT
  rw [← hw1]
  refine z_aload_n ok dX2_worthOf_11 0 rfl ?_
  refine z_get_X2_trial ok dX2_worthOf_12 hN zw_177 ?_
  refine z_iload_n ok dX2_worthOf_15 1 rfl ?_
  refine z_iload_n ok dX2_worthOf_16 2 rfl ?_
  refine z_callVNi ok old dX2_worthOf_17 [] (c_X1_carryOut G N hN hg w1 1 (by decide) f (by omega) t (by omega)) zy_X1_carryOut zw_552 (5 + 6 * 1) (zg_lt hN (by decide)) (zE_game G w1 (by decide)) rfl rfl rfl rfl rfl (by decide) (Nat.le_of_ble_eq_true rfl) ?_
  replace hT := zlet_open hT
  obtain ⟨p2, hp2, hT⟩ := hT
  rw [← hp2]
  refine z_pop ok dX2_worthOf_20 rfl ?_
  refine z_aload_n ok dX2_worthOf_21 0 rfl ?_
  refine z_get_X2_game ok dX2_worthOf_22 hN zw_176 ?_
  refine z_getN_X1_mover ok dX2_worthOf_25 0 (by decide) hN zw_95 ?_
  replace hT := zlet_open hT
  obtain ⟨x3, hx3, hT⟩ := hT
  rw [← hx3]
  refine z_istore_n ok dX2_worthOf_28 (hI 3 (by decide)) (lv' := [(3, .int x3), (0, .ref (zad G 0)), (1, .int (nI f)), (2, .int (nI t))]) rfl ?_
  refine z_aload_n ok dX2_worthOf_29 1 rfl ?_
  refine z_get_X2_trial ok dX2_worthOf_30 hN zw_177 ?_
  refine z_getN_X1_board ok dX2_worthOf_33 1 (by decide) hN zw_89 ?_
  refine z_iload_n ok dX2_worthOf_36 0 rfl ?_
  refine z_callVNi ok old dX2_worthOf_37 [] (c_X0_springsOf G N hN hg p2.2 1 (by decide) x3) zy_X0_springsOf zw_300 (6 + 6 * 1) (zg_lt' hN (by decide)) (zE_board G p2.2 (by decide)) rfl rfl rfl rfl rfl (by decide) (Nat.le_of_ble_eq_true rfl) ?_
  refine z_aload_n ok dX2_worthOf_40 1 rfl ?_
  refine z_get_X2_trial ok dX2_worthOf_41 hN zw_177 ?_
  refine z_getN_X1_board ok dX2_worthOf_44 1 (by decide) hN zw_89 ?_
  refine z_iconst ok dX2_worthOf_47 (x := 1) (by decide) ?_
  refine z_iload_n ok dX2_worthOf_48 0 rfl ?_
  refine z_isub ok dX2_worthOf_49 ?_
  refine z_callVNi ok old dX2_worthOf_50 [.int (d_X0_springsOf p2.2 1 x3)] (c_X0_springsOf G N hN hg p2.2 1 (by decide) (1 - x3)) zy_X0_springsOf zw_300 (6 + 6 * 1) (zg_lt' hN (by decide)) (zE_board G p2.2 (by decide)) rfl rfl rfl rfl rfl (by decide) (Nat.le_of_ble_eq_true rfl) ?_
  refine z_isub ok dX2_worthOf_53 ?_
  replace hT := zlet_open hT
  obtain ⟨x4, hx4, hT⟩ := hT
  rw [← hx4]
  refine z_istore ok dX2_worthOf_54 (hI 4 (by decide)) (lv' := [(4, .int x4), (3, .int x3), (0, .ref (zad G 0)), (1, .int (nI f)), (2, .int (nI t))]) rfl ?_
  refine z_aload_n ok dX2_worthOf_56 2 rfl ?_
  refine z_get_X2_trial ok dX2_worthOf_57 hN zw_177 ?_
  refine z_callVNi ok old dX2_worthOf_60 [] (c_X1_isOver G N hN hg p2.2 1 (by decide)) zy_X1_isOver zw_261 (5 + 6 * 1) (zg_lt hN (by decide)) (zE_game G p2.2 (by decide)) rfl rfl rfl rfl rfl (by decide) (Nat.le_of_ble_eq_true rfl) ?_
  refine z_if_eq ok dX2_worthOf_63 75 (by decide) (fun c5 => ?_) (fun c5 => ?_)
  · rw [if_pos c5] at hT
    refine z_iload ok dX2_worthOf_75 0 rfl ?_
    exact z_iret ok hE dX2_worthOf_77 rfl ⟨congrArg Prod.fst hT, congrArg Prod.snd hT⟩
  · rw [if_neg c5] at hT
    refine z_iload ok dX2_worthOf_66 0 rfl ?_
    refine z_sipush ok dX2_worthOf_68 (x := 10000) (by decide +kernel) ?_
    refine z_iadd ok dX2_worthOf_71 ?_
    refine z_goto ok dX2_worthOf_72 77 (by decide) ?_
    exact z_iret ok hE dX2_worthOf_77 rfl ⟨congrArg Prod.fst hT, congrArg Prod.snd hT⟩

def d_X2_best_7k  (e1_1 : Int32) (e1_2 : Int32) (e1_3 : Nat) (ew1 : xW) : Int32 × xW :=
  (e1_1, ew1)
def d_X2_best_16 (v1_3 : Nat) (kt3 : Int32 → Int32 → Nat → xW → (Int32 × xW)) : Nat → Int32 → Int32 → Nat → xW → Int32 × xW
  | 0, _, _, _, _ => default
  | n3 + 1, v3_1, v3_2, v3_4, vw3 => if 36 ≤ v3_4 then (kt3 v3_1 v3_2 v3_4 vw3)
  else (if (d_X1_reasonAgainst vw3 0 v1_3 v3_4) = 0 then (zlet (d_X2_worthOf vw3 v1_3 v3_4) fun p6 =>
  zlet (if v3_1 = (-4) then (((nI ((36 * v1_3) + v3_4)), p6.1))
  else (if p6.1 ≤ v3_2 then ((v3_1, v3_2))
  else (((nI ((36 * v1_3) + v3_4)), p6.1))) : Int32 × Int32) fun p7 =>
  d_X2_best_16 v1_3 kt3 n3 p7.1 p7.2 (v3_4 + 1) p6.2)
  else (d_X2_best_16 v1_3 kt3 n3 v3_1 v3_2 (v3_4 + 1) vw3))
def d_X2_best_7  (kt1 : Int32 → Int32 → Nat → xW → (Int32 × xW)) : Nat → Int32 → Int32 → Nat → xW → Int32 × xW
  | 0, _, _, _, _ => default
  | n1 + 1, v1_1, v1_2, v1_3, vw1 => if 36 ≤ v1_3 then (kt1 v1_1 v1_2 v1_3 vw1)
  else (d_X2_best_16 v1_3 (fun e3_1 e3_2 e3_4 ew3 => (d_X2_best_7  kt1 n1 e3_1 e3_2 (v1_3 + 1) ew3)) 37 v1_1 v1_2 0 vw1)
def d_X2_best (w : xW)  : Int32 × xW :=
  d_X2_best_7  d_X2_best_7k 37 (-4) 0 0 w
set_option maxRecDepth 100000 in
set_option maxHeartbeats 4000000 in
theorem c_X2_best (G : zG) (N : Nat) (hN : 47 ≤ N) (hg : zGeo G N) (w : xW) : zM yX2_best cX2_best 6 (some .int) 5 128 G N [.ref (zad G 0)] w (some (d_X2_best w).1) (d_X2_best w).2 := by
  obtain ⟨r, u, hT⟩ := zpair (d_X2_best w)
  rw [hT]
  dsimp only
  unfold d_X2_best at hT
  refine zM_of zy_X2_best.2.2.2.2.2.2.2 hg ⟨Nat.le_of_ble_eq_true rfl, by decide⟩ rfl (fun k ok hE hI => ?_)
  have old := hE.old
  refine z_bipush ok dX2_best_0 (x := (-4)) (by decide) ?_
  refine z_istore_n ok dX2_best_2 (hI 1 (by decide)) (lv' := [(1, .int (-4)), (0, .ref (zad G 0))]) rfl ?_
  refine z_iconst ok dX2_best_3 (x := 0) (by decide) ?_
  refine z_istore_n ok dX2_best_4 (hI 2 (by decide)) (lv' := [(2, .int 0), (1, .int (-4)), (0, .ref (zad G 0))]) rfl ?_
  refine z_iconst ok dX2_best_5 (x := 0) (by decide) ?_
  refine z_istore_n ok dX2_best_6 (hI 3 (by decide)) (lv' := [(3, .int 0), (2, .int 0), (1, .int (-4)), (0, .ref (zad G 0))]) rfl ?_
  refine z_locs [3, 2, 1, 0] (lv' := [(0, .ref (zad G 0)), (1, .int (-4)), (2, .int 0), (3, .int 0)]) rfl ?_
  obtain ⟨kt1, hkt1⟩ : ∃ z, z = d_X2_best_7k := ⟨_, rfl⟩
  rw [← hkt1] at hT
  have hk1 : ∀ (e1_1 : Int32) (e1_2 : Int32) (e1_3 : Nat) (ew1 : xW), e1_3 ≤ 36 → kt1 e1_1 e1_2 e1_3 ew1 = (r, u) → zZ k G N ew1 80 [(0, .ref (zad G 0)), (1, .int e1_1), (2, .int e1_2), (3, .int (nI e1_3))] [] := by
    intro e1_1 e1_2 e1_3 ew1 q1_0 hT1
    rw [hkt1, d_X2_best_7k] at hT1
    refine z_iload_n ok dX2_best_80 1 rfl ?_
    exact z_iret ok hE dX2_best_81 rfl ⟨congrArg Prod.fst hT1, congrArg Prod.snd hT1⟩
  have hl1 : ∀ (n1 : Nat) (v1_1 : Int32) (v1_2 : Int32) (v1_3 : Nat) (vw1 : xW), 36 < v1_3 + n1 → v1_3 ≤ 36 → d_X2_best_7  kt1 n1 v1_1 v1_2 v1_3 vw1 = (r, u) → zZ k G N vw1 7 [(0, .ref (zad G 0)), (1, .int v1_1), (2, .int v1_2), (3, .int (nI v1_3))] [] := by
    intro n1
    induction n1 with
    | zero =>
      intro v1_1 v1_2 v1_3 vw1 q1_0 q1_1
      exact absurd q1_0 (by omega)
    | succ n1 ih1 =>
      intro v1_1 v1_2 v1_3 vw1 q1_0 q1_1 hT1
      rw [d_X2_best_7] at hT1
      refine z_iload_n ok dX2_best_7 3 rfl ?_
      refine z_bipush ok dX2_best_8 (x := 36) (by decide) ?_
      refine z_icmp_ge_n ok dX2_best_10 80 (by decide) v1_3 36 rfl rfl (by omega) (fun c2 => ?_) (fun c2 => ?_)
      · rw [if_pos c2] at hT1
        refine z_locs [0, 1, 2, 3] (lv' := [(0, .ref (zad G 0)), (1, .int v1_1), (2, .int v1_2), (3, .int (nI v1_3))]) rfl ?_
        exact hk1 v1_1 v1_2 v1_3 vw1 (by omega) hT1
      · rw [if_neg c2] at hT1
        refine z_iconst ok dX2_best_13 (x := 0) (by decide) ?_
        refine z_istore ok dX2_best_14 (hI 4 (by decide)) (lv' := [(4, .int 0), (0, .ref (zad G 0)), (1, .int v1_1), (2, .int v1_2), (3, .int (nI v1_3))]) rfl ?_
        refine z_locs [1, 2, 3, 4, 0] (lv' := [(0, .ref (zad G 0)), (1, .int v1_1), (2, .int v1_2), (3, .int (nI v1_3)), (4, .int 0)]) rfl ?_
        obtain ⟨kt3, hkt3⟩ : ∃ z, z = ((fun e3_1 e3_2 e3_4 ew3 => (d_X2_best_7  kt1 n1 e3_1 e3_2 (v1_3 + 1) ew3)) : Int32 → Int32 → Nat → xW → (Int32 × xW)) := ⟨_, rfl⟩
        rw [← hkt3] at hT1
        have hk3 : ∀ (e3_1 : Int32) (e3_2 : Int32) (e3_4 : Nat) (ew3 : xW), e3_4 ≤ 36 → kt3 e3_1 e3_2 e3_4 ew3 = (r, u) → zZ k G N ew3 74 [(0, .ref (zad G 0)), (1, .int e3_1), (2, .int e3_2), (3, .int (nI v1_3)), (4, .int (nI e3_4))] [] := by
          intro e3_1 e3_2 e3_4 ew3 q3_0 hT3
          rw [hkt3] at hT3
          dsimp only at hT3
          refine z_iinc ok dX2_best_74 (hI 3 (by decide)) 3 rfl (y := (nI (v1_3 + 1))) (z_incn v1_3 1) (lv' := [(3, .int (nI (v1_3 + 1))), (0, .ref (zad G 0)), (1, .int e3_1), (2, .int e3_2), (4, .int (nI e3_4))]) rfl ?_
          refine z_goto ok dX2_best_77 7 (by decide) ?_
          refine z_locs [1, 2, 3, 0] (lv' := [(0, .ref (zad G 0)), (1, .int e3_1), (2, .int e3_2), (3, .int (nI (v1_3 + 1)))]) rfl ?_
          exact ih1 e3_1 e3_2 (v1_3 + 1) ew3 (by omega) (by omega) hT3
        have hl3 : ∀ (n3 : Nat) (v3_1 : Int32) (v3_2 : Int32) (v3_4 : Nat) (vw3 : xW), 36 < v3_4 + n3 → v3_4 ≤ 36 → d_X2_best_16 v1_3 kt3 n3 v3_1 v3_2 v3_4 vw3 = (r, u) → zZ k G N vw3 16 [(0, .ref (zad G 0)), (1, .int v3_1), (2, .int v3_2), (3, .int (nI v1_3)), (4, .int (nI v3_4))] [] := by
          intro n3
          induction n3 with
          | zero =>
            intro v3_1 v3_2 v3_4 vw3 q3_0 q3_1
            exact absurd q3_0 (by omega)
          | succ n3 ih3 =>
            intro v3_1 v3_2 v3_4 vw3 q3_0 q3_1 hT3
            rw [d_X2_best_16] at hT3
            refine z_iload ok dX2_best_16 4 rfl ?_
            refine z_bipush ok dX2_best_18 (x := 36) (by decide) ?_
            refine z_icmp_ge_n ok dX2_best_20 74 (by decide) v3_4 36 rfl rfl (by omega) (fun c4 => ?_) (fun c4 => ?_)
            · rw [if_pos c4] at hT3
              refine z_locs [0, 1, 2, 3, 4] (lv' := [(0, .ref (zad G 0)), (1, .int v3_1), (2, .int v3_2), (3, .int (nI v1_3)), (4, .int (nI v3_4))]) rfl ?_
              exact hk3 v3_1 v3_2 v3_4 vw3 (by omega) hT3
            · rw [if_neg c4] at hT3
              refine z_aload_n ok dX2_best_23 0 rfl ?_
              refine z_get_X2_game ok dX2_best_24 hN zw_176 ?_
              refine z_iload_n ok dX2_best_27 3 rfl ?_
              refine z_iload ok dX2_best_28 4 rfl ?_
              refine z_callVNi ok old dX2_best_30 [] (c_X1_reasonAgainst G N hN hg vw3 0 (by decide) v1_3 (by omega) v3_4 (by omega)) zy_X1_reasonAgainst zw_316 (5 + 6 * 0) (zg_lt hN (by decide)) (zE_game G vw3 (by decide)) rfl rfl rfl rfl rfl (by decide) (Nat.le_of_ble_eq_true rfl) ?_
              refine z_if_ne ok dX2_best_33 68 (by decide) (fun c5 => ?_) (fun c5 => ?_)
              · rw [if_neg c5] at hT3
                refine z_iinc ok dX2_best_68 (hI 4 (by decide)) 4 rfl (y := (nI (v3_4 + 1))) (z_incn v3_4 1) (lv' := [(4, .int (nI (v3_4 + 1))), (0, .ref (zad G 0)), (1, .int v3_1), (2, .int v3_2), (3, .int (nI v1_3))]) rfl ?_
                refine z_goto ok dX2_best_71 16 (by decide) ?_
                refine z_locs [1, 2, 3, 4, 0] (lv' := [(0, .ref (zad G 0)), (1, .int v3_1), (2, .int v3_2), (3, .int (nI v1_3)), (4, .int (nI (v3_4 + 1)))]) rfl ?_
                exact ih3 v3_1 v3_2 (v3_4 + 1) vw3 (by omega) (by omega) hT3
              · rw [if_pos c5] at hT3
                refine z_aload_n ok dX2_best_36 0 rfl ?_
                refine z_iload_n ok dX2_best_37 3 rfl ?_
                refine z_iload ok dX2_best_38 4 rfl ?_
                refine z_callVi ok old dX2_best_40 [] (c_X2_worthOf G N hN hg vw3 v1_3 (by omega) v3_4 (by omega)) zy_X2_worthOf zw_548 0 (by omega) (zE_0 G vw3) rfl rfl rfl rfl rfl (by decide) (Nat.le_of_ble_eq_true rfl) ?_
                replace hT3 := zlet_open hT3
                obtain ⟨p6, hp6, hT3⟩ := hT3
                rw [← hp6]
                refine z_istore ok dX2_best_43 (hI 5 (by decide)) (lv' := [(5, .int p6.1), (0, .ref (zad G 0)), (1, .int v3_1), (2, .int v3_2), (3, .int (nI v1_3)), (4, .int (nI v3_4))]) rfl ?_
                refine z_iload_n ok dX2_best_45 2 rfl ?_
                refine z_bipush ok dX2_best_46 (x := (-4)) (by decide) ?_
                replace hT3 := zlet_open hT3
                obtain ⟨p7, hp7, hT3⟩ := hT3
                have hsp7 := hp7.symm
                have hJp7 : zZ k G N p6.2 68 [(0, .ref (zad G 0)), (1, .int p7.1), (2, .int p7.2), (3, .int (nI v1_3)), (4, .int (nI v3_4)), (5, .int p6.1)] [] := by
                  refine z_iinc ok dX2_best_68 (hI 4 (by decide)) 4 rfl (y := (nI (v3_4 + 1))) (z_incn v3_4 1) (lv' := [(4, .int (nI (v3_4 + 1))), (0, .ref (zad G 0)), (1, .int p7.1), (2, .int p7.2), (3, .int (nI v1_3)), (5, .int p6.1)]) rfl ?_
                  refine z_goto ok dX2_best_71 16 (by decide) ?_
                  refine z_locs [1, 2, 3, 4, 0] (lv' := [(0, .ref (zad G 0)), (1, .int p7.1), (2, .int p7.2), (3, .int (nI v1_3)), (4, .int (nI (v3_4 + 1)))]) rfl ?_
                  exact ih3 p7.1 p7.2 (v3_4 + 1) p6.2 (by omega) (by omega) hT3
                refine z_icmp_eq ok dX2_best_48 57 (by decide) (fun c8 => ?_) (fun c8 => ?_)
                · rw [if_pos c8] at hsp7
                  refine z_bipush ok dX2_best_57 (x := 36) (by decide) ?_
                  refine z_iload_n ok dX2_best_59 4 rfl ?_
                  refine z_imul_n ok dX2_best_60 36 v1_3 rfl rfl ?_
                  refine z_iload ok dX2_best_61 5 rfl ?_
                  refine z_iadd_n ok dX2_best_63 (36 * v1_3) v3_4 rfl rfl ?_
                  refine z_istore_n ok dX2_best_64 (hI 1 (by decide)) (lv' := [(1, .int (nI ((36 * v1_3) + v3_4))), (5, .int p6.1), (0, .ref (zad G 0)), (2, .int v3_2), (3, .int (nI v1_3)), (4, .int (nI v3_4))]) rfl ?_
                  refine z_iload ok dX2_best_65 1 rfl ?_
                  refine z_istore_n ok dX2_best_67 (hI 2 (by decide)) (lv' := [(2, .int p6.1), (1, .int (nI ((36 * v1_3) + v3_4))), (5, .int p6.1), (0, .ref (zad G 0)), (3, .int (nI v1_3)), (4, .int (nI v3_4))]) rfl ?_
                  rw [← hsp7] at hJp7
                  refine z_locs [3, 1, 0, 4, 5, 2] (lv' := [(0, .ref (zad G 0)), (1, .int (nI ((36 * v1_3) + v3_4))), (2, .int p6.1), (3, .int (nI v1_3)), (4, .int (nI v3_4)), (5, .int p6.1)]) rfl ?_
                  exact hJp7
                · rw [if_neg c8] at hsp7
                  refine z_iload ok dX2_best_51 0 rfl ?_
                  refine z_iload_n ok dX2_best_53 3 rfl ?_
                  refine z_icmp_le ok dX2_best_54 68 (by decide) (fun c9 => ?_) (fun c9 => ?_)
                  · rw [if_pos c9] at hsp7
                    rw [← hsp7] at hJp7
                    refine z_locs [1, 2, 3, 4, 5, 0] (lv' := [(0, .ref (zad G 0)), (1, .int v3_1), (2, .int v3_2), (3, .int (nI v1_3)), (4, .int (nI v3_4)), (5, .int p6.1)]) rfl ?_
                    exact hJp7
                  · rw [if_neg c9] at hsp7
                    refine z_bipush ok dX2_best_57 (x := 36) (by decide) ?_
                    refine z_iload_n ok dX2_best_59 4 rfl ?_
                    refine z_imul_n ok dX2_best_60 36 v1_3 rfl rfl ?_
                    refine z_iload ok dX2_best_61 5 rfl ?_
                    refine z_iadd_n ok dX2_best_63 (36 * v1_3) v3_4 rfl rfl ?_
                    refine z_istore_n ok dX2_best_64 (hI 1 (by decide)) (lv' := [(1, .int (nI ((36 * v1_3) + v3_4))), (5, .int p6.1), (0, .ref (zad G 0)), (2, .int v3_2), (3, .int (nI v1_3)), (4, .int (nI v3_4))]) rfl ?_
                    refine z_iload ok dX2_best_65 1 rfl ?_
                    refine z_istore_n ok dX2_best_67 (hI 2 (by decide)) (lv' := [(2, .int p6.1), (1, .int (nI ((36 * v1_3) + v3_4))), (5, .int p6.1), (0, .ref (zad G 0)), (3, .int (nI v1_3)), (4, .int (nI v3_4))]) rfl ?_
                    rw [← hsp7] at hJp7
                    refine z_locs [3, 1, 0, 4, 5, 2] (lv' := [(0, .ref (zad G 0)), (1, .int (nI ((36 * v1_3) + v3_4))), (2, .int p6.1), (3, .int (nI v1_3)), (4, .int (nI v3_4)), (5, .int p6.1)]) rfl ?_
                    exact hJp7
        exact hl3 37 v1_1 v1_2 0 vw1 (by omega) (by omega) hT1
  exact hl1 37 (-4) 0 0 w (by omega) (by omega) hT
