def d_X1_copyFrom (w : xW) (g : Nat) (h : Nat) : xW :=
  zlet (d_X0_copyFrom w g h) fun w1 =>
  zlet (xs w1 g 149 (xg w1 h 149)) fun w2 =>
  zlet (xs w2 g 150 (xg w2 h 150)) fun w3 =>
  zlet (xs w3 g 151 (xg w3 h 151)) fun w4 =>
  zlet (xs w4 g 144 (xg w4 h 144)) fun w5 =>
  zlet (xs w5 g 145 (xg w5 h 145)) fun w6 =>
  zlet (xs w6 g 146 (xg w6 h 146)) fun w7 =>
  zlet (xs w7 g 147 (xg w7 h 147)) fun w8 =>
  zlet (xs w8 g 148 (zb (xg w8 h 148))) fun w9 =>
  zlet (xs w9 g 152 (xg w9 h 152)) fun w10 =>
  zlet (xs w10 g 153 (xg w10 h 153)) fun w11 =>
  zlet (xs w11 g 154 (xg w11 h 154)) fun w12 =>
  zlet (xs w12 g 155 (xg w12 h 155)) fun w13 =>
  zlet (xs w13 g 156 (xg w13 h 156)) fun w14 =>
  zlet (xs w14 g 158 (xg w14 h 158)) fun w15 =>
  w15
set_option maxRecDepth 100000 in
set_option maxHeartbeats 4000000 in
theorem c_X1_copyFrom (G : zG) (N : Nat) (hN : 47 ≤ N) (hg : zGeo G N) (w : xW) (g : Nat) (h_g : g < 7) (h : Nat) (h_h : h < 7) : zM yX1_copyFrom cX1_copyFrom 2 none 2 81 G N [.ref (zad G (5 + 6 * g)), .ref (zad G (5 + 6 * h))] w none (d_X1_copyFrom w g h) := by
  generalize hT : d_X1_copyFrom w g h = u
  unfold d_X1_copyFrom at hT
  refine zM_of zy_X1_copyFrom.2.2.2.2.2.2.2 hg ⟨Nat.le_of_ble_eq_true rfl, by decide⟩ rfl (fun k ok hE hI => ?_)
  have old := hE.old
  refine z_aload_n ok dX1_copyFrom_0 0 rfl ?_
  refine z_get_X1_board ok dX1_copyFrom_1 g h_g hN zw_88 ?_
  refine z_aload_n ok dX1_copyFrom_4 1 rfl ?_
  refine z_get_X1_board ok dX1_copyFrom_5 h h_h hN zw_88 ?_
  refine z_callVNv ok old dX1_copyFrom_8 [] (c_X0_copyFrom G N hN hg w g h_g h h_h) zy_X0_copyFrom zw_218 (6 + 6 * g) (zg_lt' hN h_g) (zE_board G w h_g) rfl rfl rfl rfl rfl (by decide) (Nat.le_of_ble_eq_true rfl) ?_
  replace hT := zlet_open hT
  obtain ⟨w1, hw1, hT⟩ := hT
  rw [← hw1]
  refine z_aload_n ok dX1_copyFrom_11 0 rfl ?_
  refine z_aload_n ok dX1_copyFrom_12 1 rfl ?_
  refine z_get_X1_limit ok dX1_copyFrom_13 h h_h hN zw_90 ?_
  refine z_put_X1_limit ok dX1_copyFrom_16 g h_g hN zw_90 ?_
  replace hT := zlet_open hT
  obtain ⟨w2, hw2, hT⟩ := hT
  rw [← hw2]
  refine z_aload_n ok dX1_copyFrom_19 0 rfl ?_
  refine z_aload_n ok dX1_copyFrom_20 1 rfl ?_
  refine z_get_X1_bonus ok dX1_copyFrom_21 h h_h hN zw_92 ?_
  refine z_put_X1_bonus ok dX1_copyFrom_24 g h_g hN zw_92 ?_
  replace hT := zlet_open hT
  obtain ⟨w3, hw3, hT⟩ := hT
  rw [← hw3]
  refine z_aload_n ok dX1_copyFrom_27 0 rfl ?_
  refine z_aload_n ok dX1_copyFrom_28 1 rfl ?_
  refine z_get_X1_winding ok dX1_copyFrom_29 h h_h hN zw_93 ?_
  refine z_put_X1_winding ok dX1_copyFrom_32 g h_g hN zw_93 ?_
  replace hT := zlet_open hT
  obtain ⟨w4, hw4, hT⟩ := hT
  rw [← hw4]
  refine z_aload_n ok dX1_copyFrom_35 0 rfl ?_
  refine z_aload_n ok dX1_copyFrom_36 1 rfl ?_
  refine z_get_X1_mover ok dX1_copyFrom_37 h h_h hN zw_94 ?_
  refine z_put_X1_mover ok dX1_copyFrom_40 g h_g hN zw_94 ?_
  replace hT := zlet_open hT
  obtain ⟨w5, hw5, hT⟩ := hT
  rw [← hw5]
  refine z_aload_n ok dX1_copyFrom_43 0 rfl ?_
  refine z_aload_n ok dX1_copyFrom_44 1 rfl ?_
  refine z_get_X1_ending ok dX1_copyFrom_45 h h_h hN zw_96 ?_
  refine z_put_X1_ending ok dX1_copyFrom_48 g h_g hN zw_96 ?_
  replace hT := zlet_open hT
  obtain ⟨w6, hw6, hT⟩ := hT
  rw [← hw6]
  refine z_aload_n ok dX1_copyFrom_51 0 rfl ?_
  refine z_aload_n ok dX1_copyFrom_52 1 rfl ?_
  refine z_get_X1_winner ok dX1_copyFrom_53 h h_h hN zw_98 ?_
  refine z_put_X1_winner ok dX1_copyFrom_56 g h_g hN zw_98 ?_
  replace hT := zlet_open hT
  obtain ⟨w7, hw7, hT⟩ := hT
  rw [← hw7]
  refine z_aload_n ok dX1_copyFrom_59 0 rfl ?_
  refine z_aload_n ok dX1_copyFrom_60 1 rfl ?_
  refine z_get_X1_turnsMade ok dX1_copyFrom_61 h h_h hN zw_100 ?_
  refine z_put_X1_turnsMade ok dX1_copyFrom_64 g h_g hN zw_100 ?_
  replace hT := zlet_open hT
  obtain ⟨w8, hw8, hT⟩ := hT
  rw [← hw8]
  refine z_aload_n ok dX1_copyFrom_67 0 rfl ?_
  refine z_aload_n ok dX1_copyFrom_68 1 rfl ?_
  refine z_get_X1_justPassed ok dX1_copyFrom_69 h h_h hN zw_102 ?_
  refine z_put_X1_justPassed ok dX1_copyFrom_72 g h_g hN (zbz _).symm zw_102 ?_
  replace hT := zlet_open hT
  obtain ⟨w9, hw9, hT⟩ := hT
  rw [← hw9]
  refine z_aload_n ok dX1_copyFrom_75 0 rfl ?_
  refine z_aload_n ok dX1_copyFrom_76 1 rfl ?_
  refine z_get_X1_atBeginning ok dX1_copyFrom_77 h h_h hN zw_103 ?_
  refine z_put_X1_atBeginning ok dX1_copyFrom_80 g h_g hN zw_103 ?_
  replace hT := zlet_open hT
  obtain ⟨w10, hw10, hT⟩ := hT
  rw [← hw10]
  refine z_aload_n ok dX1_copyFrom_83 0 rfl ?_
  refine z_aload_n ok dX1_copyFrom_84 1 rfl ?_
  refine z_get_X1_wound ok dX1_copyFrom_85 h h_h hN zw_104 ?_
  refine z_put_X1_wound ok dX1_copyFrom_88 g h_g hN zw_104 ?_
  replace hT := zlet_open hT
  obtain ⟨w11, hw11, hT⟩ := hT
  rw [← hw11]
  refine z_aload_n ok dX1_copyFrom_91 0 rfl ?_
  refine z_aload_n ok dX1_copyFrom_92 1 rfl ?_
  refine z_get_X1_gainedByBonus ok dX1_copyFrom_93 h h_h hN zw_105 ?_
  refine z_put_X1_gainedByBonus ok dX1_copyFrom_96 g h_g hN zw_105 ?_
  replace hT := zlet_open hT
  obtain ⟨w12, hw12, hT⟩ := hT
  rw [← hw12]
  refine z_aload_n ok dX1_copyFrom_99 0 rfl ?_
  refine z_aload_n ok dX1_copyFrom_100 1 rfl ?_
  refine z_get_X1_spent ok dX1_copyFrom_101 h h_h hN zw_106 ?_
  refine z_put_X1_spent ok dX1_copyFrom_104 g h_g hN zw_106 ?_
  replace hT := zlet_open hT
  obtain ⟨w13, hw13, hT⟩ := hT
  rw [← hw13]
  refine z_aload_n ok dX1_copyFrom_107 0 rfl ?_
  refine z_aload_n ok dX1_copyFrom_108 1 rfl ?_
  refine z_get_X1_lost ok dX1_copyFrom_109 h h_h hN zw_107 ?_
  refine z_put_X1_lost ok dX1_copyFrom_112 g h_g hN zw_107 ?_
  replace hT := zlet_open hT
  obtain ⟨w14, hw14, hT⟩ := hT
  rw [← hw14]
  refine z_aload_n ok dX1_copyFrom_115 0 rfl ?_
  refine z_aload_n ok dX1_copyFrom_116 1 rfl ?_
  refine z_get_X1_putOn ok dX1_copyFrom_117 h h_h hN zw_108 ?_
  refine z_put_X1_putOn ok dX1_copyFrom_120 g h_g hN zw_108 ?_
  replace hT := zlet_open hT
  obtain ⟨w15, hw15, hT⟩ := hT
  rw [← hw15]
  exact z_vret ok hE dX1_copyFrom_123 hT

def d_X1_begin (w : xW) (g : Nat) : xW :=
  zlet (d_X0_arrange w g ((xg w g 149) / 2)) fun w1 =>
  zlet (xs w1 g 144 0) fun w2 =>
  zlet (xs w2 g 145 0) fun w3 =>
  zlet (xs w3 g 146 (-1)) fun w4 =>
  zlet (xs w4 g 147 0) fun w5 =>
  zlet (xs w5 g 148 0) fun w6 =>
  zlet (xs w6 g 152 (d_X0_springsInAll w6 g)) fun w7 =>
  zlet (xs w7 g 153 0) fun w8 =>
  zlet (xs w8 g 154 0) fun w9 =>
  zlet (xs w9 g 155 0) fun w10 =>
  zlet (xs w10 g 156 0) fun w11 =>
  zlet (xs w11 g 158 0) fun w12 =>
  w12
set_option maxRecDepth 100000 in
set_option maxHeartbeats 4000000 in
theorem c_X1_begin (G : zG) (N : Nat) (hN : 47 ≤ N) (hg : zGeo G N) (w : xW) (g : Nat) (h_g : g < 7) : zM yX1_begin cX1_begin 1 none 4 87 G N [.ref (zad G (5 + 6 * g))] w none (d_X1_begin w g) := by
  generalize hT : d_X1_begin w g = u
  unfold d_X1_begin at hT
  refine zM_of zy_X1_begin.2.2.2.2.2.2.2 hg ⟨Nat.le_of_ble_eq_true rfl, by decide⟩ rfl (fun k ok hE hI => ?_)
  have old := hE.old
  refine z_aload_n ok dX1_begin_0 0 rfl ?_
  refine z_get_X1_board ok dX1_begin_1 g h_g hN zw_88 ?_
  refine z_aload_n ok dX1_begin_4 0 rfl ?_
  refine z_get_X1_limit ok dX1_begin_5 g h_g hN zw_90 ?_
  refine z_iconst ok dX1_begin_8 (x := 2) (by decide) ?_
  refine z_idiv ok dX1_begin_9 (by decide) ?_
  refine z_callVNv ok old dX1_begin_10 [] (c_X0_arrange G N hN hg w g h_g ((xg w g 149) / 2)) zy_X0_arrange zw_145 (6 + 6 * g) (zg_lt' hN h_g) (zE_board G w h_g) rfl rfl rfl rfl rfl (by decide) (Nat.le_of_ble_eq_true rfl) ?_
  replace hT := zlet_open hT
  obtain ⟨w1, hw1, hT⟩ := hT
  rw [← hw1]
  refine z_aload_n ok dX1_begin_13 0 rfl ?_
  refine z_iconst ok dX1_begin_14 (x := 0) (by decide) ?_
  refine z_put_X1_mover ok dX1_begin_15 g h_g hN zw_94 ?_
  replace hT := zlet_open hT
  obtain ⟨w2, hw2, hT⟩ := hT
  rw [← hw2]
  refine z_aload_n ok dX1_begin_18 0 rfl ?_
  refine z_iconst ok dX1_begin_19 (x := 0) (by decide) ?_
  refine z_put_X1_ending ok dX1_begin_20 g h_g hN zw_96 ?_
  replace hT := zlet_open hT
  obtain ⟨w3, hw3, hT⟩ := hT
  rw [← hw3]
  refine z_aload_n ok dX1_begin_23 0 rfl ?_
  refine z_iconst ok dX1_begin_24 (x := (-1)) (by decide) ?_
  refine z_put_X1_winner ok dX1_begin_25 g h_g hN zw_98 ?_
  replace hT := zlet_open hT
  obtain ⟨w4, hw4, hT⟩ := hT
  rw [← hw4]
  refine z_aload_n ok dX1_begin_28 0 rfl ?_
  refine z_iconst ok dX1_begin_29 (x := 0) (by decide) ?_
  refine z_put_X1_turnsMade ok dX1_begin_30 g h_g hN zw_100 ?_
  replace hT := zlet_open hT
  obtain ⟨w5, hw5, hT⟩ := hT
  rw [← hw5]
  refine z_aload_n ok dX1_begin_33 0 rfl ?_
  refine z_iconst ok dX1_begin_34 (x := 0) (by decide) ?_
  refine z_put_X1_justPassed ok dX1_begin_35 g h_g hN (by decide) zw_102 ?_
  replace hT := zlet_open hT
  obtain ⟨w6, hw6, hT⟩ := hT
  rw [← hw6]
  refine z_aload_n ok dX1_begin_38 0 rfl ?_
  refine z_aload_n ok dX1_begin_39 0 rfl ?_
  refine z_get_X1_board ok dX1_begin_40 g h_g hN zw_88 ?_
  refine z_callVNi ok old dX1_begin_43 [.ref (zad G (5 + 6 * g))] (c_X0_springsInAll G N hN hg w6 g h_g) zy_X0_springsInAll zw_168 (6 + 6 * g) (zg_lt' hN h_g) (zE_board G w6 h_g) rfl rfl rfl rfl rfl (by decide) (Nat.le_of_ble_eq_true rfl) ?_
  refine z_put_X1_atBeginning ok dX1_begin_46 g h_g hN zw_103 ?_
  replace hT := zlet_open hT
  obtain ⟨w7, hw7, hT⟩ := hT
  rw [← hw7]
  refine z_aload_n ok dX1_begin_49 0 rfl ?_
  refine z_iconst ok dX1_begin_50 (x := 0) (by decide) ?_
  refine z_put_X1_wound ok dX1_begin_51 g h_g hN zw_104 ?_
  replace hT := zlet_open hT
  obtain ⟨w8, hw8, hT⟩ := hT
  rw [← hw8]
  refine z_aload_n ok dX1_begin_54 0 rfl ?_
  refine z_iconst ok dX1_begin_55 (x := 0) (by decide) ?_
  refine z_put_X1_gainedByBonus ok dX1_begin_56 g h_g hN zw_105 ?_
  replace hT := zlet_open hT
  obtain ⟨w9, hw9, hT⟩ := hT
  rw [← hw9]
  refine z_aload_n ok dX1_begin_59 0 rfl ?_
  refine z_iconst ok dX1_begin_60 (x := 0) (by decide) ?_
  refine z_put_X1_spent ok dX1_begin_61 g h_g hN zw_106 ?_
  replace hT := zlet_open hT
  obtain ⟨w10, hw10, hT⟩ := hT
  rw [← hw10]
  refine z_aload_n ok dX1_begin_64 0 rfl ?_
  refine z_iconst ok dX1_begin_65 (x := 0) (by decide) ?_
  refine z_put_X1_lost ok dX1_begin_66 g h_g hN zw_107 ?_
  replace hT := zlet_open hT
  obtain ⟨w11, hw11, hT⟩ := hT
  rw [← hw11]
  refine z_aload_n ok dX1_begin_69 0 rfl ?_
  refine z_iconst ok dX1_begin_70 (x := 0) (by decide) ?_
  refine z_put_X1_putOn ok dX1_begin_71 g h_g hN zw_108 ?_
  replace hT := zlet_open hT
  obtain ⟨w12, hw12, hT⟩ := hT
  rw [← hw12]
  exact z_vret ok hE dX1_begin_74 hT

def d_X1_isOver (w : xW) (g : Nat) : Int32 :=
  if (xg w g 145) = 0 then (0)
  else (1)
set_option maxRecDepth 100000 in
set_option maxHeartbeats 4000000 in
theorem c_X1_isOver (G : zG) (N : Nat) (hN : 47 ≤ N) (hg : zGeo G N) (w : xW) (g : Nat) (h_g : g < 7) : zM yX1_isOver cX1_isOver 1 (some .boolean) 0 0 G N [.ref (zad G (5 + 6 * g))] w (some (d_X1_isOver w g)) w := by
  generalize hT : d_X1_isOver w g = r
  unfold d_X1_isOver at hT
  refine zM_of zy_X1_isOver.2.2.2.2.2.2.2 hg ⟨Nat.le_of_ble_eq_true rfl, by decide⟩ rfl (fun k ok hE hI => ?_)
  have old := hE.old
  refine z_aload_n ok dX1_isOver_0 0 rfl ?_
  refine z_get_X1_ending ok dX1_isOver_1 g h_g hN zw_96 ?_
  refine z_if_eq ok dX1_isOver_4 11 (by decide) (fun c1 => ?_) (fun c1 => ?_)
  · rw [if_pos c1] at hT
    refine z_iconst ok dX1_isOver_11 (x := 0) (by decide) ?_
    exact z_iret ok hE dX1_isOver_12 rfl ⟨hT, rfl⟩
  · rw [if_neg c1] at hT
    refine z_iconst ok dX1_isOver_7 (x := 1) (by decide) ?_
    refine z_goto ok dX1_isOver_8 12 (by decide) ?_
    exact z_iret ok hE dX1_isOver_12 rfl ⟨hT, rfl⟩

def d_X1_setting (w : xW) (g : Nat) (what : Int32) : Int32 :=
  if what = 0 then ((xg w g 149))
  else (if what = 1 then ((xg w g 150))
  else ((xg w g 151)))
set_option maxRecDepth 100000 in
set_option maxHeartbeats 4000000 in
theorem c_X1_setting (G : zG) (N : Nat) (hN : 47 ≤ N) (hg : zGeo G N) (w : xW) (g : Nat) (h_g : g < 7) (what : Int32) : zM yX1_setting cX1_setting 2 (some .int) 0 0 G N [.ref (zad G (5 + 6 * g)), .int what] w (some (d_X1_setting w g what)) w := by
  generalize hT : d_X1_setting w g what = r
  unfold d_X1_setting at hT
  refine zM_of zy_X1_setting.2.2.2.2.2.2.2 hg ⟨Nat.le_of_ble_eq_true rfl, by decide⟩ rfl (fun k ok hE hI => ?_)
  have old := hE.old
  refine z_iload_n ok dX1_setting_0 1 rfl ?_
  by_cases c1 : what = 0
  · rw [if_pos c1] at hT
    refine z_lookup ok dX1_setting_1 28 27 (by decide) (by rw [c1]; decide) (by decide) ?_
    refine z_aload_n ok dX1_setting_28 0 rfl ?_
    refine z_get_X1_limit ok dX1_setting_29 g h_g hN zw_90 ?_
    exact z_iret ok hE dX1_setting_32 rfl ⟨hT, rfl⟩
  · rw [if_neg c1] at hT
    by_cases c2 : what = 1
    · rw [if_pos c2] at hT
      refine z_lookup ok dX1_setting_1 33 32 (by decide) (by rw [c2]; decide) (by decide) ?_
      refine z_aload_n ok dX1_setting_33 0 rfl ?_
      refine z_get_X1_bonus ok dX1_setting_34 g h_g hN zw_92 ?_
      exact z_iret ok hE dX1_setting_37 rfl ⟨hT, rfl⟩
    · rw [if_neg c2] at hT
      refine z_lookup ok dX1_setting_1 38 37 (by decide) (zlook_out2 c1 c2) (by decide) ?_
      refine z_aload_n ok dX1_setting_38 0 rfl ?_
      refine z_get_X1_winding ok dX1_setting_39 g h_g hN zw_93 ?_
      exact z_iret ok hE dX1_setting_42 rfl ⟨hT, rfl⟩

def d_X1_cutSprings_2k  (e1_1 : Nat) (ew1 : xW) : xW :=
  ew1
def d_X1_cutSprings_2 (g : Nat) (kt1 : Nat → xW → xW) : Nat → Nat → xW → xW
  | 0, _, _ => default
  | n1 + 1, v1_1, vw1 => if 36 ≤ v1_1 then (kt1 v1_1 vw1)
  else (zlet (((d_X0_springOn vw1 g v1_1) - (xg vw1 g 149))) fun x3 =>
  if x3 ≤ 0 then (d_X1_cutSprings_2 g kt1 n1 (v1_1 + 1) vw1)
  else (zlet (d_X0_changeSpring vw1 g v1_1 (xg vw1 g 149)) fun w5 =>
  zlet (xs w5 g 158 ((xg w5 g 158) - x3)) fun w6 =>
  d_X1_cutSprings_2 g kt1 n1 (v1_1 + 1) w6))
def d_X1_cutSprings (w : xW) (g : Nat) : xW :=
  d_X1_cutSprings_2 g d_X1_cutSprings_2k 37 0 w
set_option maxRecDepth 100000 in
set_option maxHeartbeats 4000000 in
theorem c_X1_cutSprings (G : zG) (N : Nat) (hN : 47 ≤ N) (hg : zGeo G N) (w : xW) (g : Nat) (h_g : g < 7) : zM yX1_cutSprings cX1_cutSprings 3 none 2 42 G N [.ref (zad G (5 + 6 * g))] w none (d_X1_cutSprings w g) := by
  generalize hT : d_X1_cutSprings w g = u
  unfold d_X1_cutSprings at hT
  refine zM_of zy_X1_cutSprings.2.2.2.2.2.2.2 hg ⟨Nat.le_of_ble_eq_true rfl, by decide⟩ rfl (fun k ok hE hI => ?_)
  have old := hE.old
  refine z_iconst ok dX1_cutSprings_0 (x := 0) (by decide) ?_
  refine z_istore_n ok dX1_cutSprings_1 (hI 1 (by decide)) (lv' := [(1, .int 0), (0, .ref (zad G (5 + 6 * g)))]) rfl ?_
  refine z_locs [1, 0] (lv' := [(0, .ref (zad G (5 + 6 * g))), (1, .int 0)]) rfl ?_
  obtain ⟨kt1, hkt1⟩ : ∃ z, z = d_X1_cutSprings_2k := ⟨_, rfl⟩
  rw [← hkt1] at hT
  have hk1 : ∀ (e1_1 : Nat) (ew1 : xW), e1_1 ≤ 36 → kt1 e1_1 ew1 = u → zZ k G N ew1 54 [(0, .ref (zad G (5 + 6 * g))), (1, .int (nI e1_1))] [] := by
    intro e1_1 ew1 q1_0 hT1
    rw [hkt1, d_X1_cutSprings_2k] at hT1
    exact z_vret ok hE dX1_cutSprings_54 hT1
  have hl1 : ∀ (n1 : Nat) (v1_1 : Nat) (vw1 : xW), 36 < v1_1 + n1 → v1_1 ≤ 36 → d_X1_cutSprings_2 g kt1 n1 v1_1 vw1 = u → zZ k G N vw1 2 [(0, .ref (zad G (5 + 6 * g))), (1, .int (nI v1_1))] [] := by
    intro n1
    induction n1 with
    | zero =>
      intro v1_1 vw1 q1_0 q1_1
      exact absurd q1_0 (by omega)
    | succ n1 ih1 =>
      intro v1_1 vw1 q1_0 q1_1 hT1
      rw [d_X1_cutSprings_2] at hT1
      refine z_iload_n ok dX1_cutSprings_2 1 rfl ?_
      refine z_bipush ok dX1_cutSprings_3 (x := 36) (by decide) ?_
      refine z_icmp_ge_n ok dX1_cutSprings_5 54 (by decide) v1_1 36 rfl rfl (by omega) (fun c2 => ?_) (fun c2 => ?_)
      · rw [if_pos c2] at hT1
        refine z_locs [0, 1] (lv' := [(0, .ref (zad G (5 + 6 * g))), (1, .int (nI v1_1))]) rfl ?_
        exact hk1 v1_1 vw1 (by omega) hT1
      · rw [if_neg c2] at hT1
        refine z_aload_n ok dX1_cutSprings_8 0 rfl ?_
        refine z_get_X1_board ok dX1_cutSprings_9 g h_g hN zw_88 ?_
        refine z_iload_n ok dX1_cutSprings_12 1 rfl ?_
        refine z_callVNi ok old dX1_cutSprings_13 [] (c_X0_springOn G N hN hg vw1 g h_g v1_1 (by omega)) zy_X0_springOn zw_245 (6 + 6 * g) (zg_lt' hN h_g) (zE_board G vw1 h_g) rfl rfl rfl rfl rfl (by decide) (Nat.le_of_ble_eq_true rfl) ?_
        refine z_aload_n ok dX1_cutSprings_16 0 rfl ?_
        refine z_get_X1_limit ok dX1_cutSprings_17 g h_g hN zw_90 ?_
        refine z_isub ok dX1_cutSprings_20 ?_
        replace hT1 := zlet_open hT1
        obtain ⟨x3, hx3, hT1⟩ := hT1
        rw [← hx3]
        refine z_istore_n ok dX1_cutSprings_21 (hI 2 (by decide)) (lv' := [(2, .int x3), (0, .ref (zad G (5 + 6 * g))), (1, .int (nI v1_1))]) rfl ?_
        refine z_iload_n ok dX1_cutSprings_22 0 rfl ?_
        refine z_if_le ok dX1_cutSprings_23 48 (by decide) (fun c4 => ?_) (fun c4 => ?_)
        · rw [if_pos c4] at hT1
          refine z_iinc ok dX1_cutSprings_48 (hI 1 (by decide)) 2 rfl (y := (nI (v1_1 + 1))) (z_incn v1_1 1) (lv' := [(1, .int (nI (v1_1 + 1))), (2, .int x3), (0, .ref (zad G (5 + 6 * g)))]) rfl ?_
          refine z_goto ok dX1_cutSprings_51 2 (by decide) ?_
          refine z_locs [2, 0] (lv' := [(0, .ref (zad G (5 + 6 * g))), (1, .int (nI (v1_1 + 1)))]) rfl ?_
          exact ih1 (v1_1 + 1) vw1 (by omega) (by omega) hT1
        · rw [if_neg c4] at hT1
          refine z_aload_n ok dX1_cutSprings_26 1 rfl ?_
          refine z_get_X1_board ok dX1_cutSprings_27 g h_g hN zw_88 ?_
          refine z_iload_n ok dX1_cutSprings_30 2 rfl ?_
          refine z_aload_n ok dX1_cutSprings_31 1 rfl ?_
          refine z_get_X1_limit ok dX1_cutSprings_32 g h_g hN zw_90 ?_
          refine z_callVNv ok old dX1_cutSprings_35 [] (c_X0_changeSpring G N hN hg vw1 g h_g v1_1 (by omega) (xg vw1 g 149)) zy_X0_changeSpring zw_249 (6 + 6 * g) (zg_lt' hN h_g) (zE_board G vw1 h_g) rfl rfl rfl rfl rfl (by decide) (Nat.le_of_ble_eq_true rfl) ?_
          replace hT1 := zlet_open hT1
          obtain ⟨w5, hw5, hT1⟩ := hT1
          rw [← hw5]
          refine z_aload_n ok dX1_cutSprings_38 1 rfl ?_
          refine z_dup ok dX1_cutSprings_39 rfl ?_
          refine z_get_X1_putOn ok dX1_cutSprings_40 g h_g hN zw_108 ?_
          refine z_iload_n ok dX1_cutSprings_43 0 rfl ?_
          refine z_isub ok dX1_cutSprings_44 ?_
          refine z_put_X1_putOn ok dX1_cutSprings_45 g h_g hN zw_108 ?_
          replace hT1 := zlet_open hT1
          obtain ⟨w6, hw6, hT1⟩ := hT1
          rw [← hw6]
          refine z_iinc ok dX1_cutSprings_48 (hI 1 (by decide)) 2 rfl (y := (nI (v1_1 + 1))) (z_incn v1_1 1) (lv' := [(1, .int (nI (v1_1 + 1))), (2, .int x3), (0, .ref (zad G (5 + 6 * g)))]) rfl ?_
          refine z_goto ok dX1_cutSprings_51 2 (by decide) ?_
          refine z_locs [2, 0] (lv' := [(0, .ref (zad G (5 + 6 * g))), (1, .int (nI (v1_1 + 1)))]) rfl ?_
          exact ih1 (v1_1 + 1) w6 (by omega) (by omega) hT1
  exact hl1 37 0 w (by omega) (by omega) hT

def d_X1_changeSetting (w : xW) (g : Nat) (what : Int32) (value : Int32) : xW :=
  if what = 0 then (zlet (xs w g 149 value) fun w2 =>
  zlet (d_X1_cutSprings w2 g) fun w3 =>
  w3)
  else (if what = 1 then (zlet (xs w g 150 value) fun w5 =>
  w5)
  else (zlet (xs w g 151 value) fun w6 =>
  w6))
set_option maxRecDepth 100000 in
set_option maxHeartbeats 4000000 in
theorem c_X1_changeSetting (G : zG) (N : Nat) (hN : 47 ≤ N) (hg : zGeo G N) (w : xW) (g : Nat) (h_g : g < 7) (what : Int32) (value : Int32) : zM yX1_changeSetting cX1_changeSetting 3 none 3 64 G N [.ref (zad G (5 + 6 * g)), .int what, .int value] w none (d_X1_changeSetting w g what value) := by
  generalize hT : d_X1_changeSetting w g what value = u
  unfold d_X1_changeSetting at hT
  refine zM_of zy_X1_changeSetting.2.2.2.2.2.2.2 hg ⟨Nat.le_of_ble_eq_true rfl, by decide⟩ rfl (fun k ok hE hI => ?_)
  have old := hE.old
  refine z_iload_n ok dX1_changeSetting_0 1 rfl ?_
  by_cases c1 : what = 0
  · rw [if_pos c1] at hT
    refine z_lookup ok dX1_changeSetting_1 28 27 (by decide) (by rw [c1]; decide) (by decide) ?_
    refine z_aload_n ok dX1_changeSetting_28 0 rfl ?_
    refine z_iload_n ok dX1_changeSetting_29 2 rfl ?_
    refine z_put_X1_limit ok dX1_changeSetting_30 g h_g hN zw_90 ?_
    replace hT := zlet_open hT
    obtain ⟨w2, hw2, hT⟩ := hT
    rw [← hw2]
    refine z_aload_n ok dX1_changeSetting_33 0 rfl ?_
    refine z_callVv ok old dX1_changeSetting_34 [] (c_X1_cutSprings G N hN hg w2 g h_g) zy_X1_cutSprings zw_241 (5 + 6 * g) (zg_lt hN h_g) (zE_game G w2 h_g) rfl rfl rfl rfl rfl (by decide) (Nat.le_of_ble_eq_true rfl) ?_
    replace hT := zlet_open hT
    obtain ⟨w3, hw3, hT⟩ := hT
    rw [← hw3]
    refine z_goto ok dX1_changeSetting_37 53 (by decide) ?_
    exact z_vret ok hE dX1_changeSetting_53 hT
  · rw [if_neg c1] at hT
    by_cases c4 : what = 1
    · rw [if_pos c4] at hT
      refine z_lookup ok dX1_changeSetting_1 40 39 (by decide) (by rw [c4]; decide) (by decide) ?_
      refine z_aload_n ok dX1_changeSetting_40 0 rfl ?_
      refine z_iload_n ok dX1_changeSetting_41 2 rfl ?_
      refine z_put_X1_bonus ok dX1_changeSetting_42 g h_g hN zw_92 ?_
      replace hT := zlet_open hT
      obtain ⟨w5, hw5, hT⟩ := hT
      rw [← hw5]
      refine z_goto ok dX1_changeSetting_45 53 (by decide) ?_
      exact z_vret ok hE dX1_changeSetting_53 hT
    · rw [if_neg c4] at hT
      refine z_lookup ok dX1_changeSetting_1 48 47 (by decide) (zlook_out2 c1 c4) (by decide) ?_
      refine z_aload_n ok dX1_changeSetting_48 0 rfl ?_
      refine z_iload_n ok dX1_changeSetting_49 2 rfl ?_
      refine z_put_X1_winding ok dX1_changeSetting_50 g h_g hN zw_93 ?_
      replace hT := zlet_open hT
      obtain ⟨w6, hw6, hT⟩ := hT
      rw [← hw6]
      exact z_vret ok hE dX1_changeSetting_53 hT

def d_X1_account (w : xW) (g : Nat) (number : Int32) : Int32 :=
  if number = 0 then ((xg w g 152))
  else (if number = 1 then ((xg w g 153))
  else (if number = 2 then ((xg w g 154))
  else (if number = 3 then ((xg w g 155))
  else (if number = 4 then ((xg w g 156))
  else (if number = 5 then ((d_X0_springsInAll w g))
  else ((xg w g 158)))))))
set_option maxRecDepth 100000 in
set_option maxHeartbeats 4000000 in
theorem c_X1_account (G : zG) (N : Nat) (hN : 47 ≤ N) (hg : zGeo G N) (w : xW) (g : Nat) (h_g : g < 7) (number : Int32) : zM yX1_account cX1_account 2 (some .int) 2 43 G N [.ref (zad G (5 + 6 * g)), .int number] w (some (d_X1_account w g number)) w := by
  generalize hT : d_X1_account w g number = r
  unfold d_X1_account at hT
  refine zM_of zy_X1_account.2.2.2.2.2.2.2 hg ⟨Nat.le_of_ble_eq_true rfl, by decide⟩ rfl (fun k ok hE hI => ?_)
  have old := hE.old
  refine z_iload_n ok dX1_account_0 1 rfl ?_
  by_cases c1 : number = 0
  · rw [if_pos c1] at hT
    refine z_tableIn ok dX1_account_1 40 39 (by rw [c1]; decide) ?_
    refine z_aload_n ok dX1_account_40 0 rfl ?_
    refine z_get_X1_atBeginning ok dX1_account_41 g h_g hN zw_103 ?_
    exact z_iret ok hE dX1_account_44 rfl ⟨hT, rfl⟩
  · rw [if_neg c1] at hT
    by_cases c2 : number = 1
    · rw [if_pos c2] at hT
      refine z_tableIn ok dX1_account_1 45 44 (by rw [c2]; decide) ?_
      refine z_aload_n ok dX1_account_45 0 rfl ?_
      refine z_get_X1_wound ok dX1_account_46 g h_g hN zw_104 ?_
      exact z_iret ok hE dX1_account_49 rfl ⟨hT, rfl⟩
    · rw [if_neg c2] at hT
      by_cases c3 : number = 2
      · rw [if_pos c3] at hT
        refine z_tableIn ok dX1_account_1 50 49 (by rw [c3]; decide) ?_
        refine z_aload_n ok dX1_account_50 0 rfl ?_
        refine z_get_X1_gainedByBonus ok dX1_account_51 g h_g hN zw_105 ?_
        exact z_iret ok hE dX1_account_54 rfl ⟨hT, rfl⟩
      · rw [if_neg c3] at hT
        by_cases c4 : number = 3
        · rw [if_pos c4] at hT
          refine z_tableIn ok dX1_account_1 55 54 (by rw [c4]; decide) ?_
          refine z_aload_n ok dX1_account_55 0 rfl ?_
          refine z_get_X1_spent ok dX1_account_56 g h_g hN zw_106 ?_
          exact z_iret ok hE dX1_account_59 rfl ⟨hT, rfl⟩
        · rw [if_neg c4] at hT
          by_cases c5 : number = 4
          · rw [if_pos c5] at hT
            refine z_tableIn ok dX1_account_1 60 59 (by rw [c5]; decide) ?_
            refine z_aload_n ok dX1_account_60 0 rfl ?_
            refine z_get_X1_lost ok dX1_account_61 g h_g hN zw_107 ?_
            exact z_iret ok hE dX1_account_64 rfl ⟨hT, rfl⟩
          · rw [if_neg c5] at hT
            by_cases c6 : number = 5
            · rw [if_pos c6] at hT
              refine z_tableIn ok dX1_account_1 65 64 (by rw [c6]; decide) ?_
              refine z_aload_n ok dX1_account_65 0 rfl ?_
              refine z_get_X1_board ok dX1_account_66 g h_g hN zw_88 ?_
              refine z_callVNi ok old dX1_account_69 [] (c_X0_springsInAll G N hN hg w g h_g) zy_X0_springsInAll zw_168 (6 + 6 * g) (zg_lt' hN h_g) (zE_board G w h_g) rfl rfl rfl rfl rfl (by decide) (Nat.le_of_ble_eq_true rfl) ?_
              exact z_iret ok hE dX1_account_72 rfl ⟨hT, rfl⟩
            · rw [if_neg c6] at hT
              refine z_tableOut ok dX1_account_1 73 (ztab_out6 c1 c2 c3 c4 c5 c6) (by decide) ?_
              refine z_aload_n ok dX1_account_73 0 rfl ?_
              refine z_get_X1_putOn ok dX1_account_74 g h_g hN zw_108 ?_
              exact z_iret ok hE dX1_account_77 rfl ⟨hT, rfl⟩

def d_X1_putInstead (w : xW) (g : Nat) (c : Nat) (side : Int32) (kind : Int32) (spring : Int32) : xW :=
  zlet (xs w g 158 ((xg w g 158) - (d_X0_springOn w g c))) fun w1 =>
  if side = (-1) then (zlet (d_X0_empty w1 g c) fun w5 =>
  zlet (xs w5 g 158 ((xg w5 g 158) + (d_X0_springOn w5 g c))) fun w6 =>
  w6)
  else (zlet (d_X0_place w1 g c side kind spring) fun w3 =>
  zlet (xs w3 g 158 ((xg w3 g 158) + (d_X0_springOn w3 g c))) fun w4 =>
  w4)
set_option maxRecDepth 100000 in
set_option maxHeartbeats 4000000 in
theorem c_X1_putInstead (G : zG) (N : Nat) (hN : 47 ≤ N) (hg : zGeo G N) (w : xW) (g : Nat) (h_g : g < 7) (c : Nat) (h_c : c < 36) (side : Int32) (kind : Int32) (spring : Int32) : zM yX1_putInstead cX1_putInstead 5 none 3 65 G N [.ref (zad G (5 + 6 * g)), .int (nI c), .int side, .int kind, .int spring] w none (d_X1_putInstead w g c side kind spring) := by
  generalize hT : d_X1_putInstead w g c side kind spring = u
  unfold d_X1_putInstead at hT
  refine zM_of zy_X1_putInstead.2.2.2.2.2.2.2 hg ⟨Nat.le_of_ble_eq_true rfl, by decide⟩ rfl (fun k ok hE hI => ?_)
  have old := hE.old
  refine z_aload_n ok dX1_putInstead_0 0 rfl ?_
  refine z_dup ok dX1_putInstead_1 rfl ?_
  refine z_get_X1_putOn ok dX1_putInstead_2 g h_g hN zw_108 ?_
  refine z_aload_n ok dX1_putInstead_5 0 rfl ?_
  refine z_get_X1_board ok dX1_putInstead_6 g h_g hN zw_88 ?_
  refine z_iload_n ok dX1_putInstead_9 1 rfl ?_
  refine z_callVNi ok old dX1_putInstead_10 [.int (xg w g 158), .ref (zad G (5 + 6 * g))] (c_X0_springOn G N hN hg w g h_g c (by omega)) zy_X0_springOn zw_245 (6 + 6 * g) (zg_lt' hN h_g) (zE_board G w h_g) rfl rfl rfl rfl rfl (by decide) (Nat.le_of_ble_eq_true rfl) ?_
  refine z_isub ok dX1_putInstead_13 ?_
  refine z_put_X1_putOn ok dX1_putInstead_14 g h_g hN zw_108 ?_
  replace hT := zlet_open hT
  obtain ⟨w1, hw1, hT⟩ := hT
  rw [← hw1]
  refine z_iload_n ok dX1_putInstead_17 2 rfl ?_
  refine z_iconst ok dX1_putInstead_18 (x := (-1)) (by decide) ?_
  refine z_icmp_ne ok dX1_putInstead_19 33 (by decide) (fun c2 => ?_) (fun c2 => ?_)
  · rw [if_neg c2] at hT
    refine z_aload_n ok dX1_putInstead_33 0 rfl ?_
    refine z_get_X1_board ok dX1_putInstead_34 g h_g hN zw_88 ?_
    refine z_iload_n ok dX1_putInstead_37 1 rfl ?_
    refine z_iload_n ok dX1_putInstead_38 2 rfl ?_
    refine z_iload_n ok dX1_putInstead_39 3 rfl ?_
    refine z_iload ok dX1_putInstead_40 4 rfl ?_
    refine z_callVNv ok old dX1_putInstead_42 [] (c_X0_place G N hN hg w1 g h_g c (by omega) side kind spring) zy_X0_place zw_278 (6 + 6 * g) (zg_lt' hN h_g) (zE_board G w1 h_g) rfl rfl rfl rfl rfl (by decide) (Nat.le_of_ble_eq_true rfl) ?_
    replace hT := zlet_open hT
    obtain ⟨w3, hw3, hT⟩ := hT
    rw [← hw3]
    refine z_aload_n ok dX1_putInstead_45 0 rfl ?_
    refine z_dup ok dX1_putInstead_46 rfl ?_
    refine z_get_X1_putOn ok dX1_putInstead_47 g h_g hN zw_108 ?_
    refine z_aload_n ok dX1_putInstead_50 0 rfl ?_
    refine z_get_X1_board ok dX1_putInstead_51 g h_g hN zw_88 ?_
    refine z_iload_n ok dX1_putInstead_54 1 rfl ?_
    refine z_callVNi ok old dX1_putInstead_55 [.int (xg w3 g 158), .ref (zad G (5 + 6 * g))] (c_X0_springOn G N hN hg w3 g h_g c (by omega)) zy_X0_springOn zw_245 (6 + 6 * g) (zg_lt' hN h_g) (zE_board G w3 h_g) rfl rfl rfl rfl rfl (by decide) (Nat.le_of_ble_eq_true rfl) ?_
    refine z_iadd ok dX1_putInstead_58 ?_
    refine z_put_X1_putOn ok dX1_putInstead_59 g h_g hN zw_108 ?_
    replace hT := zlet_open hT
    obtain ⟨w4, hw4, hT⟩ := hT
    rw [← hw4]
    exact z_vret ok hE dX1_putInstead_62 hT
  · rw [if_pos c2] at hT
    refine z_aload_n ok dX1_putInstead_22 0 rfl ?_
    refine z_get_X1_board ok dX1_putInstead_23 g h_g hN zw_88 ?_
    refine z_iload_n ok dX1_putInstead_26 1 rfl ?_
    refine z_callVNv ok old dX1_putInstead_27 [] (c_X0_empty G N hN hg w1 g h_g c (by omega)) zy_X0_empty zw_277 (6 + 6 * g) (zg_lt' hN h_g) (zE_board G w1 h_g) rfl rfl rfl rfl rfl (by decide) (Nat.le_of_ble_eq_true rfl) ?_
    replace hT := zlet_open hT
    obtain ⟨w5, hw5, hT⟩ := hT
    rw [← hw5]
    refine z_goto ok dX1_putInstead_30 45 (by decide) ?_
    refine z_aload_n ok dX1_putInstead_45 0 rfl ?_
    refine z_dup ok dX1_putInstead_46 rfl ?_
    refine z_get_X1_putOn ok dX1_putInstead_47 g h_g hN zw_108 ?_
    refine z_aload_n ok dX1_putInstead_50 0 rfl ?_
    refine z_get_X1_board ok dX1_putInstead_51 g h_g hN zw_88 ?_
    refine z_iload_n ok dX1_putInstead_54 1 rfl ?_
    refine z_callVNi ok old dX1_putInstead_55 [.int (xg w5 g 158), .ref (zad G (5 + 6 * g))] (c_X0_springOn G N hN hg w5 g h_g c (by omega)) zy_X0_springOn zw_245 (6 + 6 * g) (zg_lt' hN h_g) (zE_board G w5 h_g) rfl rfl rfl rfl rfl (by decide) (Nat.le_of_ble_eq_true rfl) ?_
    refine z_iadd ok dX1_putInstead_58 ?_
    refine z_put_X1_putOn ok dX1_putInstead_59 g h_g hN zw_108 ?_
    replace hT := zlet_open hT
    obtain ⟨w6, hw6, hT⟩ := hT
    rw [← hw6]
    exact z_vret ok hE dX1_putInstead_62 hT

def d_X1_reasonAgainst (w : xW) (g : Nat) (f : Nat) (t : Nat) : Int32 :=
  if (d_X1_isOver w g) = 0 then (if (d_X0_hasPiece w g f) = 0 then (3)
  else (if (d_X0_sideOn w g f) = (xg w g 144) then (if (d_X0_sideOn w g t) = (xg w g 144) then (5)
  else (zlet ((d_X0_price w g f t)) fun x5 =>
  if x5 = 0 then (6)
  else (if x5 ≤ (d_X0_springOn w g f) then (0)
  else (7))))
  else (4)))
  else (2)
set_option maxRecDepth 100000 in
set_option maxHeartbeats 4000000 in
theorem c_X1_reasonAgainst (G : zG) (N : Nat) (hN : 47 ≤ N) (hg : zGeo G N) (w : xW) (g : Nat) (h_g : g < 7) (f : Nat) (h_f : f < 36) (t : Nat) (h_t : t < 36) : zM yX1_reasonAgainst cX1_reasonAgainst 4 (some .int) 3 77 G N [.ref (zad G (5 + 6 * g)), .int (nI f), .int (nI t)] w (some (d_X1_reasonAgainst w g f t)) w := by
  generalize hT : d_X1_reasonAgainst w g f t = r
  unfold d_X1_reasonAgainst at hT
  refine zM_of zy_X1_reasonAgainst.2.2.2.2.2.2.2 hg ⟨Nat.le_of_ble_eq_true rfl, by decide⟩ rfl (fun k ok hE hI => ?_)
  have old := hE.old
  refine z_aload_n ok dX1_reasonAgainst_0 0 rfl ?_
  refine z_callVi ok old dX1_reasonAgainst_1 [] (c_X1_isOver G N hN hg w g h_g) zy_X1_isOver zw_320 (5 + 6 * g) (zg_lt hN h_g) (zE_game G w h_g) rfl rfl rfl rfl rfl (by decide) (Nat.le_of_ble_eq_true rfl) ?_
  refine z_if_eq ok dX1_reasonAgainst_4 9 (by decide) (fun c1 => ?_) (fun c1 => ?_)
  · rw [if_pos c1] at hT
    refine z_aload_n ok dX1_reasonAgainst_9 0 rfl ?_
    refine z_get_X1_board ok dX1_reasonAgainst_10 g h_g hN zw_88 ?_
    refine z_iload_n ok dX1_reasonAgainst_13 1 rfl ?_
    refine z_callVNi ok old dX1_reasonAgainst_14 [] (c_X0_hasPiece G N hN hg w g h_g f (by omega)) zy_X0_hasPiece zw_321 (6 + 6 * g) (zg_lt' hN h_g) (zE_board G w h_g) rfl rfl rfl rfl rfl (by decide) (Nat.le_of_ble_eq_true rfl) ?_
    refine z_if_ne ok dX1_reasonAgainst_17 22 (by decide) (fun c2 => ?_) (fun c2 => ?_)
    · rw [if_neg c2] at hT
      refine z_aload_n ok dX1_reasonAgainst_22 0 rfl ?_
      refine z_get_X1_board ok dX1_reasonAgainst_23 g h_g hN zw_88 ?_
      refine z_iload_n ok dX1_reasonAgainst_26 1 rfl ?_
      refine z_callVNi ok old dX1_reasonAgainst_27 [] (c_X0_sideOn G N hN hg w g h_g f (by omega)) zy_X0_sideOn zw_322 (6 + 6 * g) (zg_lt' hN h_g) (zE_board G w h_g) rfl rfl rfl rfl rfl (by decide) (Nat.le_of_ble_eq_true rfl) ?_
      refine z_aload_n ok dX1_reasonAgainst_30 0 rfl ?_
      refine z_get_X1_mover ok dX1_reasonAgainst_31 g h_g hN zw_94 ?_
      refine z_icmp_eq ok dX1_reasonAgainst_34 39 (by decide) (fun c3 => ?_) (fun c3 => ?_)
      · rw [if_pos c3] at hT
        refine z_aload_n ok dX1_reasonAgainst_39 0 rfl ?_
        refine z_get_X1_board ok dX1_reasonAgainst_40 g h_g hN zw_88 ?_
        refine z_iload_n ok dX1_reasonAgainst_43 2 rfl ?_
        refine z_callVNi ok old dX1_reasonAgainst_44 [] (c_X0_sideOn G N hN hg w g h_g t (by omega)) zy_X0_sideOn zw_322 (6 + 6 * g) (zg_lt' hN h_g) (zE_board G w h_g) rfl rfl rfl rfl rfl (by decide) (Nat.le_of_ble_eq_true rfl) ?_
        refine z_aload_n ok dX1_reasonAgainst_47 0 rfl ?_
        refine z_get_X1_mover ok dX1_reasonAgainst_48 g h_g hN zw_94 ?_
        refine z_icmp_ne ok dX1_reasonAgainst_51 56 (by decide) (fun c4 => ?_) (fun c4 => ?_)
        · rw [if_neg c4] at hT
          refine z_aload_n ok dX1_reasonAgainst_56 0 rfl ?_
          refine z_get_X1_board ok dX1_reasonAgainst_57 g h_g hN zw_88 ?_
          refine z_iload_n ok dX1_reasonAgainst_60 1 rfl ?_
          refine z_iload_n ok dX1_reasonAgainst_61 2 rfl ?_
          refine z_callVNi ok old dX1_reasonAgainst_62 [] (c_X0_price G N hN hg w g h_g f (by omega) t (by omega)) zy_X0_price zw_323 (6 + 6 * g) (zg_lt' hN h_g) (zE_board G w h_g) rfl rfl rfl rfl rfl (by decide) (Nat.le_of_ble_eq_true rfl) ?_
          replace hT := zlet_open hT
          obtain ⟨x5, hx5, hT⟩ := hT
          rw [← hx5]
          refine z_istore_n ok dX1_reasonAgainst_65 (hI 3 (by decide)) (lv' := [(3, .int x5), (0, .ref (zad G (5 + 6 * g))), (1, .int (nI f)), (2, .int (nI t))]) rfl ?_
          refine z_iload_n ok dX1_reasonAgainst_66 0 rfl ?_
          refine z_if_ne ok dX1_reasonAgainst_67 73 (by decide) (fun c6 => ?_) (fun c6 => ?_)
          · rw [if_neg c6] at hT
            refine z_aload_n ok dX1_reasonAgainst_73 1 rfl ?_
            refine z_get_X1_board ok dX1_reasonAgainst_74 g h_g hN zw_88 ?_
            refine z_iload_n ok dX1_reasonAgainst_77 2 rfl ?_
            refine z_callVNi ok old dX1_reasonAgainst_78 [] (c_X0_springOn G N hN hg w g h_g f (by omega)) zy_X0_springOn zw_245 (6 + 6 * g) (zg_lt' hN h_g) (zE_board G w h_g) rfl rfl rfl rfl rfl (by decide) (Nat.le_of_ble_eq_true rfl) ?_
            refine z_iload_n ok dX1_reasonAgainst_81 0 rfl ?_
            refine z_icmp_ge ok dX1_reasonAgainst_82 90 (by decide) (fun c7 => ?_) (fun c7 => ?_)
            · rw [if_pos c7] at hT
              refine z_iconst ok dX1_reasonAgainst_90 (x := 0) (by decide) ?_
              exact z_iret ok hE dX1_reasonAgainst_91 rfl ⟨hT, rfl⟩
            · rw [if_neg c7] at hT
              refine z_bipush ok dX1_reasonAgainst_85 (x := 7) (by decide) ?_
              refine z_goto ok dX1_reasonAgainst_87 91 (by decide) ?_
              exact z_iret ok hE dX1_reasonAgainst_91 rfl ⟨hT, rfl⟩
          · rw [if_pos c6] at hT
            refine z_bipush ok dX1_reasonAgainst_70 (x := 6) (by decide) ?_
            exact z_iret ok hE dX1_reasonAgainst_72 rfl ⟨hT, rfl⟩
        · rw [if_pos c4] at hT
          refine z_iconst ok dX1_reasonAgainst_54 (x := 5) (by decide) ?_
          exact z_iret ok hE dX1_reasonAgainst_55 rfl ⟨hT, rfl⟩
      · rw [if_neg c3] at hT
        refine z_iconst ok dX1_reasonAgainst_37 (x := 4) (by decide) ?_
        exact z_iret ok hE dX1_reasonAgainst_38 rfl ⟨hT, rfl⟩
    · rw [if_pos c2] at hT
      refine z_iconst ok dX1_reasonAgainst_20 (x := 3) (by decide) ?_
      exact z_iret ok hE dX1_reasonAgainst_21 rfl ⟨hT, rfl⟩
  · rw [if_neg c1] at hT
    refine z_iconst ok dX1_reasonAgainst_7 (x := 2) (by decide) ?_
    exact z_iret ok hE dX1_reasonAgainst_8 rfl ⟨hT, rfl⟩

def d_X1_reasonAgainstPass (w : xW) (g : Nat) : Int32 :=
  if (d_X1_isOver w g) = 0 then (if (d_X0_movesOf w g (xg w g 144)) ≤ 0 then (0)
  else (8))
  else (2)
set_option maxRecDepth 100000 in
set_option maxHeartbeats 4000000 in
theorem c_X1_reasonAgainstPass (G : zG) (N : Nat) (hN : 47 ≤ N) (hg : zGeo G N) (w : xW) (g : Nat) (h_g : g < 7) : zM yX1_reasonAgainstPass cX1_reasonAgainstPass 1 (some .int) 5 124 G N [.ref (zad G (5 + 6 * g))] w (some (d_X1_reasonAgainstPass w g)) w := by
  generalize hT : d_X1_reasonAgainstPass w g = r
  unfold d_X1_reasonAgainstPass at hT
  refine zM_of zy_X1_reasonAgainstPass.2.2.2.2.2.2.2 hg ⟨Nat.le_of_ble_eq_true rfl, by decide⟩ rfl (fun k ok hE hI => ?_)
  have old := hE.old
  refine z_aload_n ok dX1_reasonAgainstPass_0 0 rfl ?_
  refine z_callVi ok old dX1_reasonAgainstPass_1 [] (c_X1_isOver G N hN hg w g h_g) zy_X1_isOver zw_320 (5 + 6 * g) (zg_lt hN h_g) (zE_game G w h_g) rfl rfl rfl rfl rfl (by decide) (Nat.le_of_ble_eq_true rfl) ?_
  refine z_if_eq ok dX1_reasonAgainstPass_4 9 (by decide) (fun c1 => ?_) (fun c1 => ?_)
  · rw [if_pos c1] at hT
    refine z_aload_n ok dX1_reasonAgainstPass_9 0 rfl ?_
    refine z_get_X1_board ok dX1_reasonAgainstPass_10 g h_g hN zw_88 ?_
    refine z_aload_n ok dX1_reasonAgainstPass_13 0 rfl ?_
    refine z_get_X1_mover ok dX1_reasonAgainstPass_14 g h_g hN zw_94 ?_
    refine z_callVNi ok old dX1_reasonAgainstPass_17 [] (c_X0_movesOf G N hN hg w g h_g (xg w g 144)) zy_X0_movesOf zw_373 (6 + 6 * g) (zg_lt' hN h_g) (zE_board G w h_g) rfl rfl rfl rfl rfl (by decide) (Nat.le_of_ble_eq_true rfl) ?_
    refine z_if_le ok dX1_reasonAgainstPass_20 28 (by decide) (fun c2 => ?_) (fun c2 => ?_)
    · rw [if_pos c2] at hT
      refine z_iconst ok dX1_reasonAgainstPass_28 (x := 0) (by decide) ?_
      exact z_iret ok hE dX1_reasonAgainstPass_29 rfl ⟨hT, rfl⟩
    · rw [if_neg c2] at hT
      refine z_bipush ok dX1_reasonAgainstPass_23 (x := 8) (by decide) ?_
      refine z_goto ok dX1_reasonAgainstPass_25 29 (by decide) ?_
      exact z_iret ok hE dX1_reasonAgainstPass_29 rfl ⟨hT, rfl⟩
  · rw [if_neg c1] at hT
    refine z_iconst ok dX1_reasonAgainstPass_7 (x := 2) (by decide) ?_
    exact z_iret ok hE dX1_reasonAgainstPass_8 rfl ⟨hT, rfl⟩

def d_X1_springBehindTaking (w : xW) (g : Nat) (spring : Int32) (taken : Int32) : Int32 × xW :=
  zlet ((taken / 2)) fun x1 =>
  zlet (((spring + x1) + (xg w g 150))) fun x2 =>
  zlet ((if (xg w g 149) < x2 then (xg w g 149) else x2)) fun x3 =>
  zlet (xs w g 154 ((xg w g 154) + (xg w g 150))) fun w4 =>
  zlet (xs w4 g 156 ((xg w4 g 156) + (((taken - x1) + x2) - x3))) fun w5 =>
  (x3, w5)
set_option maxRecDepth 100000 in
set_option maxHeartbeats 4000000 in
theorem c_X1_springBehindTaking (G : zG) (N : Nat) (hN : 47 ≤ N) (hg : zGeo G N) (w : xW) (g : Nat) (h_g : g < 7) (spring : Int32) (taken : Int32) : zM yX1_springBehindTaking cX1_springBehindTaking 6 (some .int) 1 13 G N [.ref (zad G (5 + 6 * g)), .int spring, .int taken] w (some (d_X1_springBehindTaking w g spring taken).1) (d_X1_springBehindTaking w g spring taken).2 := by
  obtain ⟨r, u, hT⟩ := zpair (d_X1_springBehindTaking w g spring taken)
  rw [hT]
  dsimp only
  unfold d_X1_springBehindTaking at hT
  refine zM_of zy_X1_springBehindTaking.2.2.2.2.2.2.2 hg ⟨Nat.le_of_ble_eq_true rfl, by decide⟩ rfl (fun k ok hE hI => ?_)
  have old := hE.old
  refine z_iload_n ok dX1_springBehindTaking_0 2 rfl ?_
  refine z_iconst ok dX1_springBehindTaking_1 (x := 2) (by decide) ?_
  refine z_idiv ok dX1_springBehindTaking_2 (by decide) ?_
  replace hT := zlet_open hT
  obtain ⟨x1, hx1, hT⟩ := hT
  rw [← hx1]
  refine z_istore_n ok dX1_springBehindTaking_3 (hI 3 (by decide)) (lv' := [(3, .int x1), (0, .ref (zad G (5 + 6 * g))), (1, .int spring), (2, .int taken)]) rfl ?_
  refine z_iload_n ok dX1_springBehindTaking_4 2 rfl ?_
  refine z_iload_n ok dX1_springBehindTaking_5 0 rfl ?_
  refine z_iadd ok dX1_springBehindTaking_6 ?_
  refine z_aload_n ok dX1_springBehindTaking_7 1 rfl ?_
  refine z_get_X1_bonus ok dX1_springBehindTaking_8 g h_g hN zw_92 ?_
  refine z_iadd ok dX1_springBehindTaking_11 ?_
  replace hT := zlet_open hT
  obtain ⟨x2, hx2, hT⟩ := hT
  rw [← hx2]
  refine z_istore ok dX1_springBehindTaking_12 (hI 4 (by decide)) (lv' := [(4, .int x2), (3, .int x1), (0, .ref (zad G (5 + 6 * g))), (1, .int spring), (2, .int taken)]) rfl ?_
  refine z_iload ok dX1_springBehindTaking_14 0 rfl ?_
  refine z_aload_n ok dX1_springBehindTaking_16 2 rfl ?_
  refine z_get_X1_limit ok dX1_springBehindTaking_17 g h_g hN zw_90 ?_
  refine z_min ok dX1_springBehindTaking_20 zw_357 zw_358 zw_52 zw_359 ⟨by decide, Nat.le_of_ble_eq_true rfl⟩ ?_
  replace hT := zlet_open hT
  obtain ⟨x3, hx3, hT⟩ := hT
  rw [← hx3]
  refine z_istore ok dX1_springBehindTaking_23 (hI 5 (by decide)) (lv' := [(5, .int x3), (4, .int x2), (3, .int x1), (0, .ref (zad G (5 + 6 * g))), (1, .int spring), (2, .int taken)]) rfl ?_
  refine z_aload_n ok dX1_springBehindTaking_25 3 rfl ?_
  refine z_dup ok dX1_springBehindTaking_26 rfl ?_
  refine z_get_X1_gainedByBonus ok dX1_springBehindTaking_27 g h_g hN zw_105 ?_
  refine z_aload_n ok dX1_springBehindTaking_30 3 rfl ?_
  refine z_get_X1_bonus ok dX1_springBehindTaking_31 g h_g hN zw_92 ?_
  refine z_iadd ok dX1_springBehindTaking_34 ?_
  refine z_put_X1_gainedByBonus ok dX1_springBehindTaking_35 g h_g hN zw_105 ?_
  replace hT := zlet_open hT
  obtain ⟨w4, hw4, hT⟩ := hT
  rw [← hw4]
  refine z_aload_n ok dX1_springBehindTaking_38 3 rfl ?_
  refine z_dup ok dX1_springBehindTaking_39 rfl ?_
  refine z_get_X1_lost ok dX1_springBehindTaking_40 g h_g hN zw_107 ?_
  refine z_iload_n ok dX1_springBehindTaking_43 5 rfl ?_
  refine z_iload_n ok dX1_springBehindTaking_44 2 rfl ?_
  refine z_isub ok dX1_springBehindTaking_45 ?_
  refine z_iload ok dX1_springBehindTaking_46 1 rfl ?_
  refine z_iadd ok dX1_springBehindTaking_48 ?_
  refine z_iload ok dX1_springBehindTaking_49 0 rfl ?_
  refine z_isub ok dX1_springBehindTaking_51 ?_
  refine z_iadd ok dX1_springBehindTaking_52 ?_
  refine z_put_X1_lost ok dX1_springBehindTaking_53 g h_g hN zw_107 ?_
  replace hT := zlet_open hT
  obtain ⟨w5, hw5, hT⟩ := hT
  rw [← hw5]
  refine z_iload ok dX1_springBehindTaking_56 0 rfl ?_
  exact z_iret ok hE dX1_springBehindTaking_58 rfl ⟨congrArg Prod.fst hT, congrArg Prod.snd hT⟩

def d_X1_beginTurn_7k  (e2_2 : Nat) (ew2 : xW) : xW :=
  ew2
def d_X1_beginTurn_7 (g : Nat) (side : Int32) (kt2 : Nat → xW → xW) : Nat → Nat → xW → xW
  | 0, _, _ => default
  | n2 + 1, v2_2, vw2 => if 36 ≤ v2_2 then (kt2 v2_2 vw2)
  else (if (d_X0_sideOn vw2 g v2_2) = side then (if (d_X0_isTower vw2 g v2_2) = 0 then (d_X1_beginTurn_7 g side kt2 n2 (v2_2 + 1) vw2)
  else (zlet ((if ((xg vw2 g 149) - (d_X0_springOn vw2 g v2_2)) < (xg vw2 g 151) then ((xg vw2 g 149) - (d_X0_springOn vw2 g v2_2)) else (xg vw2 g 151))) fun x6 =>
  zlet (d_X0_changeSpring vw2 g v2_2 ((d_X0_springOn vw2 g v2_2) + x6)) fun w7 =>
  zlet (xs w7 g 153 ((xg w7 g 153) + x6)) fun w8 =>
  d_X1_beginTurn_7 g side kt2 n2 (v2_2 + 1) w8))
  else (d_X1_beginTurn_7 g side kt2 n2 (v2_2 + 1) vw2))
def d_X1_beginTurn (w : xW) (g : Nat) (side : Int32) : xW :=
  zlet (xs w g 144 side) fun w1 =>
  d_X1_beginTurn_7 g side d_X1_beginTurn_7k 37 0 w1
set_option maxRecDepth 100000 in
set_option maxHeartbeats 4000000 in
theorem c_X1_beginTurn (G : zG) (N : Nat) (hN : 47 ≤ N) (hg : zGeo G N) (w : xW) (g : Nat) (h_g : g < 7) (side : Int32) : zM yX1_beginTurn cX1_beginTurn 4 none 2 42 G N [.ref (zad G (5 + 6 * g)), .int side] w none (d_X1_beginTurn w g side) := by
  generalize hT : d_X1_beginTurn w g side = u
  unfold d_X1_beginTurn at hT
  refine zM_of zy_X1_beginTurn.2.2.2.2.2.2.2 hg ⟨Nat.le_of_ble_eq_true rfl, by decide⟩ rfl (fun k ok hE hI => ?_)
  have old := hE.old
  refine z_aload_n ok dX1_beginTurn_0 0 rfl ?_
  refine z_iload_n ok dX1_beginTurn_1 1 rfl ?_
  refine z_put_X1_mover ok dX1_beginTurn_2 g h_g hN zw_94 ?_
  replace hT := zlet_open hT
  obtain ⟨w1, hw1, hT⟩ := hT
  rw [← hw1]
  refine z_iconst ok dX1_beginTurn_5 (x := 0) (by decide) ?_
  refine z_istore_n ok dX1_beginTurn_6 (hI 2 (by decide)) (lv' := [(2, .int 0), (0, .ref (zad G (5 + 6 * g))), (1, .int side)]) rfl ?_
  refine z_locs [1, 2, 0] (lv' := [(0, .ref (zad G (5 + 6 * g))), (1, .int side), (2, .int 0)]) rfl ?_
  obtain ⟨kt2, hkt2⟩ : ∃ z, z = d_X1_beginTurn_7k := ⟨_, rfl⟩
  rw [← hkt2] at hT
  have hk2 : ∀ (e2_2 : Nat) (ew2 : xW), e2_2 ≤ 36 → kt2 e2_2 ew2 = u → zZ k G N ew2 91 [(0, .ref (zad G (5 + 6 * g))), (1, .int side), (2, .int (nI e2_2))] [] := by
    intro e2_2 ew2 q2_0 hT2
    rw [hkt2, d_X1_beginTurn_7k] at hT2
    exact z_vret ok hE dX1_beginTurn_91 hT2
  have hl2 : ∀ (n2 : Nat) (v2_2 : Nat) (vw2 : xW), 36 < v2_2 + n2 → v2_2 ≤ 36 → d_X1_beginTurn_7 g side kt2 n2 v2_2 vw2 = u → zZ k G N vw2 7 [(0, .ref (zad G (5 + 6 * g))), (1, .int side), (2, .int (nI v2_2))] [] := by
    intro n2
    induction n2 with
    | zero =>
      intro v2_2 vw2 q2_0 q2_1
      exact absurd q2_0 (by omega)
    | succ n2 ih2 =>
      intro v2_2 vw2 q2_0 q2_1 hT2
      rw [d_X1_beginTurn_7] at hT2
      refine z_iload_n ok dX1_beginTurn_7 2 rfl ?_
      refine z_bipush ok dX1_beginTurn_8 (x := 36) (by decide) ?_
      refine z_icmp_ge_n ok dX1_beginTurn_10 91 (by decide) v2_2 36 rfl rfl (by omega) (fun c3 => ?_) (fun c3 => ?_)
      · rw [if_pos c3] at hT2
        refine z_locs [0, 1, 2] (lv' := [(0, .ref (zad G (5 + 6 * g))), (1, .int side), (2, .int (nI v2_2))]) rfl ?_
        exact hk2 v2_2 vw2 (by omega) hT2
      · rw [if_neg c3] at hT2
        refine z_aload_n ok dX1_beginTurn_13 0 rfl ?_
        refine z_get_X1_board ok dX1_beginTurn_14 g h_g hN zw_88 ?_
        refine z_iload_n ok dX1_beginTurn_17 2 rfl ?_
        refine z_callVNi ok old dX1_beginTurn_18 [] (c_X0_sideOn G N hN hg vw2 g h_g v2_2 (by omega)) zy_X0_sideOn zw_322 (6 + 6 * g) (zg_lt' hN h_g) (zE_board G vw2 h_g) rfl rfl rfl rfl rfl (by decide) (Nat.le_of_ble_eq_true rfl) ?_
        refine z_iload_n ok dX1_beginTurn_21 1 rfl ?_
        refine z_icmp_ne ok dX1_beginTurn_22 85 (by decide) (fun c4 => ?_) (fun c4 => ?_)
        · rw [if_neg c4] at hT2
          refine z_iinc ok dX1_beginTurn_85 (hI 2 (by decide)) 2 rfl (y := (nI (v2_2 + 1))) (z_incn v2_2 1) (lv' := [(2, .int (nI (v2_2 + 1))), (0, .ref (zad G (5 + 6 * g))), (1, .int side)]) rfl ?_
          refine z_goto ok dX1_beginTurn_88 7 (by decide) ?_
          refine z_locs [1, 2, 0] (lv' := [(0, .ref (zad G (5 + 6 * g))), (1, .int side), (2, .int (nI (v2_2 + 1)))]) rfl ?_
          exact ih2 (v2_2 + 1) vw2 (by omega) (by omega) hT2
        · rw [if_pos c4] at hT2
          refine z_aload_n ok dX1_beginTurn_25 0 rfl ?_
          refine z_get_X1_board ok dX1_beginTurn_26 g h_g hN zw_88 ?_
          refine z_iload_n ok dX1_beginTurn_29 2 rfl ?_
          refine z_callVNi ok old dX1_beginTurn_30 [] (c_X0_isTower G N hN hg vw2 g h_g v2_2 (by omega)) zy_X0_isTower zw_364 (6 + 6 * g) (zg_lt' hN h_g) (zE_board G vw2 h_g) rfl rfl rfl rfl rfl (by decide) (Nat.le_of_ble_eq_true rfl) ?_
          refine z_if_eq ok dX1_beginTurn_33 85 (by decide) (fun c5 => ?_) (fun c5 => ?_)
          · rw [if_pos c5] at hT2
            refine z_iinc ok dX1_beginTurn_85 (hI 2 (by decide)) 2 rfl (y := (nI (v2_2 + 1))) (z_incn v2_2 1) (lv' := [(2, .int (nI (v2_2 + 1))), (0, .ref (zad G (5 + 6 * g))), (1, .int side)]) rfl ?_
            refine z_goto ok dX1_beginTurn_88 7 (by decide) ?_
            refine z_locs [1, 2, 0] (lv' := [(0, .ref (zad G (5 + 6 * g))), (1, .int side), (2, .int (nI (v2_2 + 1)))]) rfl ?_
            exact ih2 (v2_2 + 1) vw2 (by omega) (by omega) hT2
          · rw [if_neg c5] at hT2
            refine z_aload_n ok dX1_beginTurn_36 0 rfl ?_
            refine z_get_X1_winding ok dX1_beginTurn_37 g h_g hN zw_93 ?_
            refine z_aload_n ok dX1_beginTurn_40 0 rfl ?_
            refine z_get_X1_limit ok dX1_beginTurn_41 g h_g hN zw_90 ?_
            refine z_aload_n ok dX1_beginTurn_44 0 rfl ?_
            refine z_get_X1_board ok dX1_beginTurn_45 g h_g hN zw_88 ?_
            refine z_iload_n ok dX1_beginTurn_48 2 rfl ?_
            refine z_callVNi ok old dX1_beginTurn_49 [.int (xg vw2 g 149), .int (xg vw2 g 151)] (c_X0_springOn G N hN hg vw2 g h_g v2_2 (by omega)) zy_X0_springOn zw_245 (6 + 6 * g) (zg_lt' hN h_g) (zE_board G vw2 h_g) rfl rfl rfl rfl rfl (by decide) (Nat.le_of_ble_eq_true rfl) ?_
            refine z_isub ok dX1_beginTurn_52 ?_
            refine z_min ok dX1_beginTurn_53 zw_357 zw_358 zw_52 zw_359 ⟨by decide, Nat.le_of_ble_eq_true rfl⟩ ?_
            replace hT2 := zlet_open hT2
            obtain ⟨x6, hx6, hT2⟩ := hT2
            rw [← hx6]
            refine z_istore_n ok dX1_beginTurn_56 (hI 3 (by decide)) (lv' := [(3, .int x6), (0, .ref (zad G (5 + 6 * g))), (1, .int side), (2, .int (nI v2_2))]) rfl ?_
            refine z_aload_n ok dX1_beginTurn_57 1 rfl ?_
            refine z_get_X1_board ok dX1_beginTurn_58 g h_g hN zw_88 ?_
            refine z_iload_n ok dX1_beginTurn_61 3 rfl ?_
            refine z_aload_n ok dX1_beginTurn_62 1 rfl ?_
            refine z_get_X1_board ok dX1_beginTurn_63 g h_g hN zw_88 ?_
            refine z_iload_n ok dX1_beginTurn_66 3 rfl ?_
            refine z_callVNi ok old dX1_beginTurn_67 [.int (nI v2_2), .ref (zad G (6 + 6 * g))] (c_X0_springOn G N hN hg vw2 g h_g v2_2 (by omega)) zy_X0_springOn zw_245 (6 + 6 * g) (zg_lt' hN h_g) (zE_board G vw2 h_g) rfl rfl rfl rfl rfl (by decide) (Nat.le_of_ble_eq_true rfl) ?_
            refine z_iload_n ok dX1_beginTurn_70 0 rfl ?_
            refine z_iadd ok dX1_beginTurn_71 ?_
            refine z_callVNv ok old dX1_beginTurn_72 [] (c_X0_changeSpring G N hN hg vw2 g h_g v2_2 (by omega) ((d_X0_springOn vw2 g v2_2) + x6)) zy_X0_changeSpring zw_249 (6 + 6 * g) (zg_lt' hN h_g) (zE_board G vw2 h_g) rfl rfl rfl rfl rfl (by decide) (Nat.le_of_ble_eq_true rfl) ?_
            replace hT2 := zlet_open hT2
            obtain ⟨w7, hw7, hT2⟩ := hT2
            rw [← hw7]
            refine z_aload_n ok dX1_beginTurn_75 1 rfl ?_
            refine z_dup ok dX1_beginTurn_76 rfl ?_
            refine z_get_X1_wound ok dX1_beginTurn_77 g h_g hN zw_104 ?_
            refine z_iload_n ok dX1_beginTurn_80 0 rfl ?_
            refine z_iadd ok dX1_beginTurn_81 ?_
            refine z_put_X1_wound ok dX1_beginTurn_82 g h_g hN zw_104 ?_
            replace hT2 := zlet_open hT2
            obtain ⟨w8, hw8, hT2⟩ := hT2
            rw [← hw8]
            refine z_iinc ok dX1_beginTurn_85 (hI 2 (by decide)) 3 rfl (y := (nI (v2_2 + 1))) (z_incn v2_2 1) (lv' := [(2, .int (nI (v2_2 + 1))), (3, .int x6), (0, .ref (zad G (5 + 6 * g))), (1, .int side)]) rfl ?_
            refine z_goto ok dX1_beginTurn_88 7 (by decide) ?_
            refine z_locs [2, 3, 0] (lv' := [(0, .ref (zad G (5 + 6 * g))), (1, .int side), (2, .int (nI (v2_2 + 1)))]) rfl ?_
            exact ih2 (v2_2 + 1) w8 (by omega) (by omega) hT2
  exact hl2 37 0 w1 (by omega) (by omega) hT

def d_X1_carryOut (w : xW) (g : Nat) (f : Nat) (t : Nat) : Int32 × xW :=
  zlet ((d_X0_price w g f t)) fun x1 =>
  zlet ((d_X0_kindOn w g f)) fun x2 =>
  zlet (((d_X0_springOn w g f) - x1)) fun x3 =>
  zlet (if (d_X0_hasPiece w g t) = 0 then ((x3, w))
  else (zlet (d_X1_springBehindTaking w g x3 (d_X0_springOn w g t)) fun p18 =>
  zlet (if (d_X0_kindOn p18.2 g t) = 0 then (zlet (xs p18.2 g 145 1) fun w21 =>
  zlet (xs w21 g 146 (xg w21 g 144)) fun w22 =>
  w22)
  else (p18.2) : xW) fun w19 =>
  (p18.1, w19)) : Int32 × xW) fun p4 =>
  zlet (if (xg p4.2 g 144) = 0 then (5)
  else (0) : Int32) fun x5 =>
  zlet (if x2 = 4 then (if (nI (t / 6)) = x5 then (1)
  else (0))
  else (0) : Int32) fun x6 =>
  zlet (if x6 = 0 then (x2)
  else (1) : Int32) fun x7 =>
  zlet (d_X0_place p4.2 g t (xg p4.2 g 144) x7 p4.1) fun w8 =>
  zlet (d_X0_empty w8 g f) fun w9 =>
  zlet (xs w9 g 155 ((xg w9 g 155) + x1)) fun w10 =>
  zlet (xs w10 g 147 ((xg w10 g 147) + 1)) fun w11 =>
  zlet (xs w11 g 148 0) fun w12 =>
  (x1, w12)
set_option maxRecDepth 100000 in
set_option maxHeartbeats 4000000 in
theorem c_X1_carryOut (G : zG) (N : Nat) (hN : 47 ≤ N) (hg : zGeo G N) (w : xW) (g : Nat) (h_g : g < 7) (f : Nat) (h_f : f < 36) (t : Nat) (h_t : t < 36) : zM yX1_carryOut cX1_carryOut 8 (some .int) 3 77 G N [.ref (zad G (5 + 6 * g)), .int (nI f), .int (nI t)] w (some (d_X1_carryOut w g f t).1) (d_X1_carryOut w g f t).2 := by
  obtain ⟨r, u, hT⟩ := zpair (d_X1_carryOut w g f t)
  rw [hT]
  dsimp only
  unfold d_X1_carryOut at hT
  refine zM_of zy_X1_carryOut.2.2.2.2.2.2.2 hg ⟨Nat.le_of_ble_eq_true rfl, by decide⟩ rfl (fun k ok hE hI => ?_)
  have old := hE.old
  refine z_aload_n ok dX1_carryOut_0 0 rfl ?_
  refine z_get_X1_board ok dX1_carryOut_1 g h_g hN zw_88 ?_
  refine z_iload_n ok dX1_carryOut_4 1 rfl ?_
  refine z_iload_n ok dX1_carryOut_5 2 rfl ?_
  refine z_callVNi ok old dX1_carryOut_6 [] (c_X0_price G N hN hg w g h_g f (by omega) t (by omega)) zy_X0_price zw_323 (6 + 6 * g) (zg_lt' hN h_g) (zE_board G w h_g) rfl rfl rfl rfl rfl (by decide) (Nat.le_of_ble_eq_true rfl) ?_
  replace hT := zlet_open hT
  obtain ⟨x1, hx1, hT⟩ := hT
  rw [← hx1]
  refine z_istore_n ok dX1_carryOut_9 (hI 3 (by decide)) (lv' := [(3, .int x1), (0, .ref (zad G (5 + 6 * g))), (1, .int (nI f)), (2, .int (nI t))]) rfl ?_
  refine z_aload_n ok dX1_carryOut_10 1 rfl ?_
  refine z_get_X1_board ok dX1_carryOut_11 g h_g hN zw_88 ?_
  refine z_iload_n ok dX1_carryOut_14 2 rfl ?_
  refine z_callVNi ok old dX1_carryOut_15 [] (c_X0_kindOn G N hN hg w g h_g f (by omega)) zy_X0_kindOn zw_352 (6 + 6 * g) (zg_lt' hN h_g) (zE_board G w h_g) rfl rfl rfl rfl rfl (by decide) (Nat.le_of_ble_eq_true rfl) ?_
  replace hT := zlet_open hT
  obtain ⟨x2, hx2, hT⟩ := hT
  rw [← hx2]
  refine z_istore ok dX1_carryOut_18 (hI 4 (by decide)) (lv' := [(4, .int x2), (3, .int x1), (0, .ref (zad G (5 + 6 * g))), (1, .int (nI f)), (2, .int (nI t))]) rfl ?_
  refine z_aload_n ok dX1_carryOut_20 2 rfl ?_
  refine z_get_X1_board ok dX1_carryOut_21 g h_g hN zw_88 ?_
  refine z_iload_n ok dX1_carryOut_24 3 rfl ?_
  refine z_callVNi ok old dX1_carryOut_25 [] (c_X0_springOn G N hN hg w g h_g f (by omega)) zy_X0_springOn zw_245 (6 + 6 * g) (zg_lt' hN h_g) (zE_board G w h_g) rfl rfl rfl rfl rfl (by decide) (Nat.le_of_ble_eq_true rfl) ?_
  refine z_iload_n ok dX1_carryOut_28 1 rfl ?_
  refine z_isub ok dX1_carryOut_29 ?_
  replace hT := zlet_open hT
  obtain ⟨x3, hx3, hT⟩ := hT
  rw [← hx3]
  refine z_istore ok dX1_carryOut_30 (hI 5 (by decide)) (lv' := [(5, .int x3), (4, .int x2), (3, .int x1), (0, .ref (zad G (5 + 6 * g))), (1, .int (nI f)), (2, .int (nI t))]) rfl ?_
  refine z_aload_n ok dX1_carryOut_32 3 rfl ?_
  refine z_get_X1_board ok dX1_carryOut_33 g h_g hN zw_88 ?_
  refine z_iload_n ok dX1_carryOut_36 5 rfl ?_
  refine z_callVNi ok old dX1_carryOut_37 [] (c_X0_hasPiece G N hN hg w g h_g t (by omega)) zy_X0_hasPiece zw_321 (6 + 6 * g) (zg_lt' hN h_g) (zE_board G w h_g) rfl rfl rfl rfl rfl (by decide) (Nat.le_of_ble_eq_true rfl) ?_
  replace hT := zlet_open hT
  obtain ⟨p4, hp4, hT⟩ := hT
  have hsp4 := hp4.symm
  have hJp4 : zZ k G N p4.2 83 [(0, .ref (zad G (5 + 6 * g))), (1, .int (nI f)), (2, .int (nI t)), (3, .int x1), (4, .int x2), (5, .int p4.1)] [] := by
    refine z_aload_n ok dX1_carryOut_83 0 rfl ?_
    refine z_get_X1_mover ok dX1_carryOut_84 g h_g hN zw_94 ?_
    replace hT := zlet_open hT
    obtain ⟨x5, hx5, hT⟩ := hT
    have hsx5 := hx5.symm
    have hJx5 : zZ k G N p4.2 95 [(0, .ref (zad G (5 + 6 * g))), (1, .int (nI f)), (2, .int (nI t)), (3, .int x1), (4, .int x2), (5, .int p4.1)] [.int x5] := by
      refine z_istore ok dX1_carryOut_95 (hI 6 (by decide)) (lv' := [(6, .int x5), (0, .ref (zad G (5 + 6 * g))), (1, .int (nI f)), (2, .int (nI t)), (3, .int x1), (4, .int x2), (5, .int p4.1)]) rfl ?_
      refine z_iload ok dX1_carryOut_97 5 rfl ?_
      refine z_iconst ok dX1_carryOut_99 (x := 4) (by decide) ?_
      replace hT := zlet_open hT
      obtain ⟨x6, hx6, hT⟩ := hT
      have hsx6 := hx6.symm
      have hJx6 : zZ k G N p4.2 117 [(0, .ref (zad G (5 + 6 * g))), (1, .int (nI f)), (2, .int (nI t)), (3, .int x1), (4, .int x2), (5, .int p4.1), (6, .int x5)] [.int x6] := by
        refine z_istore ok dX1_carryOut_117 (hI 7 (by decide)) (lv' := [(7, .int x6), (0, .ref (zad G (5 + 6 * g))), (1, .int (nI f)), (2, .int (nI t)), (3, .int x1), (4, .int x2), (5, .int p4.1), (6, .int x5)]) rfl ?_
        refine z_aload_n ok dX1_carryOut_119 1 rfl ?_
        refine z_get_X1_board ok dX1_carryOut_120 g h_g hN zw_88 ?_
        refine z_iload_n ok dX1_carryOut_123 3 rfl ?_
        refine z_aload_n ok dX1_carryOut_124 1 rfl ?_
        refine z_get_X1_mover ok dX1_carryOut_125 g h_g hN zw_94 ?_
        refine z_iload ok dX1_carryOut_128 0 rfl ?_
        replace hT := zlet_open hT
        obtain ⟨x7, hx7, hT⟩ := hT
        have hsx7 := hx7.symm
        have hJx7 : zZ k G N p4.2 139 [(0, .ref (zad G (5 + 6 * g))), (1, .int (nI f)), (2, .int (nI t)), (3, .int x1), (4, .int x2), (5, .int p4.1), (6, .int x5), (7, .int x6)] [.int x7, .int (xg p4.2 g 144), .int (nI t), .ref (zad G (6 + 6 * g))] := by
          refine z_iload ok dX1_carryOut_139 5 rfl ?_
          refine z_callVNv ok old dX1_carryOut_141 [] (c_X0_place G N hN hg p4.2 g h_g t (by omega) (xg p4.2 g 144) x7 p4.1) zy_X0_place zw_278 (6 + 6 * g) (zg_lt' hN h_g) (zE_board G p4.2 h_g) rfl rfl rfl rfl rfl (by decide) (Nat.le_of_ble_eq_true rfl) ?_
          replace hT := zlet_open hT
          obtain ⟨w8, hw8, hT⟩ := hT
          rw [← hw8]
          refine z_aload_n ok dX1_carryOut_144 0 rfl ?_
          refine z_get_X1_board ok dX1_carryOut_145 g h_g hN zw_88 ?_
          refine z_iload_n ok dX1_carryOut_148 1 rfl ?_
          refine z_callVNv ok old dX1_carryOut_149 [] (c_X0_empty G N hN hg w8 g h_g f (by omega)) zy_X0_empty zw_277 (6 + 6 * g) (zg_lt' hN h_g) (zE_board G w8 h_g) rfl rfl rfl rfl rfl (by decide) (Nat.le_of_ble_eq_true rfl) ?_
          replace hT := zlet_open hT
          obtain ⟨w9, hw9, hT⟩ := hT
          rw [← hw9]
          refine z_aload_n ok dX1_carryOut_152 0 rfl ?_
          refine z_dup ok dX1_carryOut_153 rfl ?_
          refine z_get_X1_spent ok dX1_carryOut_154 g h_g hN zw_106 ?_
          refine z_iload_n ok dX1_carryOut_157 3 rfl ?_
          refine z_iadd ok dX1_carryOut_158 ?_
          refine z_put_X1_spent ok dX1_carryOut_159 g h_g hN zw_106 ?_
          replace hT := zlet_open hT
          obtain ⟨w10, hw10, hT⟩ := hT
          rw [← hw10]
          refine z_aload_n ok dX1_carryOut_162 0 rfl ?_
          refine z_dup ok dX1_carryOut_163 rfl ?_
          refine z_get_X1_turnsMade ok dX1_carryOut_164 g h_g hN zw_100 ?_
          refine z_iconst ok dX1_carryOut_167 (x := 1) (by decide) ?_
          refine z_iadd ok dX1_carryOut_168 ?_
          refine z_put_X1_turnsMade ok dX1_carryOut_169 g h_g hN zw_100 ?_
          replace hT := zlet_open hT
          obtain ⟨w11, hw11, hT⟩ := hT
          rw [← hw11]
          refine z_aload_n ok dX1_carryOut_172 0 rfl ?_
          refine z_iconst ok dX1_carryOut_173 (x := 0) (by decide) ?_
          refine z_put_X1_justPassed ok dX1_carryOut_174 g h_g hN (by decide) zw_102 ?_
          replace hT := zlet_open hT
          obtain ⟨w12, hw12, hT⟩ := hT
          rw [← hw12]
          refine z_iload_n ok dX1_carryOut_177 3 rfl ?_
          exact z_iret ok hE dX1_carryOut_178 rfl ⟨congrArg Prod.fst hT, congrArg Prod.snd hT⟩
        refine z_if_eq ok dX1_carryOut_130 137 (by decide) (fun c13 => ?_) (fun c13 => ?_)
        · rw [if_pos c13] at hsx7
          refine z_iload ok dX1_carryOut_137 5 rfl ?_
          rw [← hsx7] at hJx7
          refine z_locs [1, 2, 3, 4, 5, 6, 7, 0] (lv' := [(0, .ref (zad G (5 + 6 * g))), (1, .int (nI f)), (2, .int (nI t)), (3, .int x1), (4, .int x2), (5, .int p4.1), (6, .int x5), (7, .int x6)]) rfl ?_
          exact hJx7
        · rw [if_neg c13] at hsx7
          refine z_iconst ok dX1_carryOut_133 (x := 1) (by decide) ?_
          refine z_goto ok dX1_carryOut_134 139 (by decide) ?_
          rw [← hsx7] at hJx7
          refine z_locs [1, 2, 3, 4, 5, 6, 7, 0] (lv' := [(0, .ref (zad G (5 + 6 * g))), (1, .int (nI f)), (2, .int (nI t)), (3, .int x1), (4, .int x2), (5, .int p4.1), (6, .int x5), (7, .int x6)]) rfl ?_
          exact hJx7
      refine z_icmp_ne ok dX1_carryOut_100 116 (by decide) (fun c14 => ?_) (fun c14 => ?_)
      · rw [if_neg c14] at hsx6
        refine z_iconst ok dX1_carryOut_116 (x := 0) (by decide) ?_
        rw [← hsx6] at hJx6
        refine z_locs [1, 2, 3, 4, 5, 6, 0] (lv' := [(0, .ref (zad G (5 + 6 * g))), (1, .int (nI f)), (2, .int (nI t)), (3, .int x1), (4, .int x2), (5, .int p4.1), (6, .int x5)]) rfl ?_
        exact hJx6
      · rw [if_pos c14] at hsx6
        refine z_iload_n ok dX1_carryOut_103 3 rfl ?_
        refine z_bipush ok dX1_carryOut_104 (x := 6) (by decide) ?_
        refine z_idiv_n ok dX1_carryOut_106 t 6 rfl rfl (by omega) (by omega) (by omega) ?_
        refine z_iload ok dX1_carryOut_107 0 rfl ?_
        refine z_icmp_ne ok dX1_carryOut_109 116 (by decide) (fun c15 => ?_) (fun c15 => ?_)
        · rw [if_neg c15] at hsx6
          refine z_iconst ok dX1_carryOut_116 (x := 0) (by decide) ?_
          rw [← hsx6] at hJx6
          refine z_locs [1, 2, 3, 4, 5, 6, 0] (lv' := [(0, .ref (zad G (5 + 6 * g))), (1, .int (nI f)), (2, .int (nI t)), (3, .int x1), (4, .int x2), (5, .int p4.1), (6, .int x5)]) rfl ?_
          exact hJx6
        · rw [if_pos c15] at hsx6
          refine z_iconst ok dX1_carryOut_112 (x := 1) (by decide) ?_
          refine z_goto ok dX1_carryOut_113 117 (by decide) ?_
          rw [← hsx6] at hJx6
          refine z_locs [1, 2, 3, 4, 5, 6, 0] (lv' := [(0, .ref (zad G (5 + 6 * g))), (1, .int (nI f)), (2, .int (nI t)), (3, .int x1), (4, .int x2), (5, .int p4.1), (6, .int x5)]) rfl ?_
          exact hJx6
    refine z_if_ne ok dX1_carryOut_87 94 (by decide) (fun c16 => ?_) (fun c16 => ?_)
    · rw [if_neg c16] at hsx5
      refine z_iconst ok dX1_carryOut_94 (x := 0) (by decide) ?_
      rw [← hsx5] at hJx5
      refine z_locs [0, 1, 2, 3, 4, 5] (lv' := [(0, .ref (zad G (5 + 6 * g))), (1, .int (nI f)), (2, .int (nI t)), (3, .int x1), (4, .int x2), (5, .int p4.1)]) rfl ?_
      exact hJx5
    · rw [if_pos c16] at hsx5
      refine z_iconst ok dX1_carryOut_90 (x := 5) (by decide) ?_
      refine z_goto ok dX1_carryOut_91 95 (by decide) ?_
      rw [← hsx5] at hJx5
      refine z_locs [0, 1, 2, 3, 4, 5] (lv' := [(0, .ref (zad G (5 + 6 * g))), (1, .int (nI f)), (2, .int (nI t)), (3, .int x1), (4, .int x2), (5, .int p4.1)]) rfl ?_
      exact hJx5
  refine z_if_eq ok dX1_carryOut_40 83 (by decide) (fun c17 => ?_) (fun c17 => ?_)
  · rw [if_pos c17] at hsp4
    rw [← hsp4] at hJp4
    refine z_locs [3, 4, 5, 2, 1, 0] (lv' := [(0, .ref (zad G (5 + 6 * g))), (1, .int (nI f)), (2, .int (nI t)), (3, .int x1), (4, .int x2), (5, .int x3)]) rfl ?_
    exact hJp4
  · rw [if_neg c17] at hsp4
    refine z_aload_n ok dX1_carryOut_43 3 rfl ?_
    refine z_iload ok dX1_carryOut_44 0 rfl ?_
    refine z_aload_n ok dX1_carryOut_46 3 rfl ?_
    refine z_get_X1_board ok dX1_carryOut_47 g h_g hN zw_88 ?_
    refine z_iload_n ok dX1_carryOut_50 5 rfl ?_
    refine z_callVNi ok old dX1_carryOut_51 [.int x3, .ref (zad G (5 + 6 * g))] (c_X0_springOn G N hN hg w g h_g t (by omega)) zy_X0_springOn zw_245 (6 + 6 * g) (zg_lt' hN h_g) (zE_board G w h_g) rfl rfl rfl rfl rfl (by decide) (Nat.le_of_ble_eq_true rfl) ?_
    refine z_callVi ok old dX1_carryOut_54 [] (c_X1_springBehindTaking G N hN hg w g h_g x3 (d_X0_springOn w g t)) zy_X1_springBehindTaking zw_353 (5 + 6 * g) (zg_lt hN h_g) (zE_game G w h_g) rfl rfl rfl rfl rfl (by decide) (Nat.le_of_ble_eq_true rfl) ?_
    replace hsp4 := zlet_open hsp4
    obtain ⟨p18, hp18, hsp4⟩ := hsp4
    rw [← hp18]
    refine z_istore ok dX1_carryOut_57 (hI 5 (by decide)) (lv' := [(5, .int p18.1), (4, .int x2), (3, .int x1), (0, .ref (zad G (5 + 6 * g))), (1, .int (nI f)), (2, .int (nI t))]) rfl ?_
    refine z_aload_n ok dX1_carryOut_59 3 rfl ?_
    refine z_get_X1_board ok dX1_carryOut_60 g h_g hN zw_88 ?_
    refine z_iload_n ok dX1_carryOut_63 5 rfl ?_
    refine z_callVNi ok old dX1_carryOut_64 [] (c_X0_kindOn G N hN hg p18.2 g h_g t (by omega)) zy_X0_kindOn zw_352 (6 + 6 * g) (zg_lt' hN h_g) (zE_board G p18.2 h_g) rfl rfl rfl rfl rfl (by decide) (Nat.le_of_ble_eq_true rfl) ?_
    replace hsp4 := zlet_open hsp4
    obtain ⟨w19, hw19, hsp4⟩ := hsp4
    have hsw19 := hw19.symm
    have hJw19 : zZ k G N w19 83 [(0, .ref (zad G (5 + 6 * g))), (1, .int (nI f)), (2, .int (nI t)), (3, .int x1), (4, .int x2), (5, .int p18.1)] [] := by
      rw [← hsp4] at hJp4
      refine z_locs [0, 1, 2, 3, 4, 5] (lv' := [(0, .ref (zad G (5 + 6 * g))), (1, .int (nI f)), (2, .int (nI t)), (3, .int x1), (4, .int x2), (5, .int p18.1)]) rfl ?_
      exact hJp4
    refine z_if_ne ok dX1_carryOut_67 83 (by decide) (fun c20 => ?_) (fun c20 => ?_)
    · rw [if_neg c20] at hsw19
      rw [← hsw19] at hJw19
      refine z_locs [3, 4, 5, 2, 1, 0] (lv' := [(0, .ref (zad G (5 + 6 * g))), (1, .int (nI f)), (2, .int (nI t)), (3, .int x1), (4, .int x2), (5, .int p18.1)]) rfl ?_
      exact hJw19
    · rw [if_pos c20] at hsw19
      refine z_aload_n ok dX1_carryOut_70 3 rfl ?_
      refine z_iconst ok dX1_carryOut_71 (x := 1) (by decide) ?_
      refine z_put_X1_ending ok dX1_carryOut_72 g h_g hN zw_96 ?_
      replace hsw19 := zlet_open hsw19
      obtain ⟨w21, hw21, hsw19⟩ := hsw19
      rw [← hw21]
      refine z_aload_n ok dX1_carryOut_75 3 rfl ?_
      refine z_aload_n ok dX1_carryOut_76 3 rfl ?_
      refine z_get_X1_mover ok dX1_carryOut_77 g h_g hN zw_94 ?_
      refine z_put_X1_winner ok dX1_carryOut_80 g h_g hN zw_98 ?_
      replace hsw19 := zlet_open hsw19
      obtain ⟨w22, hw22, hsw19⟩ := hsw19
      rw [← hw22]
      rw [← hsw19] at hJw19
      refine z_locs [3, 4, 5, 2, 1, 0] (lv' := [(0, .ref (zad G (5 + 6 * g))), (1, .int (nI f)), (2, .int (nI t)), (3, .int x1), (4, .int x2), (5, .int p18.1)]) rfl ?_
      exact hJw19

def d_X1_makeMove (w : xW) (g : Nat) (f : Nat) (t : Nat) : Int32 × xW :=
  zlet (d_X1_carryOut w g f t) fun p1 =>
  if (d_X1_isOver p1.2 g) = 0 then (zlet (d_X1_beginTurn p1.2 g (1 - (xg p1.2 g 144))) fun w3 =>
  (p1.1, w3))
  else ((p1.1, p1.2))
set_option maxRecDepth 100000 in
set_option maxHeartbeats 4000000 in
theorem c_X1_makeMove (G : zG) (N : Nat) (hN : 47 ≤ N) (hg : zGeo G N) (w : xW) (g : Nat) (h_g : g < 7) (f : Nat) (h_f : f < 36) (t : Nat) (h_t : t < 36) : zM yX1_makeMove cX1_makeMove 4 (some .int) 4 104 G N [.ref (zad G (5 + 6 * g)), .int (nI f), .int (nI t)] w (some (d_X1_makeMove w g f t).1) (d_X1_makeMove w g f t).2 := by
  obtain ⟨r, u, hT⟩ := zpair (d_X1_makeMove w g f t)
  rw [hT]
  dsimp only
  unfold d_X1_makeMove at hT
  refine zM_of zy_X1_makeMove.2.2.2.2.2.2.2 hg ⟨Nat.le_of_ble_eq_true rfl, by decide⟩ rfl (fun k ok hE hI => ?_)
  have old := hE.old
  refine z_aload_n ok dX1_makeMove_0 0 rfl ?_
  refine z_iload_n ok dX1_makeMove_1 1 rfl ?_
  refine z_iload_n ok dX1_makeMove_2 2 rfl ?_
  refine z_callVi ok old dX1_makeMove_3 [] (c_X1_carryOut G N hN hg w g h_g f (by omega) t (by omega)) zy_X1_carryOut zw_348 (5 + 6 * g) (zg_lt hN h_g) (zE_game G w h_g) rfl rfl rfl rfl rfl (by decide) (Nat.le_of_ble_eq_true rfl) ?_
  replace hT := zlet_open hT
  obtain ⟨p1, hp1, hT⟩ := hT
  rw [← hp1]
  refine z_istore_n ok dX1_makeMove_6 (hI 3 (by decide)) (lv' := [(3, .int p1.1), (0, .ref (zad G (5 + 6 * g))), (1, .int (nI f)), (2, .int (nI t))]) rfl ?_
  refine z_aload_n ok dX1_makeMove_7 1 rfl ?_
  refine z_callVi ok old dX1_makeMove_8 [] (c_X1_isOver G N hN hg p1.2 g h_g) zy_X1_isOver zw_320 (5 + 6 * g) (zg_lt hN h_g) (zE_game G p1.2 h_g) rfl rfl rfl rfl rfl (by decide) (Nat.le_of_ble_eq_true rfl) ?_
  refine z_if_ne ok dX1_makeMove_11 24 (by decide) (fun c2 => ?_) (fun c2 => ?_)
  · rw [if_neg c2] at hT
    refine z_iload_n ok dX1_makeMove_24 0 rfl ?_
    exact z_iret ok hE dX1_makeMove_25 rfl ⟨congrArg Prod.fst hT, congrArg Prod.snd hT⟩
  · rw [if_pos c2] at hT
    refine z_aload_n ok dX1_makeMove_14 1 rfl ?_
    refine z_iconst ok dX1_makeMove_15 (x := 1) (by decide) ?_
    refine z_aload_n ok dX1_makeMove_16 1 rfl ?_
    refine z_get_X1_mover ok dX1_makeMove_17 g h_g hN zw_94 ?_
    refine z_isub ok dX1_makeMove_20 ?_
    refine z_callVv ok old dX1_makeMove_21 [] (c_X1_beginTurn G N hN hg p1.2 g h_g (1 - (xg p1.2 g 144))) zy_X1_beginTurn zw_360 (5 + 6 * g) (zg_lt hN h_g) (zE_game G p1.2 h_g) rfl rfl rfl rfl rfl (by decide) (Nat.le_of_ble_eq_true rfl) ?_
    replace hT := zlet_open hT
    obtain ⟨w3, hw3, hT⟩ := hT
    rw [← hw3]
    refine z_iload_n ok dX1_makeMove_24 0 rfl ?_
    exact z_iret ok hE dX1_makeMove_25 rfl ⟨congrArg Prod.fst hT, congrArg Prod.snd hT⟩

def d_X1_makePass (w : xW) (g : Nat) : xW :=
  zlet (xs w g 147 ((xg w g 147) + 1)) fun w1 =>
  if (zb (xg w1 g 148)) = 0 then (zlet (xs w1 g 148 1) fun w3 =>
  zlet (d_X1_beginTurn w3 g (1 - (xg w3 g 144))) fun w4 =>
  w4)
  else (zlet (xs w1 g 145 2) fun w5 =>
  zlet (((d_X0_springsOf w5 g 0) - (d_X0_springsOf w5 g 1))) fun x6 =>
  if x6 = 0 then (w5)
  else (if x6 ≤ 0 then (zlet (xs w5 g 146 1) fun w9 =>
  w9)
  else (zlet (xs w5 g 146 0) fun w10 =>
  w10)))
set_option maxRecDepth 100000 in
set_option maxHeartbeats 4000000 in
theorem c_X1_makePass (G : zG) (N : Nat) (hN : 47 ≤ N) (hg : zGeo G N) (w : xW) (g : Nat) (h_g : g < 7) : zM yX1_makePass cX1_makePass 2 none 3 65 G N [.ref (zad G (5 + 6 * g))] w none (d_X1_makePass w g) := by
  generalize hT : d_X1_makePass w g = u
  unfold d_X1_makePass at hT
  refine zM_of zy_X1_makePass.2.2.2.2.2.2.2 hg ⟨Nat.le_of_ble_eq_true rfl, by decide⟩ rfl (fun k ok hE hI => ?_)
  have old := hE.old
  refine z_aload_n ok dX1_makePass_0 0 rfl ?_
  refine z_dup ok dX1_makePass_1 rfl ?_
  refine z_get_X1_turnsMade ok dX1_makePass_2 g h_g hN zw_100 ?_
  refine z_iconst ok dX1_makePass_5 (x := 1) (by decide) ?_
  refine z_iadd ok dX1_makePass_6 ?_
  refine z_put_X1_turnsMade ok dX1_makePass_7 g h_g hN zw_100 ?_
  replace hT := zlet_open hT
  obtain ⟨w1, hw1, hT⟩ := hT
  rw [← hw1]
  refine z_aload_n ok dX1_makePass_10 0 rfl ?_
  refine z_get_X1_justPassed ok dX1_makePass_11 g h_g hN zw_102 ?_
  refine z_if_eq ok dX1_makePass_14 60 (by decide) (fun c2 => ?_) (fun c2 => ?_)
  · rw [if_pos c2] at hT
    refine z_aload_n ok dX1_makePass_60 0 rfl ?_
    refine z_iconst ok dX1_makePass_61 (x := 1) (by decide) ?_
    refine z_put_X1_justPassed ok dX1_makePass_62 g h_g hN (by decide) zw_102 ?_
    replace hT := zlet_open hT
    obtain ⟨w3, hw3, hT⟩ := hT
    rw [← hw3]
    refine z_aload_n ok dX1_makePass_65 0 rfl ?_
    refine z_iconst ok dX1_makePass_66 (x := 1) (by decide) ?_
    refine z_aload_n ok dX1_makePass_67 0 rfl ?_
    refine z_get_X1_mover ok dX1_makePass_68 g h_g hN zw_94 ?_
    refine z_isub ok dX1_makePass_71 ?_
    refine z_callVv ok old dX1_makePass_72 [] (c_X1_beginTurn G N hN hg w3 g h_g (1 - (xg w3 g 144))) zy_X1_beginTurn zw_360 (5 + 6 * g) (zg_lt hN h_g) (zE_game G w3 h_g) rfl rfl rfl rfl rfl (by decide) (Nat.le_of_ble_eq_true rfl) ?_
    replace hT := zlet_open hT
    obtain ⟨w4, hw4, hT⟩ := hT
    rw [← hw4]
    exact z_vret ok hE dX1_makePass_75 hT
  · rw [if_neg c2] at hT
    refine z_aload_n ok dX1_makePass_17 0 rfl ?_
    refine z_iconst ok dX1_makePass_18 (x := 2) (by decide) ?_
    refine z_put_X1_ending ok dX1_makePass_19 g h_g hN zw_96 ?_
    replace hT := zlet_open hT
    obtain ⟨w5, hw5, hT⟩ := hT
    rw [← hw5]
    refine z_aload_n ok dX1_makePass_22 0 rfl ?_
    refine z_get_X1_board ok dX1_makePass_23 g h_g hN zw_88 ?_
    refine z_iconst ok dX1_makePass_26 (x := 0) (by decide) ?_
    refine z_callVNi ok old dX1_makePass_27 [] (c_X0_springsOf G N hN hg w5 g h_g 0) zy_X0_springsOf zw_387 (6 + 6 * g) (zg_lt' hN h_g) (zE_board G w5 h_g) rfl rfl rfl rfl rfl (by decide) (Nat.le_of_ble_eq_true rfl) ?_
    refine z_aload_n ok dX1_makePass_30 0 rfl ?_
    refine z_get_X1_board ok dX1_makePass_31 g h_g hN zw_88 ?_
    refine z_iconst ok dX1_makePass_34 (x := 1) (by decide) ?_
    refine z_callVNi ok old dX1_makePass_35 [.int (d_X0_springsOf w5 g 0)] (c_X0_springsOf G N hN hg w5 g h_g 1) zy_X0_springsOf zw_387 (6 + 6 * g) (zg_lt' hN h_g) (zE_board G w5 h_g) rfl rfl rfl rfl rfl (by decide) (Nat.le_of_ble_eq_true rfl) ?_
    refine z_isub ok dX1_makePass_38 ?_
    replace hT := zlet_open hT
    obtain ⟨x6, hx6, hT⟩ := hT
    rw [← hx6]
    refine z_istore_n ok dX1_makePass_39 (hI 1 (by decide)) (lv' := [(1, .int x6), (0, .ref (zad G (5 + 6 * g)))]) rfl ?_
    refine z_iload_n ok dX1_makePass_40 0 rfl ?_
    refine z_if_eq ok dX1_makePass_41 57 (by decide) (fun c7 => ?_) (fun c7 => ?_)
    · rw [if_pos c7] at hT
      refine z_goto ok dX1_makePass_57 75 (by decide) ?_
      exact z_vret ok hE dX1_makePass_75 hT
    · rw [if_neg c7] at hT
      refine z_aload_n ok dX1_makePass_44 1 rfl ?_
      refine z_iload_n ok dX1_makePass_45 0 rfl ?_
      refine z_if_le ok dX1_makePass_46 53 (by decide) (fun c8 => ?_) (fun c8 => ?_)
      · rw [if_pos c8] at hT
        refine z_iconst ok dX1_makePass_53 (x := 1) (by decide) ?_
        refine z_put_X1_winner ok dX1_makePass_54 g h_g hN zw_98 ?_
        replace hT := zlet_open hT
        obtain ⟨w9, hw9, hT⟩ := hT
        rw [← hw9]
        refine z_goto ok dX1_makePass_57 75 (by decide) ?_
        exact z_vret ok hE dX1_makePass_75 hT
      · rw [if_neg c8] at hT
        refine z_iconst ok dX1_makePass_49 (x := 0) (by decide) ?_
        refine z_goto ok dX1_makePass_50 54 (by decide) ?_
        refine z_put_X1_winner ok dX1_makePass_54 g h_g hN zw_98 ?_
        replace hT := zlet_open hT
        obtain ⟨w10, hw10, hT⟩ := hT
        rw [← hw10]
        refine z_goto ok dX1_makePass_57 75 (by decide) ?_
        exact z_vret ok hE dX1_makePass_75 hT
