def d_J6_compare_7cf53 (w : xW) (a0 : Int32) (a1 : Int32) : Int32 :=
  if a1 ≤ a0 then (if a0 = a1 then (0)
  else (1))
  else ((-1))
set_option maxRecDepth 100000 in
set_option maxHeartbeats 4000000 in
theorem c_J6_compare_7cf53 (G : zG) (N : Nat) (hN : 47 ≤ N) (hg : zGeo G N) (w : xW) (a0 : Int32) (a1 : Int32) : zM yJ6_compare_7cf53 cJ6_compare_7cf53 2 (some .int) 0 0 G N [.int a0, .int a1] w (some (d_J6_compare_7cf53 w a0 a1)) w := by
  generalize hT : d_J6_compare_7cf53 w a0 a1 = r
  unfold d_J6_compare_7cf53 at hT
  refine zM_of zy_J6_compare_7cf53.2.2.2.2.2.2 hg ⟨Nat.le_of_ble_eq_true rfl, by decide⟩ rfl (fun k ok hE hI => ?_)
  have old := hE.old
  refine z_iload_n ok dJ6_compare_7cf53_0 0 rfl ?_
  refine z_iload_n ok dJ6_compare_7cf53_1 1 rfl ?_
  refine z_icmp_ge ok dJ6_compare_7cf53_2 9 (by decide) (fun c1 => ?_) (fun c1 => ?_)
  · rw [if_pos c1] at hT
    refine z_iload_n ok dJ6_compare_7cf53_9 0 rfl ?_
    refine z_iload_n ok dJ6_compare_7cf53_10 1 rfl ?_
    refine z_icmp_ne ok dJ6_compare_7cf53_11 18 (by decide) (fun c2 => ?_) (fun c2 => ?_)
    · rw [if_neg c2] at hT
      refine z_iconst ok dJ6_compare_7cf53_18 (x := 1) (by decide) ?_
      exact z_iret ok hE dJ6_compare_7cf53_19 rfl ⟨hT, rfl⟩
    · rw [if_pos c2] at hT
      refine z_iconst ok dJ6_compare_7cf53_14 (x := 0) (by decide) ?_
      refine z_goto ok dJ6_compare_7cf53_15 19 (by decide) ?_
      exact z_iret ok hE dJ6_compare_7cf53_19 rfl ⟨hT, rfl⟩
  · rw [if_neg c1] at hT
    refine z_iconst ok dJ6_compare_7cf53_5 (x := (-1)) (by decide) ?_
    refine z_goto ok dJ6_compare_7cf53_6 19 (by decide) ?_
    exact z_iret ok hE dJ6_compare_7cf53_19 rfl ⟨hT, rfl⟩

def d_X2_isCell (w : xW) (c : Int32) : Int32 :=
  if c < 0 then (0)
  else (if 36 ≤ c then (0)
  else (1))
set_option maxRecDepth 100000 in
set_option maxHeartbeats 4000000 in
theorem c_X2_isCell (G : zG) (N : Nat) (hN : 47 ≤ N) (hg : zGeo G N) (w : xW) (c : Int32) : zM yX2_isCell cX2_isCell 1 (some .boolean) 0 0 G N [.int c] w (some (d_X2_isCell w c)) w := by
  generalize hT : d_X2_isCell w c = r
  unfold d_X2_isCell at hT
  refine zM_of zy_X2_isCell.2.2.2.2.2.2 hg ⟨Nat.le_of_ble_eq_true rfl, by decide⟩ rfl (fun k ok hE hI => ?_)
  have old := hE.old
  refine z_iload_n ok dX2_isCell_0 0 rfl ?_
  refine z_if_lt ok dX2_isCell_1 14 (by decide) (fun c1 => ?_) (fun c1 => ?_)
  · rw [if_pos c1] at hT
    refine z_iconst ok dX2_isCell_14 (x := 0) (by decide) ?_
    exact z_iret ok hE dX2_isCell_15 rfl ⟨hT, rfl⟩
  · rw [if_neg c1] at hT
    refine z_iload_n ok dX2_isCell_4 0 rfl ?_
    refine z_bipush ok dX2_isCell_5 (x := 36) (by decide) ?_
    refine z_icmp_ge ok dX2_isCell_7 14 (by decide) (fun c2 => ?_) (fun c2 => ?_)
    · rw [if_pos c2] at hT
      refine z_iconst ok dX2_isCell_14 (x := 0) (by decide) ?_
      exact z_iret ok hE dX2_isCell_15 rfl ⟨hT, rfl⟩
    · rw [if_neg c2] at hT
      refine z_iconst ok dX2_isCell_10 (x := 1) (by decide) ?_
      refine z_goto ok dX2_isCell_11 15 (by decide) ?_
      exact z_iret ok hE dX2_isCell_15 rfl ⟨hT, rfl⟩

def d_X0_place (w : xW) (g : Nat) (c : Nat) (side : Int32) (kind : Int32) (spring : Int32) : xW :=
  if (d_X2_isCell w (nI c)) = 0 then (w)
  else (zlet (xs w g (c) side) fun w2 =>
  zlet (xs w2 g (36 + c) kind) fun w3 =>
  zlet (xs w3 g (72 + c) spring) fun w4 =>
  w4)
set_option maxRecDepth 100000 in
set_option maxHeartbeats 4000000 in
theorem c_X0_place (G : zG) (N : Nat) (hN : 47 ≤ N) (hg : zGeo G N) (w : xW) (g : Nat) (h_g : g < 7) (c : Nat) (h_c : c < 36) (side : Int32) (kind : Int32) (spring : Int32) : zM yX0_place cX0_place 5 none 1 20 G N [.ref (zad G (6 + 6 * g)), .int (nI c), .int side, .int kind, .int spring] w none (d_X0_place w g c side kind spring) := by
  generalize hT : d_X0_place w g c side kind spring = u
  unfold d_X0_place at hT
  refine zM_of zy_X0_place.2.2.2.2.2.2.2 hg ⟨Nat.le_of_ble_eq_true rfl, by decide⟩ rfl (fun k ok hE hI => ?_)
  have old := hE.old
  refine z_iload_n ok dX0_place_0 1 rfl ?_
  refine z_callSNi ok old dX0_place_1 [] (c_X2_isCell G N hN hg w (nI c)) zy_X2_isCell zw_157 rfl rfl (by decide) (Nat.le_of_ble_eq_true rfl) ?_
  refine z_if_eq ok dX0_place_4 29 (by decide) (fun c1 => ?_) (fun c1 => ?_)
  · rw [if_pos c1] at hT
    exact z_vret ok hE dX0_place_29 hT
  · rw [if_neg c1] at hT
    refine z_aload_n ok dX0_place_7 0 rfl ?_
    refine z_get_X0_sides ok dX0_place_8 g h_g hN zw_74 ?_
    refine z_iload_n ok dX0_place_11 1 rfl ?_
    refine z_iload_n ok dX0_place_12 2 rfl ?_
    refine z_gst0 ok dX0_place_13 g h_g hN c rfl (by omega) ?_
    replace hT := zlet_open hT
    obtain ⟨w2, hw2, hT⟩ := hT
    rw [← hw2]
    refine z_aload_n ok dX0_place_14 0 rfl ?_
    refine z_get_X0_kinds ok dX0_place_15 g h_g hN zw_75 ?_
    refine z_iload_n ok dX0_place_18 1 rfl ?_
    refine z_iload_n ok dX0_place_19 3 rfl ?_
    refine z_gst1 ok dX0_place_20 g h_g hN c rfl (by omega) ?_
    replace hT := zlet_open hT
    obtain ⟨w3, hw3, hT⟩ := hT
    rw [← hw3]
    refine z_aload_n ok dX0_place_21 0 rfl ?_
    refine z_get_X0_springs ok dX0_place_22 g h_g hN zw_76 ?_
    refine z_iload_n ok dX0_place_25 1 rfl ?_
    refine z_iload ok dX0_place_26 4 rfl ?_
    refine z_gst2 ok dX0_place_28 g h_g hN c rfl (by omega) ?_
    replace hT := zlet_open hT
    obtain ⟨w4, hw4, hT⟩ := hT
    rw [← hw4]
    exact z_vret ok hE dX0_place_29 hT

def d_X0_empty (w : xW) (g : Nat) (c : Nat) : xW :=
  zlet (d_X0_place w g c (-1) 0 0) fun w1 =>
  w1
set_option maxRecDepth 100000 in
set_option maxHeartbeats 4000000 in
theorem c_X0_empty (G : zG) (N : Nat) (hN : 47 ≤ N) (hg : zGeo G N) (w : xW) (g : Nat) (h_g : g < 7) (c : Nat) (h_c : c < 36) : zM yX0_empty cX0_empty 2 none 2 44 G N [.ref (zad G (6 + 6 * g)), .int (nI c)] w none (d_X0_empty w g c) := by
  generalize hT : d_X0_empty w g c = u
  unfold d_X0_empty at hT
  refine zM_of zy_X0_empty.2.2.2.2.2.2.2 hg ⟨Nat.le_of_ble_eq_true rfl, by decide⟩ rfl (fun k ok hE hI => ?_)
  have old := hE.old
  refine z_aload_n ok dX0_empty_0 0 rfl ?_
  refine z_iload_n ok dX0_empty_1 1 rfl ?_
  refine z_iconst ok dX0_empty_2 (x := (-1)) (by decide) ?_
  refine z_iconst ok dX0_empty_3 (x := 0) (by decide) ?_
  refine z_iconst ok dX0_empty_4 (x := 0) (by decide) ?_
  refine z_callVv ok old dX0_empty_5 [] (c_X0_place G N hN hg w g h_g c (by omega) (-1) 0 0) zy_X0_place zw_153 (6 + 6 * g) (zg_lt' hN h_g) (zE_board G w h_g) rfl rfl rfl rfl rfl (by decide) (Nat.le_of_ble_eq_true rfl) ?_
  replace hT := zlet_open hT
  obtain ⟨w1, hw1, hT⟩ := hT
  rw [← hw1]
  exact z_vret ok hE dX0_empty_8 hT

def d_X0_changeSpring (w : xW) (g : Nat) (c : Nat) (spring : Int32) : xW :=
  if (d_X2_isCell w (nI c)) = 0 then (w)
  else (zlet (xs w g (72 + c) spring) fun w2 =>
  w2)
set_option maxRecDepth 100000 in
set_option maxHeartbeats 4000000 in
theorem c_X0_changeSpring (G : zG) (N : Nat) (hN : 47 ≤ N) (hg : zGeo G N) (w : xW) (g : Nat) (h_g : g < 7) (c : Nat) (h_c : c < 36) (spring : Int32) : zM yX0_changeSpring cX0_changeSpring 3 none 1 20 G N [.ref (zad G (6 + 6 * g)), .int (nI c), .int spring] w none (d_X0_changeSpring w g c spring) := by
  generalize hT : d_X0_changeSpring w g c spring = u
  unfold d_X0_changeSpring at hT
  refine zM_of zy_X0_changeSpring.2.2.2.2.2.2.2 hg ⟨Nat.le_of_ble_eq_true rfl, by decide⟩ rfl (fun k ok hE hI => ?_)
  have old := hE.old
  refine z_iload_n ok dX0_changeSpring_0 1 rfl ?_
  refine z_callSNi ok old dX0_changeSpring_1 [] (c_X2_isCell G N hN hg w (nI c)) zy_X2_isCell zw_157 rfl rfl (by decide) (Nat.le_of_ble_eq_true rfl) ?_
  refine z_if_eq ok dX0_changeSpring_4 14 (by decide) (fun c1 => ?_) (fun c1 => ?_)
  · rw [if_pos c1] at hT
    exact z_vret ok hE dX0_changeSpring_14 hT
  · rw [if_neg c1] at hT
    refine z_aload_n ok dX0_changeSpring_7 0 rfl ?_
    refine z_get_X0_springs ok dX0_changeSpring_8 g h_g hN zw_76 ?_
    refine z_iload_n ok dX0_changeSpring_11 1 rfl ?_
    refine z_iload_n ok dX0_changeSpring_12 2 rfl ?_
    refine z_gst2 ok dX0_changeSpring_13 g h_g hN c rfl (by omega) ?_
    replace hT := zlet_open hT
    obtain ⟨w2, hw2, hT⟩ := hT
    rw [← hw2]
    exact z_vret ok hE dX0_changeSpring_14 hT

def d_X0_markTower (w : xW) (g : Nat) (c : Nat) (b : Int32) : xW :=
  if (d_X2_isCell w (nI c)) = 0 then (w)
  else (if b = 0 then (zlet (xs w g (108 + c) 0) fun w3 =>
  w3)
  else (zlet (xs w g (108 + c) 1) fun w4 =>
  w4))
set_option maxRecDepth 100000 in
set_option maxHeartbeats 4000000 in
theorem c_X0_markTower (G : zG) (N : Nat) (hN : 47 ≤ N) (hg : zGeo G N) (w : xW) (g : Nat) (h_g : g < 7) (c : Nat) (h_c : c < 36) (b : Int32) : zM yX0_markTower cX0_markTower 3 none 1 20 G N [.ref (zad G (6 + 6 * g)), .int (nI c), .int b] w none (d_X0_markTower w g c b) := by
  generalize hT : d_X0_markTower w g c b = u
  unfold d_X0_markTower at hT
  refine zM_of zy_X0_markTower.2.2.2.2.2.2.2 hg ⟨Nat.le_of_ble_eq_true rfl, by decide⟩ rfl (fun k ok hE hI => ?_)
  have old := hE.old
  refine z_iload_n ok dX0_markTower_0 1 rfl ?_
  refine z_callSNi ok old dX0_markTower_1 [] (c_X2_isCell G N hN hg w (nI c)) zy_X2_isCell zw_157 rfl rfl (by decide) (Nat.le_of_ble_eq_true rfl) ?_
  refine z_if_eq ok dX0_markTower_4 22 (by decide) (fun c1 => ?_) (fun c1 => ?_)
  · rw [if_pos c1] at hT
    exact z_vret ok hE dX0_markTower_22 hT
  · rw [if_neg c1] at hT
    refine z_aload_n ok dX0_markTower_7 0 rfl ?_
    refine z_get_X0_towers ok dX0_markTower_8 g h_g hN zw_77 ?_
    refine z_iload_n ok dX0_markTower_11 1 rfl ?_
    refine z_iload_n ok dX0_markTower_12 2 rfl ?_
    refine z_if_eq ok dX0_markTower_13 20 (by decide) (fun c2 => ?_) (fun c2 => ?_)
    · rw [if_pos c2] at hT
      refine z_iconst ok dX0_markTower_20 (x := 0) (by decide) ?_
      refine z_gst3 ok dX0_markTower_21 g h_g hN c rfl (by omega) ?_
      replace hT := zlet_open hT
      obtain ⟨w3, hw3, hT⟩ := hT
      rw [← hw3]
      exact z_vret ok hE dX0_markTower_22 hT
    · rw [if_neg c2] at hT
      refine z_iconst ok dX0_markTower_16 (x := 1) (by decide) ?_
      refine z_goto ok dX0_markTower_17 21 (by decide) ?_
      refine z_gst3 ok dX0_markTower_21 g h_g hN c rfl (by omega) ?_
      replace hT := zlet_open hT
      obtain ⟨w4, hw4, hT⟩ := hT
      rw [← hw4]
      exact z_vret ok hE dX0_markTower_22 hT

def d_X0_sideOn (w : xW) (g : Nat) (c : Nat) : Int32 :=
  if (d_X2_isCell w (nI c)) = 0 then ((-1))
  else ((xg w g c))
set_option maxRecDepth 100000 in
set_option maxHeartbeats 4000000 in
theorem c_X0_sideOn (G : zG) (N : Nat) (hN : 47 ≤ N) (hg : zGeo G N) (w : xW) (g : Nat) (h_g : g < 7) (c : Nat) (h_c : c < 36) : zM yX0_sideOn cX0_sideOn 2 (some .int) 1 20 G N [.ref (zad G (6 + 6 * g)), .int (nI c)] w (some (d_X0_sideOn w g c)) w := by
  generalize hT : d_X0_sideOn w g c = r
  unfold d_X0_sideOn at hT
  refine zM_of zy_X0_sideOn.2.2.2.2.2.2.2 hg ⟨Nat.le_of_ble_eq_true rfl, by decide⟩ rfl (fun k ok hE hI => ?_)
  have old := hE.old
  refine z_iload_n ok dX0_sideOn_0 1 rfl ?_
  refine z_callSNi ok old dX0_sideOn_1 [] (c_X2_isCell G N hN hg w (nI c)) zy_X2_isCell zw_157 rfl rfl (by decide) (Nat.le_of_ble_eq_true rfl) ?_
  refine z_if_eq ok dX0_sideOn_4 16 (by decide) (fun c1 => ?_) (fun c1 => ?_)
  · rw [if_pos c1] at hT
    refine z_iconst ok dX0_sideOn_16 (x := (-1)) (by decide) ?_
    exact z_iret ok hE dX0_sideOn_17 rfl ⟨hT, rfl⟩
  · rw [if_neg c1] at hT
    refine z_aload_n ok dX0_sideOn_7 0 rfl ?_
    refine z_get_X0_sides ok dX0_sideOn_8 g h_g hN zw_74 ?_
    refine z_iload_n ok dX0_sideOn_11 1 rfl ?_
    refine z_gld0 ok dX0_sideOn_12 g h_g hN c rfl (by omega) ?_
    refine z_goto ok dX0_sideOn_13 17 (by decide) ?_
    exact z_iret ok hE dX0_sideOn_17 rfl ⟨hT, rfl⟩

def d_X0_hasPiece (w : xW) (g : Nat) (c : Nat) : Int32 :=
  if (d_X0_sideOn w g c) = (-1) then (0)
  else (1)
set_option maxRecDepth 100000 in
set_option maxHeartbeats 4000000 in
theorem c_X0_hasPiece (G : zG) (N : Nat) (hN : 47 ≤ N) (hg : zGeo G N) (w : xW) (g : Nat) (h_g : g < 7) (c : Nat) (h_c : c < 36) : zM yX0_hasPiece cX0_hasPiece 2 (some .boolean) 2 41 G N [.ref (zad G (6 + 6 * g)), .int (nI c)] w (some (d_X0_hasPiece w g c)) w := by
  generalize hT : d_X0_hasPiece w g c = r
  unfold d_X0_hasPiece at hT
  refine zM_of zy_X0_hasPiece.2.2.2.2.2.2.2 hg ⟨Nat.le_of_ble_eq_true rfl, by decide⟩ rfl (fun k ok hE hI => ?_)
  have old := hE.old
  refine z_aload_n ok dX0_hasPiece_0 0 rfl ?_
  refine z_iload_n ok dX0_hasPiece_1 1 rfl ?_
  refine z_callVi ok old dX0_hasPiece_2 [] (c_X0_sideOn G N hN hg w g h_g c (by omega)) zy_X0_sideOn zw_269 (6 + 6 * g) (zg_lt' hN h_g) (zE_board G w h_g) rfl rfl rfl rfl rfl (by decide) (Nat.le_of_ble_eq_true rfl) ?_
  refine z_iconst ok dX0_hasPiece_5 (x := (-1)) (by decide) ?_
  refine z_icmp_eq ok dX0_hasPiece_6 13 (by decide) (fun c1 => ?_) (fun c1 => ?_)
  · rw [if_pos c1] at hT
    refine z_iconst ok dX0_hasPiece_13 (x := 0) (by decide) ?_
    exact z_iret ok hE dX0_hasPiece_14 rfl ⟨hT, rfl⟩
  · rw [if_neg c1] at hT
    refine z_iconst ok dX0_hasPiece_9 (x := 1) (by decide) ?_
    refine z_goto ok dX0_hasPiece_10 14 (by decide) ?_
    exact z_iret ok hE dX0_hasPiece_14 rfl ⟨hT, rfl⟩

def d_X0_kindOn (w : xW) (g : Nat) (c : Nat) : Int32 :=
  if (d_X2_isCell w (nI c)) = 0 then (0)
  else ((xg w g (36 + c)))
set_option maxRecDepth 100000 in
set_option maxHeartbeats 4000000 in
theorem c_X0_kindOn (G : zG) (N : Nat) (hN : 47 ≤ N) (hg : zGeo G N) (w : xW) (g : Nat) (h_g : g < 7) (c : Nat) (h_c : c < 36) : zM yX0_kindOn cX0_kindOn 2 (some .int) 1 20 G N [.ref (zad G (6 + 6 * g)), .int (nI c)] w (some (d_X0_kindOn w g c)) w := by
  generalize hT : d_X0_kindOn w g c = r
  unfold d_X0_kindOn at hT
  refine zM_of zy_X0_kindOn.2.2.2.2.2.2.2 hg ⟨Nat.le_of_ble_eq_true rfl, by decide⟩ rfl (fun k ok hE hI => ?_)
  have old := hE.old
  refine z_iload_n ok dX0_kindOn_0 1 rfl ?_
  refine z_callSNi ok old dX0_kindOn_1 [] (c_X2_isCell G N hN hg w (nI c)) zy_X2_isCell zw_157 rfl rfl (by decide) (Nat.le_of_ble_eq_true rfl) ?_
  refine z_if_eq ok dX0_kindOn_4 16 (by decide) (fun c1 => ?_) (fun c1 => ?_)
  · rw [if_pos c1] at hT
    refine z_iconst ok dX0_kindOn_16 (x := 0) (by decide) ?_
    exact z_iret ok hE dX0_kindOn_17 rfl ⟨hT, rfl⟩
  · rw [if_neg c1] at hT
    refine z_aload_n ok dX0_kindOn_7 0 rfl ?_
    refine z_get_X0_kinds ok dX0_kindOn_8 g h_g hN zw_75 ?_
    refine z_iload_n ok dX0_kindOn_11 1 rfl ?_
    refine z_gld1 ok dX0_kindOn_12 g h_g hN c rfl (by omega) ?_
    refine z_goto ok dX0_kindOn_13 17 (by decide) ?_
    exact z_iret ok hE dX0_kindOn_17 rfl ⟨hT, rfl⟩

def d_X0_springOn (w : xW) (g : Nat) (c : Nat) : Int32 :=
  if (d_X2_isCell w (nI c)) = 0 then (0)
  else ((xg w g (72 + c)))
set_option maxRecDepth 100000 in
set_option maxHeartbeats 4000000 in
theorem c_X0_springOn (G : zG) (N : Nat) (hN : 47 ≤ N) (hg : zGeo G N) (w : xW) (g : Nat) (h_g : g < 7) (c : Nat) (h_c : c < 36) : zM yX0_springOn cX0_springOn 2 (some .int) 1 20 G N [.ref (zad G (6 + 6 * g)), .int (nI c)] w (some (d_X0_springOn w g c)) w := by
  generalize hT : d_X0_springOn w g c = r
  unfold d_X0_springOn at hT
  refine zM_of zy_X0_springOn.2.2.2.2.2.2.2 hg ⟨Nat.le_of_ble_eq_true rfl, by decide⟩ rfl (fun k ok hE hI => ?_)
  have old := hE.old
  refine z_iload_n ok dX0_springOn_0 1 rfl ?_
  refine z_callSNi ok old dX0_springOn_1 [] (c_X2_isCell G N hN hg w (nI c)) zy_X2_isCell zw_157 rfl rfl (by decide) (Nat.le_of_ble_eq_true rfl) ?_
  refine z_if_eq ok dX0_springOn_4 16 (by decide) (fun c1 => ?_) (fun c1 => ?_)
  · rw [if_pos c1] at hT
    refine z_iconst ok dX0_springOn_16 (x := 0) (by decide) ?_
    exact z_iret ok hE dX0_springOn_17 rfl ⟨hT, rfl⟩
  · rw [if_neg c1] at hT
    refine z_aload_n ok dX0_springOn_7 0 rfl ?_
    refine z_get_X0_springs ok dX0_springOn_8 g h_g hN zw_76 ?_
    refine z_iload_n ok dX0_springOn_11 1 rfl ?_
    refine z_gld2 ok dX0_springOn_12 g h_g hN c rfl (by omega) ?_
    refine z_goto ok dX0_springOn_13 17 (by decide) ?_
    exact z_iret ok hE dX0_springOn_17 rfl ⟨hT, rfl⟩

def d_X0_isTower (w : xW) (g : Nat) (c : Nat) : Int32 :=
  if (d_X2_isCell w (nI c)) = 0 then (0)
  else (if (xg w g (108 + c)) = 1 then (1)
  else (0))
set_option maxRecDepth 100000 in
set_option maxHeartbeats 4000000 in
theorem c_X0_isTower (G : zG) (N : Nat) (hN : 47 ≤ N) (hg : zGeo G N) (w : xW) (g : Nat) (h_g : g < 7) (c : Nat) (h_c : c < 36) : zM yX0_isTower cX0_isTower 2 (some .boolean) 1 20 G N [.ref (zad G (6 + 6 * g)), .int (nI c)] w (some (d_X0_isTower w g c)) w := by
  generalize hT : d_X0_isTower w g c = r
  unfold d_X0_isTower at hT
  refine zM_of zy_X0_isTower.2.2.2.2.2.2.2 hg ⟨Nat.le_of_ble_eq_true rfl, by decide⟩ rfl (fun k ok hE hI => ?_)
  have old := hE.old
  refine z_iload_n ok dX0_isTower_0 1 rfl ?_
  refine z_callSNi ok old dX0_isTower_1 [] (c_X2_isCell G N hN hg w (nI c)) zy_X2_isCell zw_157 rfl rfl (by decide) (Nat.le_of_ble_eq_true rfl) ?_
  refine z_if_eq ok dX0_isTower_4 21 (by decide) (fun c1 => ?_) (fun c1 => ?_)
  · rw [if_pos c1] at hT
    refine z_iconst ok dX0_isTower_21 (x := 0) (by decide) ?_
    exact z_iret ok hE dX0_isTower_22 rfl ⟨hT, rfl⟩
  · rw [if_neg c1] at hT
    refine z_aload_n ok dX0_isTower_7 0 rfl ?_
    refine z_get_X0_towers ok dX0_isTower_8 g h_g hN zw_77 ?_
    refine z_iload_n ok dX0_isTower_11 1 rfl ?_
    refine z_gld3 ok dX0_isTower_12 g h_g hN c rfl (by omega) ?_
    refine z_iconst ok dX0_isTower_13 (x := 1) (by decide) ?_
    refine z_icmp_ne ok dX0_isTower_14 21 (by decide) (fun c2 => ?_) (fun c2 => ?_)
    · rw [if_neg c2] at hT
      refine z_iconst ok dX0_isTower_21 (x := 0) (by decide) ?_
      exact z_iret ok hE dX0_isTower_22 rfl ⟨hT, rfl⟩
    · rw [if_pos c2] at hT
      refine z_iconst ok dX0_isTower_17 (x := 1) (by decide) ?_
      refine z_goto ok dX0_isTower_18 22 (by decide) ?_
      exact z_iret ok hE dX0_isTower_22 rfl ⟨hT, rfl⟩

def d_X0_springsOf_4k  (e1_2 : Int32) (e1_3 : Nat) : Int32 :=
  e1_2
def d_X0_springsOf_4 (w : xW) (g : Nat) (side : Int32) (kt1 : Int32 → Nat → Int32) : Nat → Int32 → Nat → Int32
  | 0, _, _ => default
  | n1 + 1, v1_2, v1_3 => if 36 ≤ v1_3 then (kt1 v1_2 v1_3)
  else (if (xg w g v1_3) = side then (zlet ((v1_2 + (xg w g (72 + v1_3)))) fun x4 =>
  d_X0_springsOf_4 w g side kt1 n1 x4 (v1_3 + 1))
  else (d_X0_springsOf_4 w g side kt1 n1 v1_2 (v1_3 + 1)))
def d_X0_springsOf (w : xW) (g : Nat) (side : Int32) : Int32 :=
  d_X0_springsOf_4 w g side d_X0_springsOf_4k 37 0 0
set_option maxRecDepth 100000 in
set_option maxHeartbeats 4000000 in
theorem c_X0_springsOf (G : zG) (N : Nat) (hN : 47 ≤ N) (hg : zGeo G N) (w : xW) (g : Nat) (h_g : g < 7) (side : Int32) : zM yX0_springsOf cX0_springsOf 4 (some .int) 0 0 G N [.ref (zad G (6 + 6 * g)), .int side] w (some (d_X0_springsOf w g side)) w := by
  generalize hT : d_X0_springsOf w g side = r
  unfold d_X0_springsOf at hT
  refine zM_of zy_X0_springsOf.2.2.2.2.2.2.2 hg ⟨Nat.le_of_ble_eq_true rfl, by decide⟩ rfl (fun k ok hE hI => ?_)
  have old := hE.old
  refine z_iconst ok dX0_springsOf_0 (x := 0) (by decide) ?_
  refine z_istore_n ok dX0_springsOf_1 (hI 2 (by decide)) (lv' := [(2, .int 0), (0, .ref (zad G (6 + 6 * g))), (1, .int side)]) rfl ?_
  refine z_iconst ok dX0_springsOf_2 (x := 0) (by decide) ?_
  refine z_istore_n ok dX0_springsOf_3 (hI 3 (by decide)) (lv' := [(3, .int 0), (2, .int 0), (0, .ref (zad G (6 + 6 * g))), (1, .int side)]) rfl ?_
  refine z_locs [2, 3, 1, 0] (lv' := [(0, .ref (zad G (6 + 6 * g))), (1, .int side), (2, .int 0), (3, .int 0)]) rfl ?_
  obtain ⟨kt1, hkt1⟩ : ∃ z, z = d_X0_springsOf_4k := ⟨_, rfl⟩
  rw [← hkt1] at hT
  have hk1 : ∀ (e1_2 : Int32) (e1_3 : Nat), e1_3 ≤ 36 → kt1 e1_2 e1_3 = r → zZ k G N w 35 [(0, .ref (zad G (6 + 6 * g))), (1, .int side), (2, .int e1_2), (3, .int (nI e1_3))] [] := by
    intro e1_2 e1_3 q1_0 hT1
    rw [hkt1, d_X0_springsOf_4k] at hT1
    refine z_iload_n ok dX0_springsOf_35 2 rfl ?_
    exact z_iret ok hE dX0_springsOf_36 rfl ⟨hT1, rfl⟩
  have hl1 : ∀ (n1 : Nat) (v1_2 : Int32) (v1_3 : Nat), 36 < v1_3 + n1 → v1_3 ≤ 36 → d_X0_springsOf_4 w g side kt1 n1 v1_2 v1_3 = r → zZ k G N w 4 [(0, .ref (zad G (6 + 6 * g))), (1, .int side), (2, .int v1_2), (3, .int (nI v1_3))] [] := by
    intro n1
    induction n1 with
    | zero =>
      intro v1_2 v1_3 q1_0 q1_1
      exact absurd q1_0 (by omega)
    | succ n1 ih1 =>
      intro v1_2 v1_3 q1_0 q1_1 hT1
      rw [d_X0_springsOf_4] at hT1
      refine z_iload_n ok dX0_springsOf_4 3 rfl ?_
      refine z_bipush ok dX0_springsOf_5 (x := 36) (by decide) ?_
      refine z_icmp_ge_n ok dX0_springsOf_7 35 (by decide) v1_3 36 rfl rfl (by omega) (fun c2 => ?_) (fun c2 => ?_)
      · rw [if_pos c2] at hT1
        refine z_locs [0, 1, 2, 3] (lv' := [(0, .ref (zad G (6 + 6 * g))), (1, .int side), (2, .int v1_2), (3, .int (nI v1_3))]) rfl ?_
        exact hk1 v1_2 v1_3 (by omega) hT1
      · rw [if_neg c2] at hT1
        refine z_aload_n ok dX0_springsOf_10 0 rfl ?_
        refine z_get_X0_sides ok dX0_springsOf_11 g h_g hN zw_74 ?_
        refine z_iload_n ok dX0_springsOf_14 3 rfl ?_
        refine z_gld0 ok dX0_springsOf_15 g h_g hN v1_3 rfl (by omega) ?_
        refine z_iload_n ok dX0_springsOf_16 1 rfl ?_
        refine z_icmp_ne ok dX0_springsOf_17 29 (by decide) (fun c3 => ?_) (fun c3 => ?_)
        · rw [if_neg c3] at hT1
          refine z_iinc ok dX0_springsOf_29 (hI 3 (by decide)) 3 rfl (y := (nI (v1_3 + 1))) (z_incn v1_3 1) (lv' := [(3, .int (nI (v1_3 + 1))), (0, .ref (zad G (6 + 6 * g))), (1, .int side), (2, .int v1_2)]) rfl ?_
          refine z_goto ok dX0_springsOf_32 4 (by decide) ?_
          refine z_locs [1, 2, 3, 0] (lv' := [(0, .ref (zad G (6 + 6 * g))), (1, .int side), (2, .int v1_2), (3, .int (nI (v1_3 + 1)))]) rfl ?_
          exact ih1 v1_2 (v1_3 + 1) (by omega) (by omega) hT1
        · rw [if_pos c3] at hT1
          refine z_iload_n ok dX0_springsOf_20 2 rfl ?_
          refine z_aload_n ok dX0_springsOf_21 0 rfl ?_
          refine z_get_X0_springs ok dX0_springsOf_22 g h_g hN zw_76 ?_
          refine z_iload_n ok dX0_springsOf_25 3 rfl ?_
          refine z_gld2 ok dX0_springsOf_26 g h_g hN v1_3 rfl (by omega) ?_
          refine z_iadd ok dX0_springsOf_27 ?_
          replace hT1 := zlet_open hT1
          obtain ⟨x4, hx4, hT1⟩ := hT1
          rw [← hx4]
          refine z_istore_n ok dX0_springsOf_28 (hI 2 (by decide)) (lv' := [(2, .int x4), (0, .ref (zad G (6 + 6 * g))), (1, .int side), (3, .int (nI v1_3))]) rfl ?_
          refine z_iinc ok dX0_springsOf_29 (hI 3 (by decide)) 3 rfl (y := (nI (v1_3 + 1))) (z_incn v1_3 1) (lv' := [(3, .int (nI (v1_3 + 1))), (2, .int x4), (0, .ref (zad G (6 + 6 * g))), (1, .int side)]) rfl ?_
          refine z_goto ok dX0_springsOf_32 4 (by decide) ?_
          refine z_locs [2, 3, 1, 0] (lv' := [(0, .ref (zad G (6 + 6 * g))), (1, .int side), (2, .int x4), (3, .int (nI (v1_3 + 1)))]) rfl ?_
          exact ih1 x4 (v1_3 + 1) (by omega) (by omega) hT1
  exact hl1 37 0 0 (by omega) (by omega) hT

def d_X0_springsInAll (w : xW) (g : Nat) : Int32 :=
  ((d_X0_springsOf w g 0) + (d_X0_springsOf w g 1))
set_option maxRecDepth 100000 in
set_option maxHeartbeats 4000000 in
theorem c_X0_springsInAll (G : zG) (N : Nat) (hN : 47 ≤ N) (hg : zGeo G N) (w : xW) (g : Nat) (h_g : g < 7) : zM yX0_springsInAll cX0_springsInAll 1 (some .int) 1 23 G N [.ref (zad G (6 + 6 * g))] w (some (d_X0_springsInAll w g)) w := by
  generalize hT : d_X0_springsInAll w g = r
  unfold d_X0_springsInAll at hT
  refine zM_of zy_X0_springsInAll.2.2.2.2.2.2.2 hg ⟨Nat.le_of_ble_eq_true rfl, by decide⟩ rfl (fun k ok hE hI => ?_)
  have old := hE.old
  refine z_aload_n ok dX0_springsInAll_0 0 rfl ?_
  refine z_iconst ok dX0_springsInAll_1 (x := 0) (by decide) ?_
  refine z_callVi ok old dX0_springsInAll_2 [] (c_X0_springsOf G N hN hg w g h_g 0) zy_X0_springsOf zw_172 (6 + 6 * g) (zg_lt' hN h_g) (zE_board G w h_g) rfl rfl rfl rfl rfl (by decide) (Nat.le_of_ble_eq_true rfl) ?_
  refine z_aload_n ok dX0_springsInAll_5 0 rfl ?_
  refine z_iconst ok dX0_springsInAll_6 (x := 1) (by decide) ?_
  refine z_callVi ok old dX0_springsInAll_7 [.int (d_X0_springsOf w g 0)] (c_X0_springsOf G N hN hg w g h_g 1) zy_X0_springsOf zw_172 (6 + 6 * g) (zg_lt' hN h_g) (zE_board G w h_g) rfl rfl rfl rfl rfl (by decide) (Nat.le_of_ble_eq_true rfl) ?_
  refine z_iadd ok dX0_springsInAll_10 ?_
  exact z_iret ok hE dX0_springsInAll_11 rfl ⟨hT, rfl⟩

def d_X0_piecesInAll_4k  (e1_1 : Int32) (e1_2 : Nat) : Int32 :=
  e1_1
def d_X0_piecesInAll_4 (w : xW) (g : Nat) (kt1 : Int32 → Nat → Int32) : Nat → Int32 → Nat → Int32
  | 0, _, _ => default
  | n1 + 1, v1_1, v1_2 => if 36 ≤ v1_2 then (kt1 v1_1 v1_2)
  else (if (xg w g v1_2) = (-1) then (d_X0_piecesInAll_4 w g kt1 n1 v1_1 (v1_2 + 1))
  else (d_X0_piecesInAll_4 w g kt1 n1 (v1_1 + 1) (v1_2 + 1)))
def d_X0_piecesInAll (w : xW) (g : Nat) : Int32 :=
  d_X0_piecesInAll_4 w g d_X0_piecesInAll_4k 37 0 0
set_option maxRecDepth 100000 in
set_option maxHeartbeats 4000000 in
theorem c_X0_piecesInAll (G : zG) (N : Nat) (hN : 47 ≤ N) (hg : zGeo G N) (w : xW) (g : Nat) (h_g : g < 7) : zM yX0_piecesInAll cX0_piecesInAll 3 (some .int) 0 0 G N [.ref (zad G (6 + 6 * g))] w (some (d_X0_piecesInAll w g)) w := by
  generalize hT : d_X0_piecesInAll w g = r
  unfold d_X0_piecesInAll at hT
  refine zM_of zy_X0_piecesInAll.2.2.2.2.2.2.2 hg ⟨Nat.le_of_ble_eq_true rfl, by decide⟩ rfl (fun k ok hE hI => ?_)
  have old := hE.old
  refine z_iconst ok dX0_piecesInAll_0 (x := 0) (by decide) ?_
  refine z_istore_n ok dX0_piecesInAll_1 (hI 1 (by decide)) (lv' := [(1, .int 0), (0, .ref (zad G (6 + 6 * g)))]) rfl ?_
  refine z_iconst ok dX0_piecesInAll_2 (x := 0) (by decide) ?_
  refine z_istore_n ok dX0_piecesInAll_3 (hI 2 (by decide)) (lv' := [(2, .int 0), (1, .int 0), (0, .ref (zad G (6 + 6 * g)))]) rfl ?_
  refine z_locs [2, 1, 0] (lv' := [(0, .ref (zad G (6 + 6 * g))), (1, .int 0), (2, .int 0)]) rfl ?_
  obtain ⟨kt1, hkt1⟩ : ∃ z, z = d_X0_piecesInAll_4k := ⟨_, rfl⟩
  rw [← hkt1] at hT
  have hk1 : ∀ (e1_1 : Int32) (e1_2 : Nat), e1_2 ≤ 36 → kt1 e1_1 e1_2 = r → zZ k G N w 29 [(0, .ref (zad G (6 + 6 * g))), (1, .int e1_1), (2, .int (nI e1_2))] [] := by
    intro e1_1 e1_2 q1_0 hT1
    rw [hkt1, d_X0_piecesInAll_4k] at hT1
    refine z_iload_n ok dX0_piecesInAll_29 1 rfl ?_
    exact z_iret ok hE dX0_piecesInAll_30 rfl ⟨hT1, rfl⟩
  have hl1 : ∀ (n1 : Nat) (v1_1 : Int32) (v1_2 : Nat), 36 < v1_2 + n1 → v1_2 ≤ 36 → d_X0_piecesInAll_4 w g kt1 n1 v1_1 v1_2 = r → zZ k G N w 4 [(0, .ref (zad G (6 + 6 * g))), (1, .int v1_1), (2, .int (nI v1_2))] [] := by
    intro n1
    induction n1 with
    | zero =>
      intro v1_1 v1_2 q1_0 q1_1
      exact absurd q1_0 (by omega)
    | succ n1 ih1 =>
      intro v1_1 v1_2 q1_0 q1_1 hT1
      rw [d_X0_piecesInAll_4] at hT1
      refine z_iload_n ok dX0_piecesInAll_4 2 rfl ?_
      refine z_bipush ok dX0_piecesInAll_5 (x := 36) (by decide) ?_
      refine z_icmp_ge_n ok dX0_piecesInAll_7 29 (by decide) v1_2 36 rfl rfl (by omega) (fun c2 => ?_) (fun c2 => ?_)
      · rw [if_pos c2] at hT1
        refine z_locs [0, 1, 2] (lv' := [(0, .ref (zad G (6 + 6 * g))), (1, .int v1_1), (2, .int (nI v1_2))]) rfl ?_
        exact hk1 v1_1 v1_2 (by omega) hT1
      · rw [if_neg c2] at hT1
        refine z_aload_n ok dX0_piecesInAll_10 0 rfl ?_
        refine z_get_X0_sides ok dX0_piecesInAll_11 g h_g hN zw_74 ?_
        refine z_iload_n ok dX0_piecesInAll_14 2 rfl ?_
        refine z_gld0 ok dX0_piecesInAll_15 g h_g hN v1_2 rfl (by omega) ?_
        refine z_iconst ok dX0_piecesInAll_16 (x := (-1)) (by decide) ?_
        refine z_icmp_eq ok dX0_piecesInAll_17 23 (by decide) (fun c3 => ?_) (fun c3 => ?_)
        · rw [if_pos c3] at hT1
          refine z_iinc ok dX0_piecesInAll_23 (hI 2 (by decide)) 2 rfl (y := (nI (v1_2 + 1))) (z_incn v1_2 1) (lv' := [(2, .int (nI (v1_2 + 1))), (0, .ref (zad G (6 + 6 * g))), (1, .int v1_1)]) rfl ?_
          refine z_goto ok dX0_piecesInAll_26 4 (by decide) ?_
          refine z_locs [1, 2, 0] (lv' := [(0, .ref (zad G (6 + 6 * g))), (1, .int v1_1), (2, .int (nI (v1_2 + 1)))]) rfl ?_
          exact ih1 v1_1 (v1_2 + 1) (by omega) (by omega) hT1
        · rw [if_neg c3] at hT1
          refine z_iinc ok dX0_piecesInAll_20 (hI 1 (by decide)) 1 rfl (y := (v1_1 + 1)) rfl (lv' := [(1, .int (v1_1 + 1)), (0, .ref (zad G (6 + 6 * g))), (2, .int (nI v1_2))]) rfl ?_
          refine z_iinc ok dX0_piecesInAll_23 (hI 2 (by decide)) 2 rfl (y := (nI (v1_2 + 1))) (z_incn v1_2 1) (lv' := [(2, .int (nI (v1_2 + 1))), (1, .int (v1_1 + 1)), (0, .ref (zad G (6 + 6 * g)))]) rfl ?_
          refine z_goto ok dX0_piecesInAll_26 4 (by decide) ?_
          refine z_locs [2, 1, 0] (lv' := [(0, .ref (zad G (6 + 6 * g))), (1, .int (v1_1 + 1)), (2, .int (nI (v1_2 + 1)))]) rfl ?_
          exact ih1 (v1_1 + 1) (v1_2 + 1) (by omega) (by omega) hT1
  exact hl1 37 0 0 (by omega) (by omega) hT

def d_X0_towersInAll_4k  (e1_1 : Int32) (e1_2 : Nat) : Int32 :=
  e1_1
def d_X0_towersInAll_4 (w : xW) (g : Nat) (kt1 : Int32 → Nat → Int32) : Nat → Int32 → Nat → Int32
  | 0, _, _ => default
  | n1 + 1, v1_1, v1_2 => if 36 ≤ v1_2 then (kt1 v1_1 v1_2)
  else (zlet ((v1_1 + (xg w g (108 + v1_2)))) fun x3 =>
  d_X0_towersInAll_4 w g kt1 n1 x3 (v1_2 + 1))
def d_X0_towersInAll (w : xW) (g : Nat) : Int32 :=
  d_X0_towersInAll_4 w g d_X0_towersInAll_4k 37 0 0
set_option maxRecDepth 100000 in
set_option maxHeartbeats 4000000 in
theorem c_X0_towersInAll (G : zG) (N : Nat) (hN : 47 ≤ N) (hg : zGeo G N) (w : xW) (g : Nat) (h_g : g < 7) : zM yX0_towersInAll cX0_towersInAll 3 (some .int) 0 0 G N [.ref (zad G (6 + 6 * g))] w (some (d_X0_towersInAll w g)) w := by
  generalize hT : d_X0_towersInAll w g = r
  unfold d_X0_towersInAll at hT
  refine zM_of zy_X0_towersInAll.2.2.2.2.2.2.2 hg ⟨Nat.le_of_ble_eq_true rfl, by decide⟩ rfl (fun k ok hE hI => ?_)
  have old := hE.old
  refine z_iconst ok dX0_towersInAll_0 (x := 0) (by decide) ?_
  refine z_istore_n ok dX0_towersInAll_1 (hI 1 (by decide)) (lv' := [(1, .int 0), (0, .ref (zad G (6 + 6 * g)))]) rfl ?_
  refine z_iconst ok dX0_towersInAll_2 (x := 0) (by decide) ?_
  refine z_istore_n ok dX0_towersInAll_3 (hI 2 (by decide)) (lv' := [(2, .int 0), (1, .int 0), (0, .ref (zad G (6 + 6 * g)))]) rfl ?_
  refine z_locs [2, 1, 0] (lv' := [(0, .ref (zad G (6 + 6 * g))), (1, .int 0), (2, .int 0)]) rfl ?_
  obtain ⟨kt1, hkt1⟩ : ∃ z, z = d_X0_towersInAll_4k := ⟨_, rfl⟩
  rw [← hkt1] at hT
  have hk1 : ∀ (e1_1 : Int32) (e1_2 : Nat), e1_2 ≤ 36 → kt1 e1_1 e1_2 = r → zZ k G N w 25 [(0, .ref (zad G (6 + 6 * g))), (1, .int e1_1), (2, .int (nI e1_2))] [] := by
    intro e1_1 e1_2 q1_0 hT1
    rw [hkt1, d_X0_towersInAll_4k] at hT1
    refine z_iload_n ok dX0_towersInAll_25 1 rfl ?_
    exact z_iret ok hE dX0_towersInAll_26 rfl ⟨hT1, rfl⟩
  have hl1 : ∀ (n1 : Nat) (v1_1 : Int32) (v1_2 : Nat), 36 < v1_2 + n1 → v1_2 ≤ 36 → d_X0_towersInAll_4 w g kt1 n1 v1_1 v1_2 = r → zZ k G N w 4 [(0, .ref (zad G (6 + 6 * g))), (1, .int v1_1), (2, .int (nI v1_2))] [] := by
    intro n1
    induction n1 with
    | zero =>
      intro v1_1 v1_2 q1_0 q1_1
      exact absurd q1_0 (by omega)
    | succ n1 ih1 =>
      intro v1_1 v1_2 q1_0 q1_1 hT1
      rw [d_X0_towersInAll_4] at hT1
      refine z_iload_n ok dX0_towersInAll_4 2 rfl ?_
      refine z_bipush ok dX0_towersInAll_5 (x := 36) (by decide) ?_
      refine z_icmp_ge_n ok dX0_towersInAll_7 25 (by decide) v1_2 36 rfl rfl (by omega) (fun c2 => ?_) (fun c2 => ?_)
      · rw [if_pos c2] at hT1
        refine z_locs [0, 1, 2] (lv' := [(0, .ref (zad G (6 + 6 * g))), (1, .int v1_1), (2, .int (nI v1_2))]) rfl ?_
        exact hk1 v1_1 v1_2 (by omega) hT1
      · rw [if_neg c2] at hT1
        refine z_iload_n ok dX0_towersInAll_10 1 rfl ?_
        refine z_aload_n ok dX0_towersInAll_11 0 rfl ?_
        refine z_get_X0_towers ok dX0_towersInAll_12 g h_g hN zw_77 ?_
        refine z_iload_n ok dX0_towersInAll_15 2 rfl ?_
        refine z_gld3 ok dX0_towersInAll_16 g h_g hN v1_2 rfl (by omega) ?_
        refine z_iadd ok dX0_towersInAll_17 ?_
        replace hT1 := zlet_open hT1
        obtain ⟨x3, hx3, hT1⟩ := hT1
        rw [← hx3]
        refine z_istore_n ok dX0_towersInAll_18 (hI 1 (by decide)) (lv' := [(1, .int x3), (0, .ref (zad G (6 + 6 * g))), (2, .int (nI v1_2))]) rfl ?_
        refine z_iinc ok dX0_towersInAll_19 (hI 2 (by decide)) 2 rfl (y := (nI (v1_2 + 1))) (z_incn v1_2 1) (lv' := [(2, .int (nI (v1_2 + 1))), (1, .int x3), (0, .ref (zad G (6 + 6 * g)))]) rfl ?_
        refine z_goto ok dX0_towersInAll_22 4 (by decide) ?_
        refine z_locs [2, 1, 0] (lv' := [(0, .ref (zad G (6 + 6 * g))), (1, .int x3), (2, .int (nI (v1_2 + 1)))]) rfl ?_
        exact ih1 x3 (v1_2 + 1) (by omega) (by omega) hT1
  exact hl1 37 0 0 (by omega) (by omega) hT

def d_X0_priceAlong_32k (x1 : Int32) (e3_6 : Nat) : Int32 :=
  x1
def d_X0_priceAlong_32 (w : xW) (g : Nat) (f : Nat) (x1 : Int32) (x2 : Int32) (kt3 : Nat → Int32) : Nat → Nat → Int32
  | 0, _ => default
  | n3 + 1, v3_6 => if x1 ≤ (nI v3_6) then (kt3 v3_6)
  else (zlet (((nI f) + ((nI v3_6) * x2))) fun x5 =>
  if x5 < 0 then (0)
  else (if 36 ≤ x5 then (0)
  else (if (xg w g x5.toNatClampNeg) = (-1) then (d_X0_priceAlong_32 w g f x1 x2 kt3 n3 (v3_6 + 1))
  else (0))))
def d_X0_priceAlong (w : xW) (g : Nat) (f : Nat) (right : Int32) (up : Int32) : Int32 :=
  zlet ((if (if 0 ≤ right then right else 0 - right) < (if 0 ≤ up then up else 0 - up) then (if 0 ≤ up then up else 0 - up) else (if 0 ≤ right then right else 0 - right))) fun x1 =>
  zlet (((6 * (d_J6_compare_7cf53 w up 0)) + (d_J6_compare_7cf53 w right 0))) fun x2 =>
  d_X0_priceAlong_32 w g f x1 x2 (d_X0_priceAlong_32k x1) 7 1
set_option maxRecDepth 100000 in
set_option maxHeartbeats 4000000 in
theorem c_X0_priceAlong (G : zG) (N : Nat) (hN : 47 ≤ N) (hg : zGeo G N) (w : xW) (g : Nat) (h_g : g < 7) (f : Nat) (h_f : f < 36) (right : Int32) (up : Int32) (h_r : -6 < right.toInt ∧ right.toInt < 6) (h_u : -6 < up.toInt ∧ up.toInt < 6) : zM yX0_priceAlong cX0_priceAlong 8 (some .int) 1 21 G N [.ref (zad G (6 + 6 * g)), .int (nI f), .int right, .int up] w (some (d_X0_priceAlong w g f right up)) w := by
  generalize hT : d_X0_priceAlong w g f right up = r
  unfold d_X0_priceAlong at hT
  refine zM_of zy_X0_priceAlong.2.2.2.2.2.2.2 hg ⟨Nat.le_of_ble_eq_true rfl, by decide⟩ rfl (fun k ok hE hI => ?_)
  have old := hE.old
  refine z_iload_n ok dX0_priceAlong_0 2 rfl ?_
  refine z_abs ok dX0_priceAlong_1 zw_327 zw_328 zw_52 zw_329 ⟨by decide, Nat.le_of_ble_eq_true rfl⟩ ?_
  refine z_iload_n ok dX0_priceAlong_4 3 rfl ?_
  refine z_abs ok dX0_priceAlong_5 zw_327 zw_328 zw_52 zw_329 ⟨by decide, Nat.le_of_ble_eq_true rfl⟩ ?_
  refine z_max ok dX0_priceAlong_8 zw_334 zw_335 zw_52 zw_336 ⟨by decide, Nat.le_of_ble_eq_true rfl⟩ ?_
  replace hT := zlet_open hT
  obtain ⟨x1, hx1, hT⟩ := hT
  rw [← hx1]
  refine z_istore ok dX0_priceAlong_11 (hI 4 (by decide)) (lv' := [(4, .int x1), (0, .ref (zad G (6 + 6 * g))), (1, .int (nI f)), (2, .int right), (3, .int up)]) rfl ?_
  have hst := zmax5 h_r h_u hx1
  refine z_bipush ok dX0_priceAlong_13 (x := 6) (by decide) ?_
  refine z_iload_n ok dX0_priceAlong_15 4 rfl ?_
  refine z_iconst ok dX0_priceAlong_16 (x := 0) (by decide) ?_
  refine z_callSi ok old dX0_priceAlong_17 [.int 6] (c_J6_compare_7cf53 G N hN hg w up 0) zy_J6_compare_7cf53 zw_341 rfl rfl (by decide) (Nat.le_of_ble_eq_true rfl) ?_
  refine z_imul ok dX0_priceAlong_20 ?_
  refine z_iload_n ok dX0_priceAlong_21 3 rfl ?_
  refine z_iconst ok dX0_priceAlong_22 (x := 0) (by decide) ?_
  refine z_callSi ok old dX0_priceAlong_23 [.int (6 * (d_J6_compare_7cf53 w up 0))] (c_J6_compare_7cf53 G N hN hg w right 0) zy_J6_compare_7cf53 zw_341 rfl rfl (by decide) (Nat.le_of_ble_eq_true rfl) ?_
  refine z_iadd ok dX0_priceAlong_26 ?_
  replace hT := zlet_open hT
  obtain ⟨x2, hx2, hT⟩ := hT
  rw [← hx2]
  refine z_istore ok dX0_priceAlong_27 (hI 5 (by decide)) (lv' := [(5, .int x2), (4, .int x1), (0, .ref (zad G (6 + 6 * g))), (1, .int (nI f)), (2, .int right), (3, .int up)]) rfl ?_
  refine z_iconst ok dX0_priceAlong_29 (x := 1) (by decide) ?_
  refine z_istore ok dX0_priceAlong_30 (hI 6 (by decide)) (lv' := [(6, .int 1), (5, .int x2), (4, .int x1), (0, .ref (zad G (6 + 6 * g))), (1, .int (nI f)), (2, .int right), (3, .int up)]) rfl ?_
  refine z_locs [3, 4, 5, 6, 2, 1, 0] (lv' := [(0, .ref (zad G (6 + 6 * g))), (1, .int (nI f)), (2, .int right), (3, .int up), (4, .int x1), (5, .int x2), (6, .int 1)]) rfl ?_
  obtain ⟨kt3, hkt3⟩ : ∃ z, z = (d_X0_priceAlong_32k x1) := ⟨_, rfl⟩
  rw [← hkt3] at hT
  have hk3 : ∀ (e3_6 : Nat), e3_6 ≤ 6 → kt3 e3_6 = r → zZ k G N w 79 [(0, .ref (zad G (6 + 6 * g))), (1, .int (nI f)), (2, .int right), (3, .int up), (4, .int x1), (5, .int x2), (6, .int (nI e3_6))] [] := by
    intro e3_6 q3_0 hT3
    rw [hkt3, d_X0_priceAlong_32k] at hT3
    refine z_iload ok dX0_priceAlong_79 4 rfl ?_
    exact z_iret ok hE dX0_priceAlong_81 rfl ⟨hT3, rfl⟩
  have hl3 : ∀ (n3 : Nat) (v3_6 : Nat), 6 < v3_6 + n3 → v3_6 ≤ 6 → d_X0_priceAlong_32 w g f x1 x2 kt3 n3 v3_6 = r → zZ k G N w 32 [(0, .ref (zad G (6 + 6 * g))), (1, .int (nI f)), (2, .int right), (3, .int up), (4, .int x1), (5, .int x2), (6, .int (nI v3_6))] [] := by
    intro n3
    induction n3 with
    | zero =>
      intro v3_6 q3_0 q3_1
      exact absurd q3_0 (by omega)
    | succ n3 ih3 =>
      intro v3_6 q3_0 q3_1 hT3
      rw [d_X0_priceAlong_32] at hT3
      refine z_iload ok dX0_priceAlong_32 6 rfl ?_
      refine z_iload ok dX0_priceAlong_34 4 rfl ?_
      refine z_icmp_ge ok dX0_priceAlong_36 79 (by decide) (fun c4 => ?_) (fun c4 => ?_)
      · rw [if_pos c4] at hT3
        refine z_locs [0, 1, 2, 3, 4, 5, 6] (lv' := [(0, .ref (zad G (6 + 6 * g))), (1, .int (nI f)), (2, .int right), (3, .int up), (4, .int x1), (5, .int x2), (6, .int (nI v3_6))]) rfl ?_
        exact hk3 v3_6 (by omega) hT3
      · rw [if_neg c4] at hT3
        have hdn := zsteps_lt (d := v3_6) (by assumption) hst (by omega)
        refine z_iload_n ok dX0_priceAlong_39 1 rfl ?_
        refine z_iload ok dX0_priceAlong_40 6 rfl ?_
        refine z_iload ok dX0_priceAlong_42 5 rfl ?_
        refine z_imul ok dX0_priceAlong_44 ?_
        refine z_iadd ok dX0_priceAlong_45 ?_
        replace hT3 := zlet_open hT3
        obtain ⟨x5, hx5, hT3⟩ := hT3
        rw [← hx5]
        refine z_istore ok dX0_priceAlong_46 (hI 7 (by decide)) (lv' := [(7, .int x5), (0, .ref (zad G (6 + 6 * g))), (1, .int (nI f)), (2, .int right), (3, .int up), (4, .int x1), (5, .int x2), (6, .int (nI v3_6))]) rfl ?_
        refine z_iload ok dX0_priceAlong_48 0 rfl ?_
        refine z_if_lt ok dX0_priceAlong_50 71 (by decide) (fun c6 => ?_) (fun c6 => ?_)
        · rw [if_pos c6] at hT3
          refine z_iconst ok dX0_priceAlong_71 (x := 0) (by decide) ?_
          exact z_iret ok hE dX0_priceAlong_72 rfl ⟨hT3, rfl⟩
        · rw [if_neg c6] at hT3
          refine z_iload ok dX0_priceAlong_53 0 rfl ?_
          refine z_bipush ok dX0_priceAlong_55 (x := 36) (by decide) ?_
          refine z_icmp_ge ok dX0_priceAlong_57 71 (by decide) (fun c7 => ?_) (fun c7 => ?_)
          · rw [if_pos c7] at hT3
            refine z_iconst ok dX0_priceAlong_71 (x := 0) (by decide) ?_
            exact z_iret ok hE dX0_priceAlong_72 rfl ⟨hT3, rfl⟩
          · rw [if_neg c7] at hT3
            refine z_aload_n ok dX0_priceAlong_60 1 rfl ?_
            refine z_get_X0_sides ok dX0_priceAlong_61 g h_g hN zw_74 ?_
            refine z_iload ok dX0_priceAlong_64 0 rfl ?_
            refine z_gld0 ok dX0_priceAlong_66 g h_g hN x5.toNatClampNeg (zidx (by assumption) (by assumption)).1 (zidx (by assumption) (by assumption)).2 ?_
            refine z_iconst ok dX0_priceAlong_67 (x := (-1)) (by decide) ?_
            refine z_icmp_eq ok dX0_priceAlong_68 73 (by decide) (fun c8 => ?_) (fun c8 => ?_)
            · rw [if_pos c8] at hT3
              refine z_iinc ok dX0_priceAlong_73 (hI 6 (by decide)) 7 rfl (y := (nI (v3_6 + 1))) (z_incn v3_6 1) (lv' := [(6, .int (nI (v3_6 + 1))), (7, .int x5), (0, .ref (zad G (6 + 6 * g))), (1, .int (nI f)), (2, .int right), (3, .int up), (4, .int x1), (5, .int x2)]) rfl ?_
              refine z_goto ok dX0_priceAlong_76 32 (by decide) ?_
              refine z_locs [2, 3, 4, 5, 6, 7, 0] (lv' := [(0, .ref (zad G (6 + 6 * g))), (1, .int (nI f)), (2, .int right), (3, .int up), (4, .int x1), (5, .int x2), (6, .int (nI (v3_6 + 1)))]) rfl ?_
              exact ih3 (v3_6 + 1) (by omega) (by omega) hT3
            · rw [if_neg c8] at hT3
              refine z_iconst ok dX0_priceAlong_71 (x := 0) (by decide) ?_
              exact z_iret ok hE dX0_priceAlong_72 rfl ⟨hT3, rfl⟩
  exact hl3 7 1 (by omega) (by omega) hT

def d_X0_price (w : xW) (g : Nat) (f : Nat) (t : Nat) : Int32 :=
  zlet ((d_X0_sideOn w g f)) fun x1 =>
  zlet ((d_X0_sideOn w g t)) fun x2 =>
  if x1 = (-1) then (0)
  else (if x2 = x1 then (0)
  else (zlet (((nI (t % 6)) - (nI (f % 6)))) fun x5 =>
  zlet (((nI (t / 6)) - (nI (f / 6)))) fun x6 =>
  zlet ((if 0 ≤ x5 then x5 else 0 - x5)) fun x7 =>
  zlet ((if 0 ≤ x6 then x6 else 0 - x6)) fun x8 =>
  if (d_X0_kindOn w g f) = 0 then (if (if x7 < x8 then x8 else x7) = 1 then (1)
  else (0))
  else (if (d_X0_kindOn w g f) = 1 then (if x7 = 0 then ((d_X0_priceAlong w g f x5 x6))
  else (if x8 = 0 then ((d_X0_priceAlong w g f x5 x6))
  else (0)))
  else (if (d_X0_kindOn w g f) = 2 then (if x7 = x8 then ((d_X0_priceAlong w g f x5 x6))
  else (0))
  else (if (d_X0_kindOn w g f) = 3 then (if (x7 * x8) = 2 then (2)
  else (0))
  else (if x1 = 0 then (if x6 = 1 then (if x2 = (-1) then (if x7 = 0 then (1)
  else (0))
  else (if x7 = 1 then (1)
  else (0)))
  else (0))
  else (if x6 = (-1) then (if x2 = (-1) then (if x7 = 0 then (1)
  else (0))
  else (if x7 = 1 then (1)
  else (0)))
  else (0))))))))
set_option maxRecDepth 100000 in
set_option maxHeartbeats 4000000 in
theorem c_X0_price (G : zG) (N : Nat) (hN : 47 ≤ N) (hg : zGeo G N) (w : xW) (g : Nat) (h_g : g < 7) (f : Nat) (h_f : f < 36) (t : Nat) (h_t : t < 36) : zM yX0_price cX0_price 10 (some .int) 2 48 G N [.ref (zad G (6 + 6 * g)), .int (nI f), .int (nI t)] w (some (d_X0_price w g f t)) w := by
  generalize hT : d_X0_price w g f t = r
  unfold d_X0_price at hT
  refine zM_of zy_X0_price.2.2.2.2.2.2.2 hg ⟨Nat.le_of_ble_eq_true rfl, by decide⟩ rfl (fun k ok hE hI => ?_)
  have old := hE.old
  refine z_aload_n ok dX0_price_0 0 rfl ?_
  refine z_iload_n ok dX0_price_1 1 rfl ?_
  refine z_callVi ok old dX0_price_2 [] (c_X0_sideOn G N hN hg w g h_g f (by omega)) zy_X0_sideOn zw_269 (6 + 6 * g) (zg_lt' hN h_g) (zE_board G w h_g) rfl rfl rfl rfl rfl (by decide) (Nat.le_of_ble_eq_true rfl) ?_
  replace hT := zlet_open hT
  obtain ⟨x1, hx1, hT⟩ := hT
  rw [← hx1]
  refine z_istore_n ok dX0_price_5 (hI 3 (by decide)) (lv' := [(3, .int x1), (0, .ref (zad G (6 + 6 * g))), (1, .int (nI f)), (2, .int (nI t))]) rfl ?_
  refine z_aload_n ok dX0_price_6 1 rfl ?_
  refine z_iload_n ok dX0_price_7 3 rfl ?_
  refine z_callVi ok old dX0_price_8 [] (c_X0_sideOn G N hN hg w g h_g t (by omega)) zy_X0_sideOn zw_269 (6 + 6 * g) (zg_lt' hN h_g) (zE_board G w h_g) rfl rfl rfl rfl rfl (by decide) (Nat.le_of_ble_eq_true rfl) ?_
  replace hT := zlet_open hT
  obtain ⟨x2, hx2, hT⟩ := hT
  rw [← hx2]
  refine z_istore ok dX0_price_11 (hI 4 (by decide)) (lv' := [(4, .int x2), (3, .int x1), (0, .ref (zad G (6 + 6 * g))), (1, .int (nI f)), (2, .int (nI t))]) rfl ?_
  refine z_iload_n ok dX0_price_13 1 rfl ?_
  refine z_iconst ok dX0_price_14 (x := (-1)) (by decide) ?_
  refine z_icmp_eq ok dX0_price_15 24 (by decide) (fun c3 => ?_) (fun c3 => ?_)
  · rw [if_pos c3] at hT
    refine z_iconst ok dX0_price_24 (x := 0) (by decide) ?_
    exact z_iret ok hE dX0_price_25 rfl ⟨hT, rfl⟩
  · rw [if_neg c3] at hT
    refine z_iload ok dX0_price_18 0 rfl ?_
    refine z_iload_n ok dX0_price_20 1 rfl ?_
    refine z_icmp_ne ok dX0_price_21 26 (by decide) (fun c4 => ?_) (fun c4 => ?_)
    · rw [if_neg c4] at hT
      refine z_iload_n ok dX0_price_26 4 rfl ?_
      refine z_bipush ok dX0_price_27 (x := 6) (by decide) ?_
      refine z_irem_n ok dX0_price_29 t 6 rfl rfl (by omega) (by omega) (by omega) ?_
      refine z_iload_n ok dX0_price_30 3 rfl ?_
      refine z_bipush ok dX0_price_31 (x := 6) (by decide) ?_
      refine z_irem_n ok dX0_price_33 f 6 rfl rfl (by omega) (by omega) (by omega) ?_
      refine z_isub ok dX0_price_34 ?_
      replace hT := zlet_open hT
      obtain ⟨x5, hx5, hT⟩ := hT
      rw [← hx5]
      refine z_istore ok dX0_price_35 (hI 5 (by decide)) (lv' := [(5, .int x5), (4, .int x2), (3, .int x1), (0, .ref (zad G (6 + 6 * g))), (1, .int (nI f)), (2, .int (nI t))]) rfl ?_
      refine z_iload_n ok dX0_price_37 5 rfl ?_
      refine z_bipush ok dX0_price_38 (x := 6) (by decide) ?_
      refine z_idiv_n ok dX0_price_40 t 6 rfl rfl (by omega) (by omega) (by omega) ?_
      refine z_iload_n ok dX0_price_41 4 rfl ?_
      refine z_bipush ok dX0_price_42 (x := 6) (by decide) ?_
      refine z_idiv_n ok dX0_price_44 f 6 rfl rfl (by omega) (by omega) (by omega) ?_
      refine z_isub ok dX0_price_45 ?_
      replace hT := zlet_open hT
      obtain ⟨x6, hx6, hT⟩ := hT
      rw [← hx6]
      refine z_istore ok dX0_price_46 (hI 6 (by decide)) (lv' := [(6, .int x6), (5, .int x5), (4, .int x2), (3, .int x1), (0, .ref (zad G (6 + 6 * g))), (1, .int (nI f)), (2, .int (nI t))]) rfl ?_
      refine z_iload ok dX0_price_48 1 rfl ?_
      refine z_abs ok dX0_price_50 zw_327 zw_328 zw_52 zw_329 ⟨by decide, Nat.le_of_ble_eq_true rfl⟩ ?_
      replace hT := zlet_open hT
      obtain ⟨x7, hx7, hT⟩ := hT
      rw [← hx7]
      refine z_istore ok dX0_price_53 (hI 7 (by decide)) (lv' := [(7, .int x7), (6, .int x6), (5, .int x5), (4, .int x2), (3, .int x1), (0, .ref (zad G (6 + 6 * g))), (1, .int (nI f)), (2, .int (nI t))]) rfl ?_
      refine z_iload ok dX0_price_55 1 rfl ?_
      refine z_abs ok dX0_price_57 zw_327 zw_328 zw_52 zw_329 ⟨by decide, Nat.le_of_ble_eq_true rfl⟩ ?_
      replace hT := zlet_open hT
      obtain ⟨x8, hx8, hT⟩ := hT
      rw [← hx8]
      refine z_istore ok dX0_price_60 (hI 8 (by decide)) (lv' := [(8, .int x8), (7, .int x7), (6, .int x6), (5, .int x5), (4, .int x2), (3, .int x1), (0, .ref (zad G (6 + 6 * g))), (1, .int (nI f)), (2, .int (nI t))]) rfl ?_
      refine z_aload_n ok dX0_price_62 6 rfl ?_
      refine z_iload_n ok dX0_price_63 7 rfl ?_
      refine z_callVi ok old dX0_price_64 [] (c_X0_kindOn G N hN hg w g h_g f (by omega)) zy_X0_kindOn zw_330 (6 + 6 * g) (zg_lt' hN h_g) (zE_board G w h_g) rfl rfl rfl rfl rfl (by decide) (Nat.le_of_ble_eq_true rfl) ?_
      by_cases c9 : (d_X0_kindOn w g f) = 0
      · rw [if_pos c9] at hT
        refine z_tableIn ok dX0_price_67 96 29 (by rw [c9]; decide) ?_
        refine z_iload ok dX0_price_96 1 rfl ?_
        refine z_iload ok dX0_price_98 0 rfl ?_
        refine z_max ok dX0_price_100 zw_334 zw_335 zw_52 zw_336 ⟨by decide, Nat.le_of_ble_eq_true rfl⟩ ?_
        refine z_iconst ok dX0_price_103 (x := 1) (by decide) ?_
        refine z_icmp_ne ok dX0_price_104 111 (by decide) (fun c10 => ?_) (fun c10 => ?_)
        · rw [if_neg c10] at hT
          refine z_iconst ok dX0_price_111 (x := 0) (by decide) ?_
          exact z_iret ok hE dX0_price_112 rfl ⟨hT, rfl⟩
        · rw [if_pos c10] at hT
          refine z_iconst ok dX0_price_107 (x := 1) (by decide) ?_
          refine z_goto ok dX0_price_108 112 (by decide) ?_
          exact z_iret ok hE dX0_price_112 rfl ⟨hT, rfl⟩
      · rw [if_neg c9] at hT
        by_cases c11 : (d_X0_kindOn w g f) = 1
        · rw [if_pos c11] at hT
          refine z_tableIn ok dX0_price_67 113 46 (by rw [c11]; decide) ?_
          refine z_iload ok dX0_price_113 1 rfl ?_
          refine z_if_eq ok dX0_price_115 123 (by decide) (fun c12 => ?_) (fun c12 => ?_)
          · rw [if_pos c12] at hT
            refine z_aload_n ok dX0_price_123 6 rfl ?_
            refine z_iload_n ok dX0_price_124 7 rfl ?_
            refine z_iload ok dX0_price_125 3 rfl ?_
            refine z_iload ok dX0_price_127 2 rfl ?_
            refine z_callVi ok old dX0_price_129 [] (c_X0_priceAlong G N hN hg w g h_g f (by omega) x5 x6 (by subst_vars; exact zdiff5 (by omega) (by omega)) (by subst_vars; exact zdiff5 (by omega) (by omega))) zy_X0_priceAlong zw_337 (6 + 6 * g) (zg_lt' hN h_g) (zE_board G w h_g) rfl rfl rfl rfl rfl (by decide) (Nat.le_of_ble_eq_true rfl) ?_
            refine z_goto ok dX0_price_132 136 (by decide) ?_
            exact z_iret ok hE dX0_price_136 rfl ⟨hT, rfl⟩
          · rw [if_neg c12] at hT
            refine z_iload ok dX0_price_118 0 rfl ?_
            refine z_if_ne ok dX0_price_120 135 (by decide) (fun c13 => ?_) (fun c13 => ?_)
            · rw [if_neg c13] at hT
              refine z_iconst ok dX0_price_135 (x := 0) (by decide) ?_
              exact z_iret ok hE dX0_price_136 rfl ⟨hT, rfl⟩
            · rw [if_pos c13] at hT
              refine z_aload_n ok dX0_price_123 6 rfl ?_
              refine z_iload_n ok dX0_price_124 7 rfl ?_
              refine z_iload ok dX0_price_125 3 rfl ?_
              refine z_iload ok dX0_price_127 2 rfl ?_
              refine z_callVi ok old dX0_price_129 [] (c_X0_priceAlong G N hN hg w g h_g f (by omega) x5 x6 (by subst_vars; exact zdiff5 (by omega) (by omega)) (by subst_vars; exact zdiff5 (by omega) (by omega))) zy_X0_priceAlong zw_337 (6 + 6 * g) (zg_lt' hN h_g) (zE_board G w h_g) rfl rfl rfl rfl rfl (by decide) (Nat.le_of_ble_eq_true rfl) ?_
              refine z_goto ok dX0_price_132 136 (by decide) ?_
              exact z_iret ok hE dX0_price_136 rfl ⟨hT, rfl⟩
        · rw [if_neg c11] at hT
          by_cases c14 : (d_X0_kindOn w g f) = 2
          · rw [if_pos c14] at hT
            refine z_tableIn ok dX0_price_67 137 70 (by rw [c14]; decide) ?_
            refine z_iload ok dX0_price_137 1 rfl ?_
            refine z_iload ok dX0_price_139 0 rfl ?_
            refine z_icmp_ne ok dX0_price_141 156 (by decide) (fun c15 => ?_) (fun c15 => ?_)
            · rw [if_neg c15] at hT
              refine z_iconst ok dX0_price_156 (x := 0) (by decide) ?_
              exact z_iret ok hE dX0_price_157 rfl ⟨hT, rfl⟩
            · rw [if_pos c15] at hT
              refine z_aload_n ok dX0_price_144 6 rfl ?_
              refine z_iload_n ok dX0_price_145 7 rfl ?_
              refine z_iload ok dX0_price_146 3 rfl ?_
              refine z_iload ok dX0_price_148 2 rfl ?_
              refine z_callVi ok old dX0_price_150 [] (c_X0_priceAlong G N hN hg w g h_g f (by omega) x5 x6 (by subst_vars; exact zdiff5 (by omega) (by omega)) (by subst_vars; exact zdiff5 (by omega) (by omega))) zy_X0_priceAlong zw_337 (6 + 6 * g) (zg_lt' hN h_g) (zE_board G w h_g) rfl rfl rfl rfl rfl (by decide) (Nat.le_of_ble_eq_true rfl) ?_
              refine z_goto ok dX0_price_153 157 (by decide) ?_
              exact z_iret ok hE dX0_price_157 rfl ⟨hT, rfl⟩
          · rw [if_neg c14] at hT
            by_cases c16 : (d_X0_kindOn w g f) = 3
            · rw [if_pos c16] at hT
              refine z_tableIn ok dX0_price_67 158 91 (by rw [c16]; decide) ?_
              refine z_iload ok dX0_price_158 1 rfl ?_
              refine z_iload ok dX0_price_160 0 rfl ?_
              refine z_imul ok dX0_price_162 ?_
              refine z_iconst ok dX0_price_163 (x := 2) (by decide) ?_
              refine z_icmp_ne ok dX0_price_164 171 (by decide) (fun c17 => ?_) (fun c17 => ?_)
              · rw [if_neg c17] at hT
                refine z_iconst ok dX0_price_171 (x := 0) (by decide) ?_
                exact z_iret ok hE dX0_price_172 rfl ⟨hT, rfl⟩
              · rw [if_pos c17] at hT
                refine z_iconst ok dX0_price_167 (x := 2) (by decide) ?_
                refine z_goto ok dX0_price_168 172 (by decide) ?_
                exact z_iret ok hE dX0_price_172 rfl ⟨hT, rfl⟩
            · rw [if_neg c16] at hT
              refine z_tableOut ok dX0_price_67 173 (ztab_out4 c9 c11 c14 c16) (by decide) ?_
              refine z_iload_n ok dX0_price_173 5 rfl ?_
              refine z_if_ne ok dX0_price_174 181 (by decide) (fun c18 => ?_) (fun c18 => ?_)
              · rw [if_neg c18] at hT
                refine z_iconst ok dX0_price_181 (x := (-1)) (by decide) ?_
                refine z_istore ok dX0_price_182 (hI 9 (by decide)) (lv' := [(9, .int (-1)), (8, .int x8), (7, .int x7), (6, .int x6), (5, .int x5), (4, .int x2), (3, .int x1), (0, .ref (zad G (6 + 6 * g))), (1, .int (nI f)), (2, .int (nI t))]) rfl ?_
                refine z_iload ok dX0_price_184 3 rfl ?_
                refine z_iload ok dX0_price_186 0 rfl ?_
                refine z_icmp_ne ok dX0_price_188 211 (by decide) (fun c19 => ?_) (fun c19 => ?_)
                · rw [if_neg c19] at hT
                  refine z_iconst ok dX0_price_211 (x := 0) (by decide) ?_
                  exact z_iret ok hE dX0_price_212 rfl ⟨hT, rfl⟩
                · rw [if_pos c19] at hT
                  refine z_iload ok dX0_price_191 2 rfl ?_
                  refine z_iload ok dX0_price_193 5 rfl ?_
                  refine z_iconst ok dX0_price_195 (x := (-1)) (by decide) ?_
                  refine z_icmp_ne ok dX0_price_196 203 (by decide) (fun c20 => ?_) (fun c20 => ?_)
                  · rw [if_neg c20] at hT
                    refine z_iconst ok dX0_price_203 (x := 1) (by decide) ?_
                    refine z_icmp_ne ok dX0_price_204 211 (by decide) (fun c21 => ?_) (fun c21 => ?_)
                    · rw [if_neg c21] at hT
                      refine z_iconst ok dX0_price_211 (x := 0) (by decide) ?_
                      exact z_iret ok hE dX0_price_212 rfl ⟨hT, rfl⟩
                    · rw [if_pos c21] at hT
                      refine z_iconst ok dX0_price_207 (x := 1) (by decide) ?_
                      refine z_goto ok dX0_price_208 212 (by decide) ?_
                      exact z_iret ok hE dX0_price_212 rfl ⟨hT, rfl⟩
                  · rw [if_pos c20] at hT
                    refine z_iconst ok dX0_price_199 (x := 0) (by decide) ?_
                    refine z_goto ok dX0_price_200 204 (by decide) ?_
                    refine z_icmp_ne ok dX0_price_204 211 (by decide) (fun c22 => ?_) (fun c22 => ?_)
                    · rw [if_neg c22] at hT
                      refine z_iconst ok dX0_price_211 (x := 0) (by decide) ?_
                      exact z_iret ok hE dX0_price_212 rfl ⟨hT, rfl⟩
                    · rw [if_pos c22] at hT
                      refine z_iconst ok dX0_price_207 (x := 1) (by decide) ?_
                      refine z_goto ok dX0_price_208 212 (by decide) ?_
                      exact z_iret ok hE dX0_price_212 rfl ⟨hT, rfl⟩
              · rw [if_pos c18] at hT
                refine z_iconst ok dX0_price_177 (x := 1) (by decide) ?_
                refine z_goto ok dX0_price_178 182 (by decide) ?_
                refine z_istore ok dX0_price_182 (hI 9 (by decide)) (lv' := [(9, .int 1), (8, .int x8), (7, .int x7), (6, .int x6), (5, .int x5), (4, .int x2), (3, .int x1), (0, .ref (zad G (6 + 6 * g))), (1, .int (nI f)), (2, .int (nI t))]) rfl ?_
                refine z_iload ok dX0_price_184 3 rfl ?_
                refine z_iload ok dX0_price_186 0 rfl ?_
                refine z_icmp_ne ok dX0_price_188 211 (by decide) (fun c23 => ?_) (fun c23 => ?_)
                · rw [if_neg c23] at hT
                  refine z_iconst ok dX0_price_211 (x := 0) (by decide) ?_
                  exact z_iret ok hE dX0_price_212 rfl ⟨hT, rfl⟩
                · rw [if_pos c23] at hT
                  refine z_iload ok dX0_price_191 2 rfl ?_
                  refine z_iload ok dX0_price_193 5 rfl ?_
                  refine z_iconst ok dX0_price_195 (x := (-1)) (by decide) ?_
                  refine z_icmp_ne ok dX0_price_196 203 (by decide) (fun c24 => ?_) (fun c24 => ?_)
                  · rw [if_neg c24] at hT
                    refine z_iconst ok dX0_price_203 (x := 1) (by decide) ?_
                    refine z_icmp_ne ok dX0_price_204 211 (by decide) (fun c25 => ?_) (fun c25 => ?_)
                    · rw [if_neg c25] at hT
                      refine z_iconst ok dX0_price_211 (x := 0) (by decide) ?_
                      exact z_iret ok hE dX0_price_212 rfl ⟨hT, rfl⟩
                    · rw [if_pos c25] at hT
                      refine z_iconst ok dX0_price_207 (x := 1) (by decide) ?_
                      refine z_goto ok dX0_price_208 212 (by decide) ?_
                      exact z_iret ok hE dX0_price_212 rfl ⟨hT, rfl⟩
                  · rw [if_pos c24] at hT
                    refine z_iconst ok dX0_price_199 (x := 0) (by decide) ?_
                    refine z_goto ok dX0_price_200 204 (by decide) ?_
                    refine z_icmp_ne ok dX0_price_204 211 (by decide) (fun c26 => ?_) (fun c26 => ?_)
                    · rw [if_neg c26] at hT
                      refine z_iconst ok dX0_price_211 (x := 0) (by decide) ?_
                      exact z_iret ok hE dX0_price_212 rfl ⟨hT, rfl⟩
                    · rw [if_pos c26] at hT
                      refine z_iconst ok dX0_price_207 (x := 1) (by decide) ?_
                      refine z_goto ok dX0_price_208 212 (by decide) ?_
                      exact z_iret ok hE dX0_price_212 rfl ⟨hT, rfl⟩
    · rw [if_pos c4] at hT
      refine z_iconst ok dX0_price_24 (x := 0) (by decide) ?_
      exact z_iret ok hE dX0_price_25 rfl ⟨hT, rfl⟩

def d_X0_canMove (w : xW) (g : Nat) (f : Nat) (t : Nat) : Int32 :=
  zlet ((d_X0_price w g f t)) fun x1 =>
  if x1 ≤ 0 then (0)
  else (if (d_X0_springOn w g f) < x1 then (0)
  else (1))
set_option maxRecDepth 100000 in
set_option maxHeartbeats 4000000 in
theorem c_X0_canMove (G : zG) (N : Nat) (hN : 47 ≤ N) (hg : zGeo G N) (w : xW) (g : Nat) (h_g : g < 7) (f : Nat) (h_f : f < 36) (t : Nat) (h_t : t < 36) : zM yX0_canMove cX0_canMove 4 (some .boolean) 3 77 G N [.ref (zad G (6 + 6 * g)), .int (nI f), .int (nI t)] w (some (d_X0_canMove w g f t)) w := by
  generalize hT : d_X0_canMove w g f t = r
  unfold d_X0_canMove at hT
  refine zM_of zy_X0_canMove.2.2.2.2.2.2.2 hg ⟨Nat.le_of_ble_eq_true rfl, by decide⟩ rfl (fun k ok hE hI => ?_)
  have old := hE.old
  refine z_aload_n ok dX0_canMove_0 0 rfl ?_
  refine z_iload_n ok dX0_canMove_1 1 rfl ?_
  refine z_iload_n ok dX0_canMove_2 2 rfl ?_
  refine z_callVi ok old dX0_canMove_3 [] (c_X0_price G N hN hg w g h_g f (by omega) t (by omega)) zy_X0_price zw_381 (6 + 6 * g) (zg_lt' hN h_g) (zE_board G w h_g) rfl rfl rfl rfl rfl (by decide) (Nat.le_of_ble_eq_true rfl) ?_
  replace hT := zlet_open hT
  obtain ⟨x1, hx1, hT⟩ := hT
  rw [← hx1]
  refine z_istore_n ok dX0_canMove_6 (hI 3 (by decide)) (lv' := [(3, .int x1), (0, .ref (zad G (6 + 6 * g))), (1, .int (nI f)), (2, .int (nI t))]) rfl ?_
  refine z_iload_n ok dX0_canMove_7 0 rfl ?_
  refine z_if_le ok dX0_canMove_8 24 (by decide) (fun c2 => ?_) (fun c2 => ?_)
  · rw [if_pos c2] at hT
    refine z_iconst ok dX0_canMove_24 (x := 0) (by decide) ?_
    exact z_iret ok hE dX0_canMove_25 rfl ⟨hT, rfl⟩
  · rw [if_neg c2] at hT
    refine z_iload_n ok dX0_canMove_11 0 rfl ?_
    refine z_aload_n ok dX0_canMove_12 1 rfl ?_
    refine z_iload_n ok dX0_canMove_13 2 rfl ?_
    refine z_callVi ok old dX0_canMove_14 [.int x1] (c_X0_springOn G N hN hg w g h_g f (by omega)) zy_X0_springOn zw_382 (6 + 6 * g) (zg_lt' hN h_g) (zE_board G w h_g) rfl rfl rfl rfl rfl (by decide) (Nat.le_of_ble_eq_true rfl) ?_
    refine z_icmp_gt ok dX0_canMove_17 24 (by decide) (fun c3 => ?_) (fun c3 => ?_)
    · rw [if_pos c3] at hT
      refine z_iconst ok dX0_canMove_24 (x := 0) (by decide) ?_
      exact z_iret ok hE dX0_canMove_25 rfl ⟨hT, rfl⟩
    · rw [if_neg c3] at hT
      refine z_iconst ok dX0_canMove_20 (x := 1) (by decide) ?_
      refine z_goto ok dX0_canMove_21 25 (by decide) ?_
      exact z_iret ok hE dX0_canMove_25 rfl ⟨hT, rfl⟩

def d_X0_movesFrom_4k  (e1_2 : Int32) (e1_3 : Nat) : Int32 :=
  e1_2
def d_X0_movesFrom_4 (w : xW) (g : Nat) (f : Nat) (kt1 : Int32 → Nat → Int32) : Nat → Int32 → Nat → Int32
  | 0, _, _ => default
  | n1 + 1, v1_2, v1_3 => if 36 ≤ v1_3 then (kt1 v1_2 v1_3)
  else (if (d_X0_canMove w g f v1_3) = 0 then (d_X0_movesFrom_4 w g f kt1 n1 v1_2 (v1_3 + 1))
  else (d_X0_movesFrom_4 w g f kt1 n1 (v1_2 + 1) (v1_3 + 1)))
def d_X0_movesFrom (w : xW) (g : Nat) (f : Nat) : Int32 :=
  d_X0_movesFrom_4 w g f d_X0_movesFrom_4k 37 0 0
set_option maxRecDepth 100000 in
set_option maxHeartbeats 4000000 in
theorem c_X0_movesFrom (G : zG) (N : Nat) (hN : 47 ≤ N) (hg : zGeo G N) (w : xW) (g : Nat) (h_g : g < 7) (f : Nat) (h_f : f < 36) : zM yX0_movesFrom cX0_movesFrom 4 (some .int) 4 100 G N [.ref (zad G (6 + 6 * g)), .int (nI f)] w (some (d_X0_movesFrom w g f)) w := by
  generalize hT : d_X0_movesFrom w g f = r
  unfold d_X0_movesFrom at hT
  refine zM_of zy_X0_movesFrom.2.2.2.2.2.2.2 hg ⟨Nat.le_of_ble_eq_true rfl, by decide⟩ rfl (fun k ok hE hI => ?_)
  have old := hE.old
  refine z_iconst ok dX0_movesFrom_0 (x := 0) (by decide) ?_
  refine z_istore_n ok dX0_movesFrom_1 (hI 2 (by decide)) (lv' := [(2, .int 0), (0, .ref (zad G (6 + 6 * g))), (1, .int (nI f))]) rfl ?_
  refine z_iconst ok dX0_movesFrom_2 (x := 0) (by decide) ?_
  refine z_istore_n ok dX0_movesFrom_3 (hI 3 (by decide)) (lv' := [(3, .int 0), (2, .int 0), (0, .ref (zad G (6 + 6 * g))), (1, .int (nI f))]) rfl ?_
  refine z_locs [2, 3, 1, 0] (lv' := [(0, .ref (zad G (6 + 6 * g))), (1, .int (nI f)), (2, .int 0), (3, .int 0)]) rfl ?_
  obtain ⟨kt1, hkt1⟩ : ∃ z, z = d_X0_movesFrom_4k := ⟨_, rfl⟩
  rw [← hkt1] at hT
  have hk1 : ∀ (e1_2 : Int32) (e1_3 : Nat), e1_3 ≤ 36 → kt1 e1_2 e1_3 = r → zZ k G N w 28 [(0, .ref (zad G (6 + 6 * g))), (1, .int (nI f)), (2, .int e1_2), (3, .int (nI e1_3))] [] := by
    intro e1_2 e1_3 q1_0 hT1
    rw [hkt1, d_X0_movesFrom_4k] at hT1
    refine z_iload_n ok dX0_movesFrom_28 2 rfl ?_
    exact z_iret ok hE dX0_movesFrom_29 rfl ⟨hT1, rfl⟩
  have hl1 : ∀ (n1 : Nat) (v1_2 : Int32) (v1_3 : Nat), 36 < v1_3 + n1 → v1_3 ≤ 36 → d_X0_movesFrom_4 w g f kt1 n1 v1_2 v1_3 = r → zZ k G N w 4 [(0, .ref (zad G (6 + 6 * g))), (1, .int (nI f)), (2, .int v1_2), (3, .int (nI v1_3))] [] := by
    intro n1
    induction n1 with
    | zero =>
      intro v1_2 v1_3 q1_0 q1_1
      exact absurd q1_0 (by omega)
    | succ n1 ih1 =>
      intro v1_2 v1_3 q1_0 q1_1 hT1
      rw [d_X0_movesFrom_4] at hT1
      refine z_iload_n ok dX0_movesFrom_4 3 rfl ?_
      refine z_bipush ok dX0_movesFrom_5 (x := 36) (by decide) ?_
      refine z_icmp_ge_n ok dX0_movesFrom_7 28 (by decide) v1_3 36 rfl rfl (by omega) (fun c2 => ?_) (fun c2 => ?_)
      · rw [if_pos c2] at hT1
        refine z_locs [0, 1, 2, 3] (lv' := [(0, .ref (zad G (6 + 6 * g))), (1, .int (nI f)), (2, .int v1_2), (3, .int (nI v1_3))]) rfl ?_
        exact hk1 v1_2 v1_3 (by omega) hT1
      · rw [if_neg c2] at hT1
        refine z_aload_n ok dX0_movesFrom_10 0 rfl ?_
        refine z_iload_n ok dX0_movesFrom_11 1 rfl ?_
        refine z_iload_n ok dX0_movesFrom_12 3 rfl ?_
        refine z_callVi ok old dX0_movesFrom_13 [] (c_X0_canMove G N hN hg w g h_g f (by omega) v1_3 (by omega)) zy_X0_canMove zw_377 (6 + 6 * g) (zg_lt' hN h_g) (zE_board G w h_g) rfl rfl rfl rfl rfl (by decide) (Nat.le_of_ble_eq_true rfl) ?_
        refine z_if_eq ok dX0_movesFrom_16 22 (by decide) (fun c3 => ?_) (fun c3 => ?_)
        · rw [if_pos c3] at hT1
          refine z_iinc ok dX0_movesFrom_22 (hI 3 (by decide)) 3 rfl (y := (nI (v1_3 + 1))) (z_incn v1_3 1) (lv' := [(3, .int (nI (v1_3 + 1))), (0, .ref (zad G (6 + 6 * g))), (1, .int (nI f)), (2, .int v1_2)]) rfl ?_
          refine z_goto ok dX0_movesFrom_25 4 (by decide) ?_
          refine z_locs [1, 2, 3, 0] (lv' := [(0, .ref (zad G (6 + 6 * g))), (1, .int (nI f)), (2, .int v1_2), (3, .int (nI (v1_3 + 1)))]) rfl ?_
          exact ih1 v1_2 (v1_3 + 1) (by omega) (by omega) hT1
        · rw [if_neg c3] at hT1
          refine z_iinc ok dX0_movesFrom_19 (hI 2 (by decide)) 2 rfl (y := (v1_2 + 1)) rfl (lv' := [(2, .int (v1_2 + 1)), (0, .ref (zad G (6 + 6 * g))), (1, .int (nI f)), (3, .int (nI v1_3))]) rfl ?_
          refine z_iinc ok dX0_movesFrom_22 (hI 3 (by decide)) 3 rfl (y := (nI (v1_3 + 1))) (z_incn v1_3 1) (lv' := [(3, .int (nI (v1_3 + 1))), (2, .int (v1_2 + 1)), (0, .ref (zad G (6 + 6 * g))), (1, .int (nI f))]) rfl ?_
          refine z_goto ok dX0_movesFrom_25 4 (by decide) ?_
          refine z_locs [2, 3, 1, 0] (lv' := [(0, .ref (zad G (6 + 6 * g))), (1, .int (nI f)), (2, .int (v1_2 + 1)), (3, .int (nI (v1_3 + 1)))]) rfl ?_
          exact ih1 (v1_2 + 1) (v1_3 + 1) (by omega) (by omega) hT1
  exact hl1 37 0 0 (by omega) (by omega) hT

def d_X0_movesOf_4k  (e1_2 : Int32) (e1_3 : Nat) : Int32 :=
  e1_2
def d_X0_movesOf_13 (w : xW) (g : Nat) (side : Int32) (v1_3 : Nat) (kt3 : Int32 → Nat → Int32) : Nat → Int32 → Nat → Int32
  | 0, _, _ => default
  | n3 + 1, v3_2, v3_4 => if (xg w g v1_3) = side then (if 36 ≤ v3_4 then (kt3 v3_2 v3_4)
  else (if (d_X0_canMove w g v1_3 v3_4) = 0 then (d_X0_movesOf_13 w g side v1_3 kt3 n3 v3_2 (v3_4 + 1))
  else (d_X0_movesOf_13 w g side v1_3 kt3 n3 (v3_2 + 1) (v3_4 + 1))))
  else (kt3 v3_2 v3_4)
def d_X0_movesOf_4 (w : xW) (g : Nat) (side : Int32) (kt1 : Int32 → Nat → Int32) : Nat → Int32 → Nat → Int32
  | 0, _, _ => default
  | n1 + 1, v1_2, v1_3 => if 36 ≤ v1_3 then (kt1 v1_2 v1_3)
  else (d_X0_movesOf_13 w g side v1_3 (fun e3_2 e3_4 => (d_X0_movesOf_4 w g side kt1 n1 e3_2 (v1_3 + 1))) 37 v1_2 0)
def d_X0_movesOf (w : xW) (g : Nat) (side : Int32) : Int32 :=
  d_X0_movesOf_4 w g side d_X0_movesOf_4k 37 0 0
set_option maxRecDepth 100000 in
set_option maxHeartbeats 4000000 in
theorem c_X0_movesOf (G : zG) (N : Nat) (hN : 47 ≤ N) (hg : zGeo G N) (w : xW) (g : Nat) (h_g : g < 7) (side : Int32) : zM yX0_movesOf cX0_movesOf 5 (some .int) 4 100 G N [.ref (zad G (6 + 6 * g)), .int side] w (some (d_X0_movesOf w g side)) w := by
  generalize hT : d_X0_movesOf w g side = r
  unfold d_X0_movesOf at hT
  refine zM_of zy_X0_movesOf.2.2.2.2.2.2.2 hg ⟨Nat.le_of_ble_eq_true rfl, by decide⟩ rfl (fun k ok hE hI => ?_)
  have old := hE.old
  refine z_iconst ok dX0_movesOf_0 (x := 0) (by decide) ?_
  refine z_istore_n ok dX0_movesOf_1 (hI 2 (by decide)) (lv' := [(2, .int 0), (0, .ref (zad G (6 + 6 * g))), (1, .int side)]) rfl ?_
  refine z_iconst ok dX0_movesOf_2 (x := 0) (by decide) ?_
  refine z_istore_n ok dX0_movesOf_3 (hI 3 (by decide)) (lv' := [(3, .int 0), (2, .int 0), (0, .ref (zad G (6 + 6 * g))), (1, .int side)]) rfl ?_
  refine z_locs [2, 3, 1, 0] (lv' := [(0, .ref (zad G (6 + 6 * g))), (1, .int side), (2, .int 0), (3, .int 0)]) rfl ?_
  obtain ⟨kt1, hkt1⟩ : ∃ z, z = d_X0_movesOf_4k := ⟨_, rfl⟩
  rw [← hkt1] at hT
  have hk1 : ∀ (e1_2 : Int32) (e1_3 : Nat), e1_3 ≤ 36 → kt1 e1_2 e1_3 = r → zZ k G N w 55 [(0, .ref (zad G (6 + 6 * g))), (1, .int side), (2, .int e1_2), (3, .int (nI e1_3))] [] := by
    intro e1_2 e1_3 q1_0 hT1
    rw [hkt1, d_X0_movesOf_4k] at hT1
    refine z_iload_n ok dX0_movesOf_55 2 rfl ?_
    exact z_iret ok hE dX0_movesOf_56 rfl ⟨hT1, rfl⟩
  have hl1 : ∀ (n1 : Nat) (v1_2 : Int32) (v1_3 : Nat), 36 < v1_3 + n1 → v1_3 ≤ 36 → d_X0_movesOf_4 w g side kt1 n1 v1_2 v1_3 = r → zZ k G N w 4 [(0, .ref (zad G (6 + 6 * g))), (1, .int side), (2, .int v1_2), (3, .int (nI v1_3))] [] := by
    intro n1
    induction n1 with
    | zero =>
      intro v1_2 v1_3 q1_0 q1_1
      exact absurd q1_0 (by omega)
    | succ n1 ih1 =>
      intro v1_2 v1_3 q1_0 q1_1 hT1
      rw [d_X0_movesOf_4] at hT1
      refine z_iload_n ok dX0_movesOf_4 3 rfl ?_
      refine z_bipush ok dX0_movesOf_5 (x := 36) (by decide) ?_
      refine z_icmp_ge_n ok dX0_movesOf_7 55 (by decide) v1_3 36 rfl rfl (by omega) (fun c2 => ?_) (fun c2 => ?_)
      · rw [if_pos c2] at hT1
        refine z_locs [0, 1, 2, 3] (lv' := [(0, .ref (zad G (6 + 6 * g))), (1, .int side), (2, .int v1_2), (3, .int (nI v1_3))]) rfl ?_
        exact hk1 v1_2 v1_3 (by omega) hT1
      · rw [if_neg c2] at hT1
        refine z_iconst ok dX0_movesOf_10 (x := 0) (by decide) ?_
        refine z_istore ok dX0_movesOf_11 (hI 4 (by decide)) (lv' := [(4, .int 0), (0, .ref (zad G (6 + 6 * g))), (1, .int side), (2, .int v1_2), (3, .int (nI v1_3))]) rfl ?_
        refine z_locs [1, 2, 3, 4, 0] (lv' := [(0, .ref (zad G (6 + 6 * g))), (1, .int side), (2, .int v1_2), (3, .int (nI v1_3)), (4, .int 0)]) rfl ?_
        obtain ⟨kt3, hkt3⟩ : ∃ z, z = ((fun e3_2 e3_4 => (d_X0_movesOf_4 w g side kt1 n1 e3_2 (v1_3 + 1))) : Int32 → Nat → Int32) := ⟨_, rfl⟩
        rw [← hkt3] at hT1
        have hk3 : ∀ (e3_2 : Int32) (e3_4 : Nat), e3_4 ≤ 36 → kt3 e3_2 e3_4 = r → zZ k G N w 49 [(0, .ref (zad G (6 + 6 * g))), (1, .int side), (2, .int e3_2), (3, .int (nI v1_3)), (4, .int (nI e3_4))] [] := by
          intro e3_2 e3_4 q3_0 hT3
          rw [hkt3] at hT3
          dsimp only at hT3
          refine z_iinc ok dX0_movesOf_49 (hI 3 (by decide)) 3 rfl (y := (nI (v1_3 + 1))) (z_incn v1_3 1) (lv' := [(3, .int (nI (v1_3 + 1))), (0, .ref (zad G (6 + 6 * g))), (1, .int side), (2, .int e3_2), (4, .int (nI e3_4))]) rfl ?_
          refine z_goto ok dX0_movesOf_52 4 (by decide) ?_
          refine z_locs [1, 2, 3, 0] (lv' := [(0, .ref (zad G (6 + 6 * g))), (1, .int side), (2, .int e3_2), (3, .int (nI (v1_3 + 1)))]) rfl ?_
          exact ih1 e3_2 (v1_3 + 1) (by omega) (by omega) hT3
        have hl3 : ∀ (n3 : Nat) (v3_2 : Int32) (v3_4 : Nat), 36 < v3_4 + n3 → v3_4 ≤ 36 → d_X0_movesOf_13 w g side v1_3 kt3 n3 v3_2 v3_4 = r → zZ k G N w 13 [(0, .ref (zad G (6 + 6 * g))), (1, .int side), (2, .int v3_2), (3, .int (nI v1_3)), (4, .int (nI v3_4))] [] := by
          intro n3
          induction n3 with
          | zero =>
            intro v3_2 v3_4 q3_0 q3_1
            exact absurd q3_0 (by omega)
          | succ n3 ih3 =>
            intro v3_2 v3_4 q3_0 q3_1 hT3
            rw [d_X0_movesOf_13] at hT3
            refine z_aload_n ok dX0_movesOf_13 0 rfl ?_
            refine z_get_X0_sides ok dX0_movesOf_14 g h_g hN zw_74 ?_
            refine z_iload_n ok dX0_movesOf_17 3 rfl ?_
            refine z_gld0 ok dX0_movesOf_18 g h_g hN v1_3 rfl (by omega) ?_
            refine z_iload_n ok dX0_movesOf_19 1 rfl ?_
            refine z_icmp_ne ok dX0_movesOf_20 49 (by decide) (fun c4 => ?_) (fun c4 => ?_)
            · rw [if_neg c4] at hT3
              refine z_locs [0, 1, 2, 3, 4] (lv' := [(0, .ref (zad G (6 + 6 * g))), (1, .int side), (2, .int v3_2), (3, .int (nI v1_3)), (4, .int (nI v3_4))]) rfl ?_
              exact hk3 v3_2 v3_4 (by omega) hT3
            · rw [if_pos c4] at hT3
              refine z_iload ok dX0_movesOf_23 4 rfl ?_
              refine z_bipush ok dX0_movesOf_25 (x := 36) (by decide) ?_
              refine z_icmp_ge_n ok dX0_movesOf_27 49 (by decide) v3_4 36 rfl rfl (by omega) (fun c5 => ?_) (fun c5 => ?_)
              · rw [if_pos c5] at hT3
                refine z_locs [0, 1, 2, 3, 4] (lv' := [(0, .ref (zad G (6 + 6 * g))), (1, .int side), (2, .int v3_2), (3, .int (nI v1_3)), (4, .int (nI v3_4))]) rfl ?_
                exact hk3 v3_2 v3_4 (by omega) hT3
              · rw [if_neg c5] at hT3
                refine z_aload_n ok dX0_movesOf_30 0 rfl ?_
                refine z_iload_n ok dX0_movesOf_31 3 rfl ?_
                refine z_iload ok dX0_movesOf_32 4 rfl ?_
                refine z_callVi ok old dX0_movesOf_34 [] (c_X0_canMove G N hN hg w g h_g v1_3 (by omega) v3_4 (by omega)) zy_X0_canMove zw_377 (6 + 6 * g) (zg_lt' hN h_g) (zE_board G w h_g) rfl rfl rfl rfl rfl (by decide) (Nat.le_of_ble_eq_true rfl) ?_
                refine z_if_eq ok dX0_movesOf_37 43 (by decide) (fun c6 => ?_) (fun c6 => ?_)
                · rw [if_pos c6] at hT3
                  refine z_iinc ok dX0_movesOf_43 (hI 4 (by decide)) 4 rfl (y := (nI (v3_4 + 1))) (z_incn v3_4 1) (lv' := [(4, .int (nI (v3_4 + 1))), (0, .ref (zad G (6 + 6 * g))), (1, .int side), (2, .int v3_2), (3, .int (nI v1_3))]) rfl ?_
                  refine z_goto ok dX0_movesOf_46 13 (by decide) ?_
                  refine z_locs [1, 2, 3, 4, 0] (lv' := [(0, .ref (zad G (6 + 6 * g))), (1, .int side), (2, .int v3_2), (3, .int (nI v1_3)), (4, .int (nI (v3_4 + 1)))]) rfl ?_
                  exact ih3 v3_2 (v3_4 + 1) (by omega) (by omega) hT3
                · rw [if_neg c6] at hT3
                  refine z_iinc ok dX0_movesOf_40 (hI 2 (by decide)) 2 rfl (y := (v3_2 + 1)) rfl (lv' := [(2, .int (v3_2 + 1)), (0, .ref (zad G (6 + 6 * g))), (1, .int side), (3, .int (nI v1_3)), (4, .int (nI v3_4))]) rfl ?_
                  refine z_iinc ok dX0_movesOf_43 (hI 4 (by decide)) 4 rfl (y := (nI (v3_4 + 1))) (z_incn v3_4 1) (lv' := [(4, .int (nI (v3_4 + 1))), (2, .int (v3_2 + 1)), (0, .ref (zad G (6 + 6 * g))), (1, .int side), (3, .int (nI v1_3))]) rfl ?_
                  refine z_goto ok dX0_movesOf_46 13 (by decide) ?_
                  refine z_locs [2, 3, 1, 4, 0] (lv' := [(0, .ref (zad G (6 + 6 * g))), (1, .int side), (2, .int (v3_2 + 1)), (3, .int (nI v1_3)), (4, .int (nI (v3_4 + 1)))]) rfl ?_
                  exact ih3 (v3_2 + 1) (v3_4 + 1) (by omega) (by omega) hT3
        exact hl3 37 v1_2 0 (by omega) (by omega) hT1
  exact hl1 37 0 0 (by omega) (by omega) hT

def d_X0_copyFrom (w : xW) (g : Nat) (h : Nat) : xW :=
  zlet (xcopy w g 0 h 0) fun w1 =>
  zlet (xcopy w1 g 36 h 36) fun w2 =>
  zlet (xcopy w2 g 72 h 72) fun w3 =>
  zlet (xcopy w3 g 108 h 108) fun w4 =>
  w4
set_option maxRecDepth 100000 in
set_option maxHeartbeats 4000000 in
theorem c_X0_copyFrom (G : zG) (N : Nat) (hN : 47 ≤ N) (hg : zGeo G N) (w : xW) (g : Nat) (h_g : g < 7) (h : Nat) (h_h : h < 7) : zM yX0_copyFrom cX0_copyFrom 2 none 1 60 G N [.ref (zad G (6 + 6 * g)), .ref (zad G (6 + 6 * h))] w none (d_X0_copyFrom w g h) := by
  generalize hT : d_X0_copyFrom w g h = u
  unfold d_X0_copyFrom at hT
  refine zM_of zy_X0_copyFrom.2.2.2.2.2.2.2 hg ⟨Nat.le_of_ble_eq_true rfl, by decide⟩ rfl (fun k ok hE hI => ?_)
  have old := hE.old
  refine z_aload_n ok dX0_copyFrom_0 1 rfl ?_
  refine z_get_X0_sides ok dX0_copyFrom_1 h h_h hN zw_74 ?_
  refine z_iconst ok dX0_copyFrom_4 (x := 0) (by decide) ?_
  refine z_aload_n ok dX0_copyFrom_5 0 rfl ?_
  refine z_get_X0_sides ok dX0_copyFrom_6 g h_g hN zw_74 ?_
  refine z_iconst ok dX0_copyFrom_9 (x := 0) (by decide) ?_
  refine z_bipush ok dX0_copyFrom_10 (x := 36) (by decide) ?_
  refine z_copy ok dX0_copyFrom_12 zw_222 zw_224 zw_223 zw_51 (7 + 6 * h) (7 + 6 * g) (by have := (show h < 7 from h_h); omega) (by have := (show g < 7 from h_g); omega) ((fun u => zE_arr (r := 0) G u h_h (by decide)) w) (fun u => zE_arr (r := 0) G u h_g (by decide)) (v := g) (o := 0) (v0 := h) (o0 := 0) (n := 36) (u := xcopy w g 0 h 0) rfl (by decide) (xcopy_xg w g 0 h 0) rfl (fun b h1 h2 => zown_cp (r := 0) h_g (by decide) h1 h2) ⟨by decide, Nat.le_trans (Nat.add_le_add_left znative _) (Nat.le_of_ble_eq_true rfl)⟩ ?_
  replace hT := zlet_open hT
  obtain ⟨w1, hw1, hT⟩ := hT
  rw [← hw1]
  refine z_aload_n ok dX0_copyFrom_15 1 rfl ?_
  refine z_get_X0_kinds ok dX0_copyFrom_16 h h_h hN zw_75 ?_
  refine z_iconst ok dX0_copyFrom_19 (x := 0) (by decide) ?_
  refine z_aload_n ok dX0_copyFrom_20 0 rfl ?_
  refine z_get_X0_kinds ok dX0_copyFrom_21 g h_g hN zw_75 ?_
  refine z_iconst ok dX0_copyFrom_24 (x := 0) (by decide) ?_
  refine z_bipush ok dX0_copyFrom_25 (x := 36) (by decide) ?_
  refine z_copy ok dX0_copyFrom_27 zw_222 zw_224 zw_223 zw_51 (8 + 6 * h) (8 + 6 * g) (by have := (show h < 7 from h_h); omega) (by have := (show g < 7 from h_g); omega) ((fun u => zE_arr (r := 1) G u h_h (by decide)) w1) (fun u => zE_arr (r := 1) G u h_g (by decide)) (v := g) (o := 36) (v0 := h) (o0 := 36) (n := 36) (u := xcopy w1 g 36 h 36) rfl (by decide) (xcopy_xg w1 g 36 h 36) rfl (fun b h1 h2 => zown_cp (r := 1) h_g (by decide) h1 h2) ⟨by decide, Nat.le_trans (Nat.add_le_add_left znative _) (Nat.le_of_ble_eq_true rfl)⟩ ?_
  replace hT := zlet_open hT
  obtain ⟨w2, hw2, hT⟩ := hT
  rw [← hw2]
  refine z_aload_n ok dX0_copyFrom_30 1 rfl ?_
  refine z_get_X0_springs ok dX0_copyFrom_31 h h_h hN zw_76 ?_
  refine z_iconst ok dX0_copyFrom_34 (x := 0) (by decide) ?_
  refine z_aload_n ok dX0_copyFrom_35 0 rfl ?_
  refine z_get_X0_springs ok dX0_copyFrom_36 g h_g hN zw_76 ?_
  refine z_iconst ok dX0_copyFrom_39 (x := 0) (by decide) ?_
  refine z_bipush ok dX0_copyFrom_40 (x := 36) (by decide) ?_
  refine z_copy ok dX0_copyFrom_42 zw_222 zw_224 zw_223 zw_51 (9 + 6 * h) (9 + 6 * g) (by have := (show h < 7 from h_h); omega) (by have := (show g < 7 from h_g); omega) ((fun u => zE_arr (r := 2) G u h_h (by decide)) w2) (fun u => zE_arr (r := 2) G u h_g (by decide)) (v := g) (o := 72) (v0 := h) (o0 := 72) (n := 36) (u := xcopy w2 g 72 h 72) rfl (by decide) (xcopy_xg w2 g 72 h 72) rfl (fun b h1 h2 => zown_cp (r := 2) h_g (by decide) h1 h2) ⟨by decide, Nat.le_trans (Nat.add_le_add_left znative _) (Nat.le_of_ble_eq_true rfl)⟩ ?_
  replace hT := zlet_open hT
  obtain ⟨w3, hw3, hT⟩ := hT
  rw [← hw3]
  refine z_aload_n ok dX0_copyFrom_45 1 rfl ?_
  refine z_get_X0_towers ok dX0_copyFrom_46 h h_h hN zw_77 ?_
  refine z_iconst ok dX0_copyFrom_49 (x := 0) (by decide) ?_
  refine z_aload_n ok dX0_copyFrom_50 0 rfl ?_
  refine z_get_X0_towers ok dX0_copyFrom_51 g h_g hN zw_77 ?_
  refine z_iconst ok dX0_copyFrom_54 (x := 0) (by decide) ?_
  refine z_bipush ok dX0_copyFrom_55 (x := 36) (by decide) ?_
  refine z_copy ok dX0_copyFrom_57 zw_222 zw_224 zw_223 zw_51 (10 + 6 * h) (10 + 6 * g) (by have := (show h < 7 from h_h); omega) (by have := (show g < 7 from h_g); omega) ((fun u => zE_arr (r := 3) G u h_h (by decide)) w3) (fun u => zE_arr (r := 3) G u h_g (by decide)) (v := g) (o := 108) (v0 := h) (o0 := 108) (n := 36) (u := xcopy w3 g 108 h 108) rfl (by decide) (xcopy_xg w3 g 108 h 108) rfl (fun b h1 h2 => zown_cp (r := 3) h_g (by decide) h1 h2) ⟨by decide, Nat.le_trans (Nat.add_le_add_left znative _) (Nat.le_of_ble_eq_true rfl)⟩ ?_
  replace hT := zlet_open hT
  obtain ⟨w4, hw4, hT⟩ := hT
  rw [← hw4]
  exact z_vret ok hE dX0_copyFrom_60 hT

def d_X0_arrange_92k  (e3_2 : Nat) (ew3 : xW) : xW :=
  ew3
def d_X0_arrange_92 (g : Nat) (kt3 : Nat → xW → xW) : Nat → Nat → xW → xW
  | 0, _, _ => default
  | n3 + 1, v3_2, vw3 => if 6 ≤ v3_2 then (kt3 v3_2 vw3)
  else (zlet (d_X0_markTower vw3 g (zRow1n v3_2) 1) fun w5 =>
  d_X0_arrange_92 g kt3 n3 (v3_2 + 1) w5)
def d_X0_arrange_27k (g : Nat) (e2_2 : Nat) (ew2 : xW) : xW :=
  d_X0_arrange_92 g d_X0_arrange_92k 7 0 ew2
def d_X0_arrange_27 (g : Nat) (spring : Int32) (kt2 : Nat → xW → xW) : Nat → Nat → xW → xW
  | 0, _, _ => default
  | n2 + 1, v2_2, vw2 => if 6 ≤ v2_2 then (kt2 v2_2 vw2)
  else (zlet (d_X0_place vw2 g v2_2 0 (zRow0 v2_2) spring) fun w7 =>
  zlet (d_X0_place w7 g (6 + v2_2) 0 4 spring) fun w8 =>
  zlet (d_X0_place w8 g (24 + v2_2) 1 4 spring) fun w9 =>
  zlet (d_X0_place w9 g (30 + v2_2) 1 (zRow0 v2_2) spring) fun w10 =>
  d_X0_arrange_27 g spring kt2 n2 (v2_2 + 1) w10)
def d_X0_arrange_2k (g : Nat) (spring : Int32) (e1_2 : Nat) (ew1 : xW) : xW :=
  d_X0_arrange_27 g spring (d_X0_arrange_27k g) 7 0 ew1
def d_X0_arrange_2 (g : Nat) (kt1 : Nat → xW → xW) : Nat → Nat → xW → xW
  | 0, _, _ => default
  | n1 + 1, v1_2, vw1 => if 36 ≤ v1_2 then (kt1 v1_2 vw1)
  else (zlet (d_X0_empty vw1 g v1_2) fun w12 =>
  zlet (d_X0_markTower w12 g v1_2 0) fun w13 =>
  d_X0_arrange_2 g kt1 n1 (v1_2 + 1) w13)
def d_X0_arrange (w : xW) (g : Nat) (spring : Int32) : xW :=
  d_X0_arrange_2 g (d_X0_arrange_2k g spring) 37 0 w
set_option maxRecDepth 100000 in
set_option maxHeartbeats 4000000 in
theorem c_X0_arrange (G : zG) (N : Nat) (hN : 47 ≤ N) (hg : zGeo G N) (w : xW) (g : Nat) (h_g : g < 7) (spring : Int32) : zM yX0_arrange cX0_arrange 3 none 3 65 G N [.ref (zad G (6 + 6 * g)), .int spring] w none (d_X0_arrange w g spring) := by
  generalize hT : d_X0_arrange w g spring = u
  unfold d_X0_arrange at hT
  refine zM_of zy_X0_arrange.2.2.2.2.2.2.2 hg ⟨Nat.le_of_ble_eq_true rfl, by decide⟩ rfl (fun k ok hE hI => ?_)
  have old := hE.old
  obtain ⟨t0, hst0⟩ := zSr_0 ok
  obtain ⟨t1, hst1⟩ := zSr_1 ok
  refine z_iconst ok dX0_arrange_0 (x := 0) (by decide) ?_
  refine z_istore_n ok dX0_arrange_1 (hI 2 (by decide)) (lv' := [(2, .int 0), (0, .ref (zad G (6 + 6 * g))), (1, .int spring)]) rfl ?_
  refine z_locs [1, 2, 0] (lv' := [(0, .ref (zad G (6 + 6 * g))), (1, .int spring), (2, .int 0)]) rfl ?_
  obtain ⟨kt1, hkt1⟩ : ∃ z, z = (d_X0_arrange_2k g spring) := ⟨_, rfl⟩
  rw [← hkt1] at hT
  have hk1 : ∀ (e1_2 : Nat) (ew1 : xW), e1_2 ≤ 36 → kt1 e1_2 ew1 = u → zZ k G N ew1 25 [(0, .ref (zad G (6 + 6 * g))), (1, .int spring), (2, .int (nI e1_2))] [] := by
    intro e1_2 ew1 q1_0 hT1
    rw [hkt1, d_X0_arrange_2k] at hT1
    refine z_iconst ok dX0_arrange_25 (x := 0) (by decide) ?_
    refine z_istore_n ok dX0_arrange_26 (hI 2 (by decide)) (lv' := [(2, .int 0), (0, .ref (zad G (6 + 6 * g))), (1, .int spring)]) rfl ?_
    refine z_locs [1, 2, 0] (lv' := [(0, .ref (zad G (6 + 6 * g))), (1, .int spring), (2, .int 0)]) rfl ?_
    obtain ⟨kt2, hkt2⟩ : ∃ z, z = (d_X0_arrange_27k g) := ⟨_, rfl⟩
    rw [← hkt2] at hT1
    have hk2 : ∀ (e2_2 : Nat) (ew2 : xW), e2_2 ≤ 6 → kt2 e2_2 ew2 = u → zZ k G N ew2 90 [(0, .ref (zad G (6 + 6 * g))), (1, .int spring), (2, .int (nI e2_2))] [] := by
      intro e2_2 ew2 q2_0 hT2
      rw [hkt2, d_X0_arrange_27k] at hT2
      refine z_iconst ok dX0_arrange_90 (x := 0) (by decide) ?_
      refine z_istore_n ok dX0_arrange_91 (hI 2 (by decide)) (lv' := [(2, .int 0), (0, .ref (zad G (6 + 6 * g))), (1, .int spring)]) rfl ?_
      refine z_locs [1, 2, 0] (lv' := [(0, .ref (zad G (6 + 6 * g))), (1, .int spring), (2, .int 0)]) rfl ?_
      obtain ⟨kt3, hkt3⟩ : ∃ z, z = d_X0_arrange_92k := ⟨_, rfl⟩
      rw [← hkt3] at hT2
      have hk3 : ∀ (e3_2 : Nat) (ew3 : xW), e3_2 ≤ 6 → kt3 e3_2 ew3 = u → zZ k G N ew3 116 [(0, .ref (zad G (6 + 6 * g))), (1, .int spring), (2, .int (nI e3_2))] [] := by
        intro e3_2 ew3 q3_0 hT3
        rw [hkt3, d_X0_arrange_92k] at hT3
        exact z_vret ok hE dX0_arrange_116 hT3
      have hl3 : ∀ (n3 : Nat) (v3_2 : Nat) (vw3 : xW), 6 < v3_2 + n3 → v3_2 ≤ 6 → d_X0_arrange_92 g kt3 n3 v3_2 vw3 = u → zZ k G N vw3 92 [(0, .ref (zad G (6 + 6 * g))), (1, .int spring), (2, .int (nI v3_2))] [] := by
        intro n3
        induction n3 with
        | zero =>
          intro v3_2 vw3 q3_0 q3_1
          exact absurd q3_0 (by omega)
        | succ n3 ih3 =>
          intro v3_2 vw3 q3_0 q3_1 hT3
          rw [d_X0_arrange_92] at hT3
          refine z_iload_n ok dX0_arrange_92 2 rfl ?_
          refine z_gets ok hE dX0_arrange_93 hst1 zw_166 ?_
          refine z_tlen ok hE dX0_arrange_96 hst1 ?_
          refine z_icmp_ge_n ok dX0_arrange_97 116 (by decide) v3_2 6 rfl rfl (by omega) (fun c4 => ?_) (fun c4 => ?_)
          · rw [if_pos c4] at hT3
            refine z_locs [0, 1, 2] (lv' := [(0, .ref (zad G (6 + 6 * g))), (1, .int spring), (2, .int (nI v3_2))]) rfl ?_
            exact hk3 v3_2 vw3 (by omega) hT3
          · rw [if_neg c4] at hT3
            refine z_aload_n ok dX0_arrange_100 0 rfl ?_
            refine z_gets ok hE dX0_arrange_101 hst1 zw_166 ?_
            refine z_iload_n ok dX0_arrange_104 2 rfl ?_
            refine z_tald ok hE dX0_arrange_105 hst1 v3_2 rfl (by omega) ?_
            have := zRow1_lt v3_2
            refine z_iconst ok dX0_arrange_106 (x := 1) (by decide) ?_
            refine z_callVv ok old dX0_arrange_107 [] (c_X0_markTower G N hN hg vw3 g h_g (zRow1n v3_2) (by omega) 1) zy_X0_markTower zw_160 (6 + 6 * g) (zg_lt' hN h_g) (zE_board G vw3 h_g) rfl rfl rfl rfl rfl (by decide) (Nat.le_of_ble_eq_true rfl) ?_
            replace hT3 := zlet_open hT3
            obtain ⟨w5, hw5, hT3⟩ := hT3
            rw [← hw5]
            refine z_iinc ok dX0_arrange_110 (hI 2 (by decide)) 2 rfl (y := (nI (v3_2 + 1))) (z_incn v3_2 1) (lv' := [(2, .int (nI (v3_2 + 1))), (0, .ref (zad G (6 + 6 * g))), (1, .int spring)]) rfl ?_
            refine z_goto ok dX0_arrange_113 92 (by decide) ?_
            refine z_locs [1, 2, 0] (lv' := [(0, .ref (zad G (6 + 6 * g))), (1, .int spring), (2, .int (nI (v3_2 + 1)))]) rfl ?_
            exact ih3 (v3_2 + 1) w5 (by omega) (by omega) hT3
      exact hl3 7 0 ew2 (by omega) (by omega) hT2
    have hl2 : ∀ (n2 : Nat) (v2_2 : Nat) (vw2 : xW), 6 < v2_2 + n2 → v2_2 ≤ 6 → d_X0_arrange_27 g spring kt2 n2 v2_2 vw2 = u → zZ k G N vw2 27 [(0, .ref (zad G (6 + 6 * g))), (1, .int spring), (2, .int (nI v2_2))] [] := by
      intro n2
      induction n2 with
      | zero =>
        intro v2_2 vw2 q2_0 q2_1
        exact absurd q2_0 (by omega)
      | succ n2 ih2 =>
        intro v2_2 vw2 q2_0 q2_1 hT2
        rw [d_X0_arrange_27] at hT2
        refine z_iload_n ok dX0_arrange_27 2 rfl ?_
        refine z_gets ok hE dX0_arrange_28 hst0 zw_164 ?_
        refine z_tlen ok hE dX0_arrange_31 hst0 ?_
        refine z_icmp_ge_n ok dX0_arrange_32 90 (by decide) v2_2 6 rfl rfl (by omega) (fun c6 => ?_) (fun c6 => ?_)
        · rw [if_pos c6] at hT2
          refine z_locs [0, 1, 2] (lv' := [(0, .ref (zad G (6 + 6 * g))), (1, .int spring), (2, .int (nI v2_2))]) rfl ?_
          exact hk2 v2_2 vw2 (by omega) hT2
        · rw [if_neg c6] at hT2
          refine z_aload_n ok dX0_arrange_35 0 rfl ?_
          refine z_iload_n ok dX0_arrange_36 2 rfl ?_
          refine z_iconst ok dX0_arrange_37 (x := 0) (by decide) ?_
          refine z_gets ok hE dX0_arrange_38 hst0 zw_164 ?_
          refine z_iload_n ok dX0_arrange_41 2 rfl ?_
          refine z_tald ok hE dX0_arrange_42 hst0 v2_2 rfl (by omega) ?_
          refine z_iload_n ok dX0_arrange_43 1 rfl ?_
          refine z_callVv ok old dX0_arrange_44 [] (c_X0_place G N hN hg vw2 g h_g v2_2 (by omega) 0 (zRow0 v2_2) spring) zy_X0_place zw_153 (6 + 6 * g) (zg_lt' hN h_g) (zE_board G vw2 h_g) rfl rfl rfl rfl rfl (by decide) (Nat.le_of_ble_eq_true rfl) ?_
          replace hT2 := zlet_open hT2
          obtain ⟨w7, hw7, hT2⟩ := hT2
          rw [← hw7]
          refine z_aload_n ok dX0_arrange_47 0 rfl ?_
          refine z_bipush ok dX0_arrange_48 (x := 6) (by decide) ?_
          refine z_iload_n ok dX0_arrange_50 2 rfl ?_
          refine z_iadd_n ok dX0_arrange_51 6 v2_2 rfl rfl ?_
          refine z_iconst ok dX0_arrange_52 (x := 0) (by decide) ?_
          refine z_iconst ok dX0_arrange_53 (x := 4) (by decide) ?_
          refine z_iload_n ok dX0_arrange_54 1 rfl ?_
          refine z_callVv ok old dX0_arrange_55 [] (c_X0_place G N hN hg w7 g h_g (6 + v2_2) (by omega) 0 4 spring) zy_X0_place zw_153 (6 + 6 * g) (zg_lt' hN h_g) (zE_board G w7 h_g) rfl rfl rfl rfl rfl (by decide) (Nat.le_of_ble_eq_true rfl) ?_
          replace hT2 := zlet_open hT2
          obtain ⟨w8, hw8, hT2⟩ := hT2
          rw [← hw8]
          refine z_aload_n ok dX0_arrange_58 0 rfl ?_
          refine z_bipush ok dX0_arrange_59 (x := 24) (by decide) ?_
          refine z_iload_n ok dX0_arrange_61 2 rfl ?_
          refine z_iadd_n ok dX0_arrange_62 24 v2_2 rfl rfl ?_
          refine z_iconst ok dX0_arrange_63 (x := 1) (by decide) ?_
          refine z_iconst ok dX0_arrange_64 (x := 4) (by decide) ?_
          refine z_iload_n ok dX0_arrange_65 1 rfl ?_
          refine z_callVv ok old dX0_arrange_66 [] (c_X0_place G N hN hg w8 g h_g (24 + v2_2) (by omega) 1 4 spring) zy_X0_place zw_153 (6 + 6 * g) (zg_lt' hN h_g) (zE_board G w8 h_g) rfl rfl rfl rfl rfl (by decide) (Nat.le_of_ble_eq_true rfl) ?_
          replace hT2 := zlet_open hT2
          obtain ⟨w9, hw9, hT2⟩ := hT2
          rw [← hw9]
          refine z_aload_n ok dX0_arrange_69 0 rfl ?_
          refine z_bipush ok dX0_arrange_70 (x := 30) (by decide) ?_
          refine z_iload_n ok dX0_arrange_72 2 rfl ?_
          refine z_iadd_n ok dX0_arrange_73 30 v2_2 rfl rfl ?_
          refine z_iconst ok dX0_arrange_74 (x := 1) (by decide) ?_
          refine z_gets ok hE dX0_arrange_75 hst0 zw_164 ?_
          refine z_iload_n ok dX0_arrange_78 2 rfl ?_
          refine z_tald ok hE dX0_arrange_79 hst0 v2_2 rfl (by omega) ?_
          refine z_iload_n ok dX0_arrange_80 1 rfl ?_
          refine z_callVv ok old dX0_arrange_81 [] (c_X0_place G N hN hg w9 g h_g (30 + v2_2) (by omega) 1 (zRow0 v2_2) spring) zy_X0_place zw_153 (6 + 6 * g) (zg_lt' hN h_g) (zE_board G w9 h_g) rfl rfl rfl rfl rfl (by decide) (Nat.le_of_ble_eq_true rfl) ?_
          replace hT2 := zlet_open hT2
          obtain ⟨w10, hw10, hT2⟩ := hT2
          rw [← hw10]
          refine z_iinc ok dX0_arrange_84 (hI 2 (by decide)) 2 rfl (y := (nI (v2_2 + 1))) (z_incn v2_2 1) (lv' := [(2, .int (nI (v2_2 + 1))), (0, .ref (zad G (6 + 6 * g))), (1, .int spring)]) rfl ?_
          refine z_goto ok dX0_arrange_87 27 (by decide) ?_
          refine z_locs [1, 2, 0] (lv' := [(0, .ref (zad G (6 + 6 * g))), (1, .int spring), (2, .int (nI (v2_2 + 1)))]) rfl ?_
          exact ih2 (v2_2 + 1) w10 (by omega) (by omega) hT2
    exact hl2 7 0 ew1 (by omega) (by omega) hT1
  have hl1 : ∀ (n1 : Nat) (v1_2 : Nat) (vw1 : xW), 36 < v1_2 + n1 → v1_2 ≤ 36 → d_X0_arrange_2 g kt1 n1 v1_2 vw1 = u → zZ k G N vw1 2 [(0, .ref (zad G (6 + 6 * g))), (1, .int spring), (2, .int (nI v1_2))] [] := by
    intro n1
    induction n1 with
    | zero =>
      intro v1_2 vw1 q1_0 q1_1
      exact absurd q1_0 (by omega)
    | succ n1 ih1 =>
      intro v1_2 vw1 q1_0 q1_1 hT1
      rw [d_X0_arrange_2] at hT1
      refine z_iload_n ok dX0_arrange_2 2 rfl ?_
      refine z_bipush ok dX0_arrange_3 (x := 36) (by decide) ?_
      refine z_icmp_ge_n ok dX0_arrange_5 25 (by decide) v1_2 36 rfl rfl (by omega) (fun c11 => ?_) (fun c11 => ?_)
      · rw [if_pos c11] at hT1
        refine z_locs [0, 1, 2] (lv' := [(0, .ref (zad G (6 + 6 * g))), (1, .int spring), (2, .int (nI v1_2))]) rfl ?_
        exact hk1 v1_2 vw1 (by omega) hT1
      · rw [if_neg c11] at hT1
        refine z_aload_n ok dX0_arrange_8 0 rfl ?_
        refine z_iload_n ok dX0_arrange_9 2 rfl ?_
        refine z_callVv ok old dX0_arrange_10 [] (c_X0_empty G N hN hg vw1 g h_g v1_2 (by omega)) zy_X0_empty zw_149 (6 + 6 * g) (zg_lt' hN h_g) (zE_board G vw1 h_g) rfl rfl rfl rfl rfl (by decide) (Nat.le_of_ble_eq_true rfl) ?_
        replace hT1 := zlet_open hT1
        obtain ⟨w12, hw12, hT1⟩ := hT1
        rw [← hw12]
        refine z_aload_n ok dX0_arrange_13 0 rfl ?_
        refine z_iload_n ok dX0_arrange_14 2 rfl ?_
        refine z_iconst ok dX0_arrange_15 (x := 0) (by decide) ?_
        refine z_callVv ok old dX0_arrange_16 [] (c_X0_markTower G N hN hg w12 g h_g v1_2 (by omega) 0) zy_X0_markTower zw_160 (6 + 6 * g) (zg_lt' hN h_g) (zE_board G w12 h_g) rfl rfl rfl rfl rfl (by decide) (Nat.le_of_ble_eq_true rfl) ?_
        replace hT1 := zlet_open hT1
        obtain ⟨w13, hw13, hT1⟩ := hT1
        rw [← hw13]
        refine z_iinc ok dX0_arrange_19 (hI 2 (by decide)) 2 rfl (y := (nI (v1_2 + 1))) (z_incn v1_2 1) (lv' := [(2, .int (nI (v1_2 + 1))), (0, .ref (zad G (6 + 6 * g))), (1, .int spring)]) rfl ?_
        refine z_goto ok dX0_arrange_22 2 (by decide) ?_
        refine z_locs [1, 2, 0] (lv' := [(0, .ref (zad G (6 + 6 * g))), (1, .int spring), (2, .int (nI (v1_2 + 1)))]) rfl ?_
        exact ih1 (v1_2 + 1) w13 (by omega) (by omega) hT1
  exact hl1 37 0 w (by omega) (by omega) hT
