theorem zisCell {w : xW} {x : Int32} (h : ¬ d_X2_isCell w x = 0) : x = nI x.toNatClampNeg ∧ x.toNatClampNeg < 36 := by
  unfold d_X2_isCell at h
  by_cases h1 : x < 0
  · rw [if_pos h1] at h; exact absurd rfl h
  · rw [if_neg h1] at h
    by_cases h2 : 36 ≤ x
    · rw [if_pos h2] at h; exact absurd rfl h
    · exact zidx h1 h2
theorem zidx13 {x : Int32} (h1 : ¬ x < 0) (h2 : x ≤ 12) : x = nI x.toNatClampNeg ∧ x.toNatClampNeg < 13 := zidxN (by decide) h1 (by
  have := Int32.le_iff_toInt_le.mp h2
  intro q
  have q2 := Int32.le_iff_toInt_le.mp q
  have e : (12 : Int32).toInt = 12 := rfl
  rw [nI_toInt (by decide)] at q2
  omega)
theorem zidx_undo {w w1 : xW} (h1 : ¬ xg w 10 0 ≤ 0) (h2 : xg w 10 0 ≤ 5) (hw : w1 = xs w 10 0 (xg w 10 0 - 1)) : xg w1 10 0 = nI (xg w1 10 0).toNatClampNeg ∧ (xg w1 10 0).toNatClampNeg < 5 := by
  rw [hw, xg_same]
  rcases pk_ix (xg w 10 0) (n := 6) (by decide) with q | q | ⟨j, hj, e⟩
  · exact absurd (Int32.le_of_lt q) h1
  · have a1 := Int32.le_iff_toInt_le.mp h2
    have a2 := Int32.le_iff_toInt_le.mp q
    have e1 : (5 : Int32).toInt = 5 := rfl
    rw [nI_toInt (by decide)] at a2
    omega
  · rw [e] at h1 ⊢
    have : j ≠ 0 := fun z => h1 (by rw [z]; decide)
    rw [show (1 : Int32) = nI 1 from rfl, pk_sub (by omega), zcl (by omega)]
    exact ⟨rfl, by omega⟩
theorem zclamp_lt (x : Int32) : x.toNatClampNeg < 2147483648 := by
  have := Int32.toInt_lt x
  show x.toInt.toNat < 2147483648
  omega
theorem zlt_cl {x : Int32} {c : Nat} (h : ¬ x ≤ nI c) (hc : c < 2147483648) : c < x.toNatClampNeg := by
  have h1 : ¬ x.toInt ≤ (nI c).toInt := fun q => h (Int32.le_iff_toInt_le.mpr q)
  rw [nI_toInt hc] at h1
  show c < x.toInt.toNat
  omega
theorem c_X2_stateAt_n (G : zG) (N : Nat) (hN : 47 ≤ N) (hg : zGeo G N) (w : xW) (i : Int32) (h : i < 0 ∨ 5 ≤ i) : zMV yX2_stateAt cX2_stateAt 2 (some (.object "ClockworkChess$Game")) 0 0 G N [.ref (zad G 0), .int i] w (some .null) w := by
  refine zMV_of zy_X2_stateAt.2.2.2.2.2.2.2 hg ⟨Nat.le_of_ble_eq_true rfl, by decide⟩ rfl (fun k ok hE hI => ?_)
  refine z_iload_n ok dX2_stateAt_0 1 rfl ?_
  have ke : zZ k G N w 22 [(0, .ref (zad G 0)), (1, .int i)] [] := by
    refine z_null ok dX2_stateAt_22 ?_
    exact z_aret ok hE dX2_stateAt_23 (Or.inl rfl) ⟨rfl, rfl⟩
  refine z_if_lt ok dX2_stateAt_1 22 (by decide) (fun _ => ke) (fun c1 => ?_)
  refine z_iload_n ok dX2_stateAt_4 1 rfl ?_
  refine z_aload_n ok dX2_stateAt_5 0 rfl ?_
  refine z_get_X2_states ok dX2_stateAt_6 hN zw_178 ?_
  refine z_alen ok dX2_stateAt_9 1 (by omega) (zE_1 G w) (t := 2) (ty := .object RX1) (x := 5) rfl rfl ?_
  exact z_icmp_ge ok dX2_stateAt_10 22 (by decide) (fun _ => ke) (fun c2 => absurd h (fun q => q.elim c1 c2))
theorem c_X2_stateAt_r (G : zG) (N : Nat) (hN : 47 ≤ N) (hg : zGeo G N) (w : xW) (i : Int32) (h1 : ¬ i < 0) (h2 : ¬ 5 ≤ i) : zMV yX2_stateAt cX2_stateAt 2 (some (.object "ClockworkChess$Game")) 0 0 G N [.ref (zad G 0), .int i] w (some (.ref (zad G (5 + 6 * zpg w i.toNatClampNeg)))) w := by
  refine zMV_of zy_X2_stateAt.2.2.2.2.2.2.2 hg ⟨Nat.le_of_ble_eq_true rfl, by decide⟩ rfl (fun k ok hE hI => ?_)
  refine z_iload_n ok dX2_stateAt_0 1 rfl ?_
  refine z_if_lt ok dX2_stateAt_1 22 (by decide) (fun q => absurd q h1) (fun _ => ?_)
  refine z_iload_n ok dX2_stateAt_4 1 rfl ?_
  refine z_aload_n ok dX2_stateAt_5 0 rfl ?_
  refine z_get_X2_states ok dX2_stateAt_6 hN zw_178 ?_
  refine z_alen ok dX2_stateAt_9 1 (by omega) (zE_1 G w) (t := 2) (ty := .object RX1) (x := 5) rfl rfl ?_
  refine z_icmp_ge ok dX2_stateAt_10 22 (by decide) (fun q => absurd q h2) (fun _ => ?_)
  refine z_aload_n ok dX2_stateAt_13 0 rfl ?_
  refine z_get_X2_states ok dX2_stateAt_14 hN zw_178 ?_
  refine z_iload_n ok dX2_stateAt_17 1 rfl ?_
  refine z_aald ok dX2_stateAt_18 (by omega) i.toNatClampNeg (zidx5 h1 h2).1 (zidx5 h1 h2).2 ?_
  refine z_goto ok dX2_stateAt_19 23 (by decide) ?_
  exact z_aret ok hE dX2_stateAt_23 (Or.inr ⟨_, rfl⟩) ⟨rfl, rfl⟩
def d_X2_isSide (w : xW) (s : Int32) : Int32 :=
  if s = 0 then (1)
  else (if s = 1 then (1)
  else (0))
set_option maxRecDepth 100000 in
set_option maxHeartbeats 4000000 in
theorem c_X2_isSide (G : zG) (N : Nat) (hN : 47 ≤ N) (hg : zGeo G N) (w : xW) (s : Int32) : zM yX2_isSide cX2_isSide 1 (some .boolean) 0 0 G N [.int s] w (some (d_X2_isSide w s)) w := by
  generalize hT : d_X2_isSide w s = r
  unfold d_X2_isSide at hT
  refine zM_of zy_X2_isSide.2.2.2.2.2.2 hg ⟨Nat.le_of_ble_eq_true rfl, by decide⟩ rfl (fun k ok hE hI => ?_)
  have old := hE.old
  refine z_iload_n ok dX2_isSide_0 0 rfl ?_
  refine z_if_eq ok dX2_isSide_1 9 (by decide) (fun c1 => ?_) (fun c1 => ?_)
  · rw [if_pos c1] at hT
    refine z_iconst ok dX2_isSide_9 (x := 1) (by decide) ?_
    refine z_goto ok dX2_isSide_10 14 (by decide) ?_
    exact z_iret ok hE dX2_isSide_14 rfl ⟨hT, rfl⟩
  · rw [if_neg c1] at hT
    refine z_iload_n ok dX2_isSide_4 0 rfl ?_
    refine z_iconst ok dX2_isSide_5 (x := 1) (by decide) ?_
    refine z_icmp_ne ok dX2_isSide_6 13 (by decide) (fun c2 => ?_) (fun c2 => ?_)
    · rw [if_neg c2] at hT
      refine z_iconst ok dX2_isSide_13 (x := 0) (by decide) ?_
      exact z_iret ok hE dX2_isSide_14 rfl ⟨hT, rfl⟩
    · rw [if_pos c2] at hT
      refine z_iconst ok dX2_isSide_9 (x := 1) (by decide) ?_
      refine z_goto ok dX2_isSide_10 14 (by decide) ?_
      exact z_iret ok hE dX2_isSide_14 rfl ⟨hT, rfl⟩

def d_X2_isAccount (w : xW) (n : Int32) : Int32 :=
  if n < 0 then (0)
  else (if 6 < n then (0)
  else (1))
set_option maxRecDepth 100000 in
set_option maxHeartbeats 4000000 in
theorem c_X2_isAccount (G : zG) (N : Nat) (hN : 47 ≤ N) (hg : zGeo G N) (w : xW) (n : Int32) : zM yX2_isAccount cX2_isAccount 1 (some .boolean) 0 0 G N [.int n] w (some (d_X2_isAccount w n)) w := by
  generalize hT : d_X2_isAccount w n = r
  unfold d_X2_isAccount at hT
  refine zM_of zy_X2_isAccount.2.2.2.2.2.2 hg ⟨Nat.le_of_ble_eq_true rfl, by decide⟩ rfl (fun k ok hE hI => ?_)
  have old := hE.old
  refine z_iload_n ok dX2_isAccount_0 0 rfl ?_
  refine z_if_lt ok dX2_isAccount_1 14 (by decide) (fun c1 => ?_) (fun c1 => ?_)
  · rw [if_pos c1] at hT
    refine z_iconst ok dX2_isAccount_14 (x := 0) (by decide) ?_
    exact z_iret ok hE dX2_isAccount_15 rfl ⟨hT, rfl⟩
  · rw [if_neg c1] at hT
    refine z_iload_n ok dX2_isAccount_4 0 rfl ?_
    refine z_bipush ok dX2_isAccount_5 (x := 6) (by decide) ?_
    refine z_icmp_gt ok dX2_isAccount_7 14 (by decide) (fun c2 => ?_) (fun c2 => ?_)
    · rw [if_pos c2] at hT
      refine z_iconst ok dX2_isAccount_14 (x := 0) (by decide) ?_
      exact z_iret ok hE dX2_isAccount_15 rfl ⟨hT, rfl⟩
    · rw [if_neg c2] at hT
      refine z_iconst ok dX2_isAccount_10 (x := 1) (by decide) ?_
      refine z_goto ok dX2_isAccount_11 15 (by decide) ?_
      exact z_iret ok hE dX2_isAccount_15 rfl ⟨hT, rfl⟩

def d_X2_isSetting (w : xW) (what : Int32) (value : Int32) : Int32 :=
  if what = 0 then (if value < 1 then (0)
  else (if 12 < value then (0)
  else (1)))
  else (if what = 1 then (if value < 0 then (0)
  else (if 5 < value then (0)
  else (1)))
  else (if what = 2 then (if value < 0 then (0)
  else (if 5 < value then (0)
  else (1)))
  else (0)))
set_option maxRecDepth 100000 in
set_option maxHeartbeats 4000000 in
theorem c_X2_isSetting (G : zG) (N : Nat) (hN : 47 ≤ N) (hg : zGeo G N) (w : xW) (what : Int32) (value : Int32) : zM yX2_isSetting cX2_isSetting 2 (some .boolean) 0 0 G N [.int what, .int value] w (some (d_X2_isSetting w what value)) w := by
  generalize hT : d_X2_isSetting w what value = r
  unfold d_X2_isSetting at hT
  refine zM_of zy_X2_isSetting.2.2.2.2.2.2 hg ⟨Nat.le_of_ble_eq_true rfl, by decide⟩ rfl (fun k ok hE hI => ?_)
  have old := hE.old
  refine z_iload_n ok dX2_isSetting_0 0 rfl ?_
  refine z_if_ne ok dX2_isSetting_1 21 (by decide) (fun c1 => ?_) (fun c1 => ?_)
  · rw [if_neg c1] at hT
    refine z_iload_n ok dX2_isSetting_21 0 rfl ?_
    refine z_iconst ok dX2_isSetting_22 (x := 1) (by decide) ?_
    refine z_icmp_eq ok dX2_isSetting_23 31 (by decide) (fun c2 => ?_) (fun c2 => ?_)
    · rw [if_pos c2] at hT
      refine z_iload_n ok dX2_isSetting_31 1 rfl ?_
      refine z_if_lt ok dX2_isSetting_32 44 (by decide) (fun c3 => ?_) (fun c3 => ?_)
      · rw [if_pos c3] at hT
        refine z_iconst ok dX2_isSetting_44 (x := 0) (by decide) ?_
        exact z_iret ok hE dX2_isSetting_45 rfl ⟨hT, rfl⟩
      · rw [if_neg c3] at hT
        refine z_iload_n ok dX2_isSetting_35 1 rfl ?_
        refine z_iconst ok dX2_isSetting_36 (x := 5) (by decide) ?_
        refine z_icmp_gt ok dX2_isSetting_37 44 (by decide) (fun c4 => ?_) (fun c4 => ?_)
        · rw [if_pos c4] at hT
          refine z_iconst ok dX2_isSetting_44 (x := 0) (by decide) ?_
          exact z_iret ok hE dX2_isSetting_45 rfl ⟨hT, rfl⟩
        · rw [if_neg c4] at hT
          refine z_iconst ok dX2_isSetting_40 (x := 1) (by decide) ?_
          refine z_goto ok dX2_isSetting_41 45 (by decide) ?_
          exact z_iret ok hE dX2_isSetting_45 rfl ⟨hT, rfl⟩
    · rw [if_neg c2] at hT
      refine z_iload_n ok dX2_isSetting_26 0 rfl ?_
      refine z_iconst ok dX2_isSetting_27 (x := 2) (by decide) ?_
      refine z_icmp_ne ok dX2_isSetting_28 44 (by decide) (fun c5 => ?_) (fun c5 => ?_)
      · rw [if_neg c5] at hT
        refine z_iconst ok dX2_isSetting_44 (x := 0) (by decide) ?_
        exact z_iret ok hE dX2_isSetting_45 rfl ⟨hT, rfl⟩
      · rw [if_pos c5] at hT
        refine z_iload_n ok dX2_isSetting_31 1 rfl ?_
        refine z_if_lt ok dX2_isSetting_32 44 (by decide) (fun c6 => ?_) (fun c6 => ?_)
        · rw [if_pos c6] at hT
          refine z_iconst ok dX2_isSetting_44 (x := 0) (by decide) ?_
          exact z_iret ok hE dX2_isSetting_45 rfl ⟨hT, rfl⟩
        · rw [if_neg c6] at hT
          refine z_iload_n ok dX2_isSetting_35 1 rfl ?_
          refine z_iconst ok dX2_isSetting_36 (x := 5) (by decide) ?_
          refine z_icmp_gt ok dX2_isSetting_37 44 (by decide) (fun c7 => ?_) (fun c7 => ?_)
          · rw [if_pos c7] at hT
            refine z_iconst ok dX2_isSetting_44 (x := 0) (by decide) ?_
            exact z_iret ok hE dX2_isSetting_45 rfl ⟨hT, rfl⟩
          · rw [if_neg c7] at hT
            refine z_iconst ok dX2_isSetting_40 (x := 1) (by decide) ?_
            refine z_goto ok dX2_isSetting_41 45 (by decide) ?_
            exact z_iret ok hE dX2_isSetting_45 rfl ⟨hT, rfl⟩
  · rw [if_pos c1] at hT
    refine z_iload_n ok dX2_isSetting_4 1 rfl ?_
    refine z_iconst ok dX2_isSetting_5 (x := 1) (by decide) ?_
    refine z_icmp_lt ok dX2_isSetting_6 19 (by decide) (fun c8 => ?_) (fun c8 => ?_)
    · rw [if_pos c8] at hT
      refine z_iconst ok dX2_isSetting_19 (x := 0) (by decide) ?_
      exact z_iret ok hE dX2_isSetting_20 rfl ⟨hT, rfl⟩
    · rw [if_neg c8] at hT
      refine z_iload_n ok dX2_isSetting_9 1 rfl ?_
      refine z_bipush ok dX2_isSetting_10 (x := 12) (by decide) ?_
      refine z_icmp_gt ok dX2_isSetting_12 19 (by decide) (fun c9 => ?_) (fun c9 => ?_)
      · rw [if_pos c9] at hT
        refine z_iconst ok dX2_isSetting_19 (x := 0) (by decide) ?_
        exact z_iret ok hE dX2_isSetting_20 rfl ⟨hT, rfl⟩
      · rw [if_neg c9] at hT
        refine z_iconst ok dX2_isSetting_15 (x := 1) (by decide) ?_
        refine z_goto ok dX2_isSetting_16 20 (by decide) ?_
        exact z_iret ok hE dX2_isSetting_20 rfl ⟨hT, rfl⟩

def d_X2_record_21k (w : xW) (e7_2 : Nat) (ew7 : xW) : xW :=
  zlet (xp ew7 (5 - 1) (zpg w 0)) fun w8 =>
  zlet (xs w8 10 0 (nI (5 - 1))) fun w9 =>
  w9
def d_X2_record_21  (kt7 : Nat → xW → xW) : Nat → Nat → xW → xW
  | 0, _, _ => default
  | n7 + 1, v7_2, vw7 => if 5 ≤ v7_2 then (kt7 v7_2 vw7)
  else (zlet (xp vw7 (v7_2 - 1) (zpg vw7 v7_2)) fun w11 =>
  d_X2_record_21  kt7 n7 (v7_2 + 1) w11)
def d_X2_record (w : xW)  : xW :=
  zlet (if (xg w 10 0) < 5 then (w)
  else (d_X2_record_21  (d_X2_record_21k w) 6 1 w) : xW) fun w1 =>
  if (xg w1 10 0) < 0 then (w1)
  else (if 5 ≤ (xg w1 10 0) then (w1)
  else (zlet (d_X1_copyFrom w1 (zpg w1 (xg w1 10 0).toNatClampNeg) 0) fun w4 =>
  zlet (xs w4 10 0 ((xg w4 10 0) + 1)) fun w5 =>
  w5))
set_option maxRecDepth 100000 in
set_option maxHeartbeats 4000000 in
theorem c_X2_record (G : zG) (N : Nat) (hN : 47 ≤ N) (hg : zGeo G N) (w : xW) : zM yX2_record cX2_record 3 none 3 102 G N [.ref (zad G 0)] w none (d_X2_record w) := by
  generalize hT : d_X2_record w = u
  unfold d_X2_record at hT
  refine zM_of zy_X2_record.2.2.2.2.2.2.2 hg ⟨Nat.le_of_ble_eq_true rfl, by decide⟩ rfl (fun k ok hE hI => ?_)
  have old := hE.old
  refine z_aload_n ok dX2_record_0 0 rfl ?_
  refine z_get_X2_stateCount ok dX2_record_1 hN zw_179 ?_
  refine z_aload_n ok dX2_record_4 0 rfl ?_
  refine z_get_X2_states ok dX2_record_5 hN zw_178 ?_
  refine z_alen ok dX2_record_8 1 (by omega) (zE_1 G w) (t := 2) (ty := .object RX1) (x := 5) rfl rfl ?_
  replace hT := zlet_open hT
  obtain ⟨w1, hw1, hT⟩ := hT
  have hsw1 := hw1.symm
  have hJw1 : zZ k G N w1 74 [(0, .ref (zad G 0))] [] := by
    refine z_aload_n ok dX2_record_74 0 rfl ?_
    refine z_aload_n ok dX2_record_75 0 rfl ?_
    refine z_get_X2_stateCount ok dX2_record_76 hN zw_179 ?_
    by_cases c2 : (xg w1 10 0) < 0
    · rw [if_pos c2] at hT
      refine z_callVV ok old dX2_record_79 [] (c_X2_stateAt_n G N hN hg w1 (xg w1 10 0) (Or.inl c2)) zy_X2_stateAt zw_210 0 (by omega) (zE_0 G w1) rfl rfl rfl rfl rfl (by decide) (Nat.le_of_ble_eq_true rfl) ?_
      refine z_astore_nN ok dX2_record_82 (hI 1 (by decide)) (lv' := [(1, .null), (0, .ref (zad G 0))]) rfl ?_
      refine z_aload_nN ok dX2_record_83 0 rfl ?_
      refine z_ifnullN ok dX2_record_84 105 (by decide) ?_
      exact z_vret ok hE dX2_record_105 hT
    · rw [if_neg c2] at hT
      by_cases c3 : 5 ≤ (xg w1 10 0)
      · rw [if_pos c3] at hT
        refine z_callVV ok old dX2_record_79 [] (c_X2_stateAt_n G N hN hg w1 (xg w1 10 0) (Or.inr c3)) zy_X2_stateAt zw_210 0 (by omega) (zE_0 G w1) rfl rfl rfl rfl rfl (by decide) (Nat.le_of_ble_eq_true rfl) ?_
        refine z_astore_nN ok dX2_record_82 (hI 1 (by decide)) (lv' := [(1, .null), (0, .ref (zad G 0))]) rfl ?_
        refine z_aload_nN ok dX2_record_83 0 rfl ?_
        refine z_ifnullN ok dX2_record_84 105 (by decide) ?_
        exact z_vret ok hE dX2_record_105 hT
      · rw [if_neg c3] at hT
        refine z_callVV ok old dX2_record_79 [] (c_X2_stateAt_r G N hN hg w1 (xg w1 10 0) c2 c3) zy_X2_stateAt zw_210 0 (by omega) (zE_0 G w1) rfl rfl rfl rfl rfl (by decide) (Nat.le_of_ble_eq_true rfl) ?_
        refine z_astore_n ok dX2_record_82 (hI 1 (by decide)) (lv' := [(1, .ref (zad G (5 + 6 * (zpg w1 (xg w1 10 0).toNatClampNeg)))), (0, .ref (zad G 0))]) rfl ?_
        refine z_aload_n ok dX2_record_83 0 rfl ?_
        refine z_ifnull ok dX2_record_84 ?_
        refine z_aload_n ok dX2_record_87 0 rfl ?_
        refine z_aload_n ok dX2_record_88 1 rfl ?_
        refine z_get_X2_game ok dX2_record_89 hN zw_176 ?_
        refine z_callVNv ok old dX2_record_92 [] (c_X1_copyFrom G N hN hg w1 (zpg w1 (xg w1 10 0).toNatClampNeg) (zpg_lt _ _) 0 (by decide)) zy_X1_copyFrom zw_214 (5 + 6 * (zpg w1 (xg w1 10 0).toNatClampNeg)) (zg_lt hN (zpg_lt _ _)) (zE_game G w1 (zpg_lt _ _)) rfl rfl rfl rfl rfl (by decide) (Nat.le_of_ble_eq_true rfl) ?_
        replace hT := zlet_open hT
        obtain ⟨w4, hw4, hT⟩ := hT
        rw [← hw4]
        refine z_aload_n ok dX2_record_95 1 rfl ?_
        refine z_dup ok dX2_record_96 rfl ?_
        refine z_get_X2_stateCount ok dX2_record_97 hN zw_179 ?_
        refine z_iconst ok dX2_record_100 (x := 1) (by decide) ?_
        refine z_iadd ok dX2_record_101 ?_
        refine z_put_X2_stateCount ok dX2_record_102 hN zw_179 ?_
        replace hT := zlet_open hT
        obtain ⟨w5, hw5, hT⟩ := hT
        rw [← hw5]
        exact z_vret ok hE dX2_record_105 hT
  refine z_icmp_lt ok dX2_record_9 74 (by decide) (fun c6 => ?_) (fun c6 => ?_)
  · rw [if_pos c6] at hsw1
    rw [← hsw1] at hJw1
    refine z_locs [0] (lv' := [(0, .ref (zad G 0))]) rfl ?_
    exact hJw1
  · rw [if_neg c6] at hsw1
    refine z_aload_n ok dX2_record_12 0 rfl ?_
    refine z_get_X2_states ok dX2_record_13 hN zw_178 ?_
    refine z_iconst ok dX2_record_16 (x := 0) (by decide) ?_
    refine z_aald ok dX2_record_17 (by omega) 0 rfl (by omega) ?_
    refine z_astore_n ok dX2_record_18 (hI 1 (by decide)) (lv' := [(1, .ref (zad G (5 + 6 * (zpg w 0)))), (0, .ref (zad G 0))]) rfl ?_
    refine z_iconst ok dX2_record_19 (x := 1) (by decide) ?_
    refine z_istore_n ok dX2_record_20 (hI 2 (by decide)) (lv' := [(2, .int 1), (1, .ref (zad G (5 + 6 * (zpg w 0)))), (0, .ref (zad G 0))]) rfl ?_
    refine z_locs [2, 1, 0] (lv' := [(0, .ref (zad G 0)), (1, .ref (zad G (5 + 6 * (zpg w 0)))), (2, .int 1)]) rfl ?_
    obtain ⟨kt7, hkt7⟩ : ∃ z, z = (d_X2_record_21k w) := ⟨_, rfl⟩
    rw [← hkt7] at hsw1
    have hk7 : ∀ (e7_2 : Nat) (ew7 : xW), e7_2 ≤ 5 → 1 ≤ e7_2 → kt7 e7_2 ew7 = w1 → zZ k G N ew7 50 [(0, .ref (zad G 0)), (1, .ref (zad G (5 + 6 * (zpg w 0)))), (2, .int (nI e7_2))] [] := by
      intro e7_2 ew7 q7_0 q7_1 hT7
      rw [hkt7, d_X2_record_21k] at hT7
      refine z_aload_n ok dX2_record_50 0 rfl ?_
      refine z_get_X2_states ok dX2_record_51 hN zw_178 ?_
      refine z_aload_n ok dX2_record_54 0 rfl ?_
      refine z_get_X2_states ok dX2_record_55 hN zw_178 ?_
      refine z_alen ok dX2_record_58 1 (by omega) (zE_1 G ew7) (t := 2) (ty := .object RX1) (x := 5) rfl rfl ?_
      refine z_iconst ok dX2_record_59 (x := 1) (by decide) ?_
      refine z_isub_n ok dX2_record_60 5 1 rfl rfl (by omega) ?_
      refine z_aload_n ok dX2_record_61 1 rfl ?_
      refine z_aast ok dX2_record_62 (by omega) (zpg w 0) (zpg_lt _ _) (zg_lt hN (zpg_lt _ _)) (5 - 1) rfl (by omega) ?_
      replace hT7 := zlet_open hT7
      obtain ⟨w8, hw8, hT7⟩ := hT7
      rw [← hw8]
      refine z_aload_n ok dX2_record_63 0 rfl ?_
      refine z_aload_n ok dX2_record_64 0 rfl ?_
      refine z_get_X2_states ok dX2_record_65 hN zw_178 ?_
      refine z_alen ok dX2_record_68 1 (by omega) (zE_1 G w8) (t := 2) (ty := .object RX1) (x := 5) rfl rfl ?_
      refine z_iconst ok dX2_record_69 (x := 1) (by decide) ?_
      refine z_isub_n ok dX2_record_70 5 1 rfl rfl (by omega) ?_
      refine z_put_X2_stateCount ok dX2_record_71 hN zw_179 ?_
      replace hT7 := zlet_open hT7
      obtain ⟨w9, hw9, hT7⟩ := hT7
      rw [← hw9]
      rw [← hT7] at hJw1
      refine z_locs [0] (lv' := [(0, .ref (zad G 0))]) rfl ?_
      exact hJw1
    have hl7 : ∀ (n7 : Nat) (v7_2 : Nat) (vw7 : xW), 5 < v7_2 + n7 → v7_2 ≤ 5 → 1 ≤ v7_2 → d_X2_record_21  kt7 n7 v7_2 vw7 = w1 → zZ k G N vw7 21 [(0, .ref (zad G 0)), (1, .ref (zad G (5 + 6 * (zpg w 0)))), (2, .int (nI v7_2))] [] := by
      intro n7
      induction n7 with
      | zero =>
        intro v7_2 vw7 q7_0 q7_1 q7_2
        exact absurd q7_0 (by omega)
      | succ n7 ih7 =>
        intro v7_2 vw7 q7_0 q7_1 q7_2 hT7
        rw [d_X2_record_21] at hT7
        refine z_iload_n ok dX2_record_21 2 rfl ?_
        refine z_aload_n ok dX2_record_22 0 rfl ?_
        refine z_get_X2_states ok dX2_record_23 hN zw_178 ?_
        refine z_alen ok dX2_record_26 1 (by omega) (zE_1 G vw7) (t := 2) (ty := .object RX1) (x := 5) rfl rfl ?_
        refine z_icmp_ge_n ok dX2_record_27 50 (by decide) v7_2 5 rfl rfl (by omega) (fun c10 => ?_) (fun c10 => ?_)
        · rw [if_pos c10] at hT7
          refine z_locs [0, 1, 2] (lv' := [(0, .ref (zad G 0)), (1, .ref (zad G (5 + 6 * (zpg w 0)))), (2, .int (nI v7_2))]) rfl ?_
          exact hk7 v7_2 vw7 (by omega) (by first | assumption | omega) hT7
        · rw [if_neg c10] at hT7
          refine z_aload_n ok dX2_record_30 0 rfl ?_
          refine z_get_X2_states ok dX2_record_31 hN zw_178 ?_
          refine z_iload_n ok dX2_record_34 2 rfl ?_
          refine z_iconst ok dX2_record_35 (x := 1) (by decide) ?_
          refine z_isub_n ok dX2_record_36 v7_2 1 rfl rfl (by omega) ?_
          refine z_aload_n ok dX2_record_37 0 rfl ?_
          refine z_get_X2_states ok dX2_record_38 hN zw_178 ?_
          refine z_iload_n ok dX2_record_41 2 rfl ?_
          refine z_aald ok dX2_record_42 (by omega) v7_2 rfl (by omega) ?_
          refine z_aast ok dX2_record_43 (by omega) (zpg vw7 v7_2) (zpg_lt _ _) (zg_lt hN (zpg_lt _ _)) (v7_2 - 1) rfl (by omega) ?_
          replace hT7 := zlet_open hT7
          obtain ⟨w11, hw11, hT7⟩ := hT7
          rw [← hw11]
          refine z_iinc ok dX2_record_44 (hI 2 (by decide)) 2 rfl (y := (nI (v7_2 + 1))) (z_incn v7_2 1) (lv' := [(2, .int (nI (v7_2 + 1))), (0, .ref (zad G 0)), (1, .ref (zad G (5 + 6 * (zpg w 0))))]) rfl ?_
          refine z_goto ok dX2_record_47 21 (by decide) ?_
          refine z_locs [1, 2, 0] (lv' := [(0, .ref (zad G 0)), (1, .ref (zad G (5 + 6 * (zpg w 0)))), (2, .int (nI (v7_2 + 1)))]) rfl ?_
          exact ih7 (v7_2 + 1) w11 (by omega) (by omega) (by first | assumption | omega) hT7
    exact hl7 6 1 w (by omega) (by omega) (by first | assumption | omega) hsw1

def d_X2_setUp (w : xW)  : Int32 × xW :=
  zlet (d_X2_record w) fun w1 =>
  zlet (d_X1_begin w1 0) fun w2 =>
  ((d_X0_springsInAll w2 0), w2)
set_option maxRecDepth 100000 in
set_option maxHeartbeats 4000000 in
theorem c_X2_setUp (G : zG) (N : Nat) (hN : 47 ≤ N) (hg : zGeo G N) (w : xW) : zM yX2_setUp cX2_setUp 1 (some .int) 5 124 G N [.ref (zad G 0)] w (some (d_X2_setUp w).1) (d_X2_setUp w).2 := by
  obtain ⟨r, u, hT⟩ := zpair (d_X2_setUp w)
  rw [hT]
  dsimp only
  unfold d_X2_setUp at hT
  refine zM_of zy_X2_setUp.2.2.2.2.2.2.2 hg ⟨Nat.le_of_ble_eq_true rfl, by decide⟩ rfl (fun k ok hE hI => ?_)
  have old := hE.old
  refine z_aload_n ok dX2_setUp_0 0 rfl ?_
  refine z_callVv ok old dX2_setUp_1 [] (c_X2_record G N hN hg w ) zy_X2_record zw_206 0 (by omega) (zE_0 G w) rfl rfl rfl rfl rfl (by decide) (Nat.le_of_ble_eq_true rfl) ?_
  replace hT := zlet_open hT
  obtain ⟨w1, hw1, hT⟩ := hT
  rw [← hw1]
  refine z_aload_n ok dX2_setUp_4 0 rfl ?_
  refine z_get_X2_game ok dX2_setUp_5 hN zw_176 ?_
  refine z_callVNv ok old dX2_setUp_8 [] (c_X1_begin G N hN hg w1 0 (by decide)) zy_X1_begin zw_141 (5 + 6 * 0) (zg_lt hN (by decide)) (zE_game G w1 (by decide)) rfl rfl rfl rfl rfl (by decide) (Nat.le_of_ble_eq_true rfl) ?_
  replace hT := zlet_open hT
  obtain ⟨w2, hw2, hT⟩ := hT
  rw [← hw2]
  refine z_aload_n ok dX2_setUp_11 0 rfl ?_
  refine z_get_X2_game ok dX2_setUp_12 hN zw_176 ?_
  refine z_getN_X1_board ok dX2_setUp_15 0 (by decide) hN zw_89 ?_
  refine z_callVNi ok old dX2_setUp_18 [] (c_X0_springsInAll G N hN hg w2 0 (by decide)) zy_X0_springsInAll zw_225 (6 + 6 * 0) (zg_lt' hN (by decide)) (zE_board G w2 (by decide)) rfl rfl rfl rfl rfl (by decide) (Nat.le_of_ble_eq_true rfl) ?_
  exact z_iret ok hE dX2_setUp_21 rfl ⟨congrArg Prod.fst hT, congrArg Prod.snd hT⟩

def d_X2_set (w : xW) (what : Int32) (value : Int32) : Int32 × xW :=
  if (d_X2_isSetting w what value) = 0 then (((-1), w))
  else (zlet (d_X2_record w) fun w2 =>
  zlet ((d_X1_setting w2 0 what)) fun x3 =>
  zlet (d_X1_changeSetting w2 0 what value) fun w4 =>
  (x3, w4))
set_option maxRecDepth 100000 in
set_option maxHeartbeats 4000000 in
theorem c_X2_set (G : zG) (N : Nat) (hN : 47 ≤ N) (hg : zGeo G N) (w : xW) (what : Int32) (value : Int32) : zM yX2_set cX2_set 4 (some .int) 4 124 G N [.ref (zad G 0), .int what, .int value] w (some (d_X2_set w what value).1) (d_X2_set w what value).2 := by
  obtain ⟨r, u, hT⟩ := zpair (d_X2_set w what value)
  rw [hT]
  dsimp only
  unfold d_X2_set at hT
  refine zM_of zy_X2_set.2.2.2.2.2.2.2 hg ⟨Nat.le_of_ble_eq_true rfl, by decide⟩ rfl (fun k ok hE hI => ?_)
  have old := hE.old
  refine z_iload_n ok dX2_set_0 1 rfl ?_
  refine z_iload_n ok dX2_set_1 2 rfl ?_
  refine z_callSi ok old dX2_set_2 [] (c_X2_isSetting G N hN hg w what value) zy_X2_isSetting zw_230 rfl rfl (by decide) (Nat.le_of_ble_eq_true rfl) ?_
  refine z_if_ne ok dX2_set_5 10 (by decide) (fun c1 => ?_) (fun c1 => ?_)
  · rw [if_neg c1] at hT
    refine z_aload_n ok dX2_set_10 0 rfl ?_
    refine z_callVv ok old dX2_set_11 [] (c_X2_record G N hN hg w ) zy_X2_record zw_206 0 (by omega) (zE_0 G w) rfl rfl rfl rfl rfl (by decide) (Nat.le_of_ble_eq_true rfl) ?_
    replace hT := zlet_open hT
    obtain ⟨w2, hw2, hT⟩ := hT
    rw [← hw2]
    refine z_aload_n ok dX2_set_14 0 rfl ?_
    refine z_get_X2_game ok dX2_set_15 hN zw_176 ?_
    refine z_iload_n ok dX2_set_18 1 rfl ?_
    refine z_callVNi ok old dX2_set_19 [] (c_X1_setting G N hN hg w2 0 (by decide) what) zy_X1_setting zw_233 (5 + 6 * 0) (zg_lt hN (by decide)) (zE_game G w2 (by decide)) rfl rfl rfl rfl rfl (by decide) (Nat.le_of_ble_eq_true rfl) ?_
    replace hT := zlet_open hT
    obtain ⟨x3, hx3, hT⟩ := hT
    rw [← hx3]
    refine z_istore_n ok dX2_set_22 (hI 3 (by decide)) (lv' := [(3, .int x3), (0, .ref (zad G 0)), (1, .int what), (2, .int value)]) rfl ?_
    refine z_aload_n ok dX2_set_23 1 rfl ?_
    refine z_get_X2_game ok dX2_set_24 hN zw_176 ?_
    refine z_iload_n ok dX2_set_27 2 rfl ?_
    refine z_iload_n ok dX2_set_28 3 rfl ?_
    refine z_callVNv ok old dX2_set_29 [] (c_X1_changeSetting G N hN hg w2 0 (by decide) what value) zy_X1_changeSetting zw_237 (5 + 6 * 0) (zg_lt hN (by decide)) (zE_game G w2 (by decide)) rfl rfl rfl rfl rfl (by decide) (Nat.le_of_ble_eq_true rfl) ?_
    replace hT := zlet_open hT
    obtain ⟨w4, hw4, hT⟩ := hT
    rw [← hw4]
    refine z_iload_n ok dX2_set_32 0 rfl ?_
    exact z_iret ok hE dX2_set_33 rfl ⟨congrArg Prod.fst hT, congrArg Prod.snd hT⟩
  · rw [if_pos c1] at hT
    refine z_iconst ok dX2_set_8 (x := (-1)) (by decide) ?_
    exact z_iret ok hE dX2_set_9 rfl ⟨congrArg Prod.fst hT, congrArg Prod.snd hT⟩

def d_X2_put (w : xW) (cell : Int32) (side : Int32) (kind : Int32) (spring : Int32) : Int32 × xW :=
  zlet (if (d_X2_isSide w side) = 0 then (if side = (-1) then (1)
  else (0))
  else (1) : Int32) fun x1 =>
  zlet (if kind < 0 then (0)
  else (if 4 < kind then (0)
  else (1)) : Int32) fun x2 =>
  zlet (if spring < 0 then (0)
  else (if (xg w 0 149) < spring then (0)
  else (1)) : Int32) fun x3 =>
  if (d_X2_isCell w cell) = 0 then (((-1), w))
  else (if x1 = 0 then (((-1), w))
  else (if x2 = 0 then (((-1), w))
  else (if x3 = 0 then (((-1), w))
  else (zlet cell.toNatClampNeg fun c_cell =>
  if (d_X1_isOver w 0) = 0 then (zlet (d_X2_record w) fun w9 =>
  zlet ((d_X0_hasPiece w9 0 c_cell)) fun x10 =>
  zlet (d_X1_putInstead w9 0 c_cell side kind spring) fun w11 =>
  if x10 = 0 then ((0, w11))
  else ((1, w11)))
  else (((-2), w))))))
set_option maxRecDepth 100000 in
set_option maxHeartbeats 4000000 in
theorem c_X2_put (G : zG) (N : Nat) (hN : 47 ≤ N) (hg : zGeo G N) (w : xW) (cell : Int32) (side : Int32) (kind : Int32) (spring : Int32) : zM yX2_put cX2_put 9 (some .int) 4 124 G N [.ref (zad G 0), .int cell, .int side, .int kind, .int spring] w (some (d_X2_put w cell side kind spring).1) (d_X2_put w cell side kind spring).2 := by
  obtain ⟨r, u, hT⟩ := zpair (d_X2_put w cell side kind spring)
  rw [hT]
  dsimp only
  unfold d_X2_put at hT
  refine zM_of zy_X2_put.2.2.2.2.2.2.2 hg ⟨Nat.le_of_ble_eq_true rfl, by decide⟩ rfl (fun k ok hE hI => ?_)
  have old := hE.old
  refine z_iload_n ok dX2_put_0 2 rfl ?_
  refine z_callSi ok old dX2_put_1 [] (c_X2_isSide G N hN hg w side) zy_X2_isSide zw_257 rfl rfl (by decide) (Nat.le_of_ble_eq_true rfl) ?_
  replace hT := zlet_open hT
  obtain ⟨x1, hx1, hT⟩ := hT
  have hsx1 := hx1.symm
  have hJx1 : zZ k G N w 17 [(0, .ref (zad G 0)), (1, .int cell), (2, .int side), (3, .int kind), (4, .int spring)] [.int x1] := by
    refine z_istore ok dX2_put_17 (hI 5 (by decide)) (lv' := [(5, .int x1), (0, .ref (zad G 0)), (1, .int cell), (2, .int side), (3, .int kind), (4, .int spring)]) rfl ?_
    refine z_iload_n ok dX2_put_19 4 rfl ?_
    replace hT := zlet_open hT
    obtain ⟨x2, hx2, hT⟩ := hT
    have hsx2 := hx2.symm
    have hJx2 : zZ k G N w 33 [(0, .ref (zad G 0)), (1, .int cell), (2, .int side), (3, .int kind), (4, .int spring), (5, .int x1)] [.int x2] := by
      refine z_istore ok dX2_put_33 (hI 6 (by decide)) (lv' := [(6, .int x2), (0, .ref (zad G 0)), (1, .int cell), (2, .int side), (3, .int kind), (4, .int spring), (5, .int x1)]) rfl ?_
      refine z_iload ok dX2_put_35 5 rfl ?_
      replace hT := zlet_open hT
      obtain ⟨x3, hx3, hT⟩ := hT
      have hsx3 := hx3.symm
      have hJx3 : zZ k G N w 57 [(0, .ref (zad G 0)), (1, .int cell), (2, .int side), (3, .int kind), (4, .int spring), (5, .int x1), (6, .int x2)] [.int x3] := by
        refine z_istore ok dX2_put_57 (hI 7 (by decide)) (lv' := [(7, .int x3), (0, .ref (zad G 0)), (1, .int cell), (2, .int side), (3, .int kind), (4, .int spring), (5, .int x1), (6, .int x2)]) rfl ?_
        refine z_iload_n ok dX2_put_59 2 rfl ?_
        refine z_callSi ok old dX2_put_60 [] (c_X2_isCell G N hN hg w cell) zy_X2_isCell zw_260 rfl rfl (by decide) (Nat.le_of_ble_eq_true rfl) ?_
        refine z_if_eq ok dX2_put_63 81 (by decide) (fun c4 => ?_) (fun c4 => ?_)
        · rw [if_pos c4] at hT
          refine z_iconst ok dX2_put_81 (x := (-1)) (by decide) ?_
          exact z_iret ok hE dX2_put_82 rfl ⟨congrArg Prod.fst hT, congrArg Prod.snd hT⟩
        · rw [if_neg c4] at hT
          refine z_iload ok dX2_put_66 6 rfl ?_
          refine z_if_eq ok dX2_put_68 81 (by decide) (fun c5 => ?_) (fun c5 => ?_)
          · rw [if_pos c5] at hT
            refine z_iconst ok dX2_put_81 (x := (-1)) (by decide) ?_
            exact z_iret ok hE dX2_put_82 rfl ⟨congrArg Prod.fst hT, congrArg Prod.snd hT⟩
          · rw [if_neg c5] at hT
            refine z_iload ok dX2_put_71 7 rfl ?_
            refine z_if_eq ok dX2_put_73 81 (by decide) (fun c6 => ?_) (fun c6 => ?_)
            · rw [if_pos c6] at hT
              refine z_iconst ok dX2_put_81 (x := (-1)) (by decide) ?_
              exact z_iret ok hE dX2_put_82 rfl ⟨congrArg Prod.fst hT, congrArg Prod.snd hT⟩
            · rw [if_neg c6] at hT
              refine z_iload ok dX2_put_76 0 rfl ?_
              refine z_if_ne ok dX2_put_78 83 (by decide) (fun c7 => ?_) (fun c7 => ?_)
              · rw [if_neg c7] at hT
                replace hT := zlet_open hT
                obtain ⟨c_cell, hc_cell, hT⟩ := hT
                obtain ⟨lc_cell, ec_cell⟩ := zcellx (zisCell (by assumption)) hc_cell
                subst ec_cell
                refine z_aload_n ok dX2_put_83 1 rfl ?_
                refine z_get_X2_game ok dX2_put_84 hN zw_176 ?_
                refine z_callVNi ok old dX2_put_87 [] (c_X1_isOver G N hN hg w 0 (by decide)) zy_X1_isOver zw_261 (5 + 6 * 0) (zg_lt hN (by decide)) (zE_game G w (by decide)) rfl rfl rfl rfl rfl (by decide) (Nat.le_of_ble_eq_true rfl) ?_
                refine z_if_eq ok dX2_put_90 96 (by decide) (fun c8 => ?_) (fun c8 => ?_)
                · rw [if_pos c8] at hT
                  refine z_aload_n ok dX2_put_96 1 rfl ?_
                  refine z_callVv ok old dX2_put_97 [] (c_X2_record G N hN hg w ) zy_X2_record zw_206 0 (by omega) (zE_0 G w) rfl rfl rfl rfl rfl (by decide) (Nat.le_of_ble_eq_true rfl) ?_
                  replace hT := zlet_open hT
                  obtain ⟨w9, hw9, hT⟩ := hT
                  rw [← hw9]
                  refine z_aload_n ok dX2_put_100 1 rfl ?_
                  refine z_get_X2_game ok dX2_put_101 hN zw_176 ?_
                  refine z_getN_X1_board ok dX2_put_104 0 (by decide) hN zw_89 ?_
                  refine z_iload_n ok dX2_put_107 2 rfl ?_
                  refine z_callVNi ok old dX2_put_108 [] (c_X0_hasPiece G N hN hg w9 0 (by decide) c_cell (by omega)) zy_X0_hasPiece zw_265 (6 + 6 * 0) (zg_lt' hN (by decide)) (zE_board G w9 (by decide)) rfl rfl rfl rfl rfl (by decide) (Nat.le_of_ble_eq_true rfl) ?_
                  replace hT := zlet_open hT
                  obtain ⟨x10, hx10, hT⟩ := hT
                  rw [← hx10]
                  refine z_istore ok dX2_put_111 (hI 8 (by decide)) (lv' := [(8, .int x10), (7, .int x3), (0, .ref (zad G 0)), (1, .int (nI c_cell)), (2, .int side), (3, .int kind), (4, .int spring), (5, .int x1), (6, .int x2)]) rfl ?_
                  refine z_aload_n ok dX2_put_113 2 rfl ?_
                  refine z_get_X2_game ok dX2_put_114 hN zw_176 ?_
                  refine z_iload_n ok dX2_put_117 3 rfl ?_
                  refine z_iload_n ok dX2_put_118 4 rfl ?_
                  refine z_iload_n ok dX2_put_119 5 rfl ?_
                  refine z_iload ok dX2_put_120 6 rfl ?_
                  refine z_callVNv ok old dX2_put_122 [] (c_X1_putInstead G N hN hg w9 0 (by decide) c_cell (by omega) side kind spring) zy_X1_putInstead zw_273 (5 + 6 * 0) (zg_lt hN (by decide)) (zE_game G w9 (by decide)) rfl rfl rfl rfl rfl (by decide) (Nat.le_of_ble_eq_true rfl) ?_
                  replace hT := zlet_open hT
                  obtain ⟨w11, hw11, hT⟩ := hT
                  rw [← hw11]
                  refine z_iload ok dX2_put_125 0 rfl ?_
                  refine z_if_eq ok dX2_put_127 134 (by decide) (fun c12 => ?_) (fun c12 => ?_)
                  · rw [if_pos c12] at hT
                    refine z_iconst ok dX2_put_134 (x := 0) (by decide) ?_
                    exact z_iret ok hE dX2_put_135 rfl ⟨congrArg Prod.fst hT, congrArg Prod.snd hT⟩
                  · rw [if_neg c12] at hT
                    refine z_iconst ok dX2_put_130 (x := 1) (by decide) ?_
                    refine z_goto ok dX2_put_131 135 (by decide) ?_
                    exact z_iret ok hE dX2_put_135 rfl ⟨congrArg Prod.fst hT, congrArg Prod.snd hT⟩
                · rw [if_neg c8] at hT
                  refine z_bipush ok dX2_put_93 (x := (-2)) (by decide) ?_
                  exact z_iret ok hE dX2_put_95 rfl ⟨congrArg Prod.fst hT, congrArg Prod.snd hT⟩
              · rw [if_pos c7] at hT
                refine z_iconst ok dX2_put_81 (x := (-1)) (by decide) ?_
                exact z_iret ok hE dX2_put_82 rfl ⟨congrArg Prod.fst hT, congrArg Prod.snd hT⟩
      refine z_if_lt ok dX2_put_37 56 (by decide) (fun c13 => ?_) (fun c13 => ?_)
      · rw [if_pos c13] at hsx3
        refine z_iconst ok dX2_put_56 (x := 0) (by decide) ?_
        rw [← hsx3] at hJx3
        refine z_locs [1, 2, 3, 4, 5, 6, 0] (lv' := [(0, .ref (zad G 0)), (1, .int cell), (2, .int side), (3, .int kind), (4, .int spring), (5, .int x1), (6, .int x2)]) rfl ?_
        exact hJx3
      · rw [if_neg c13] at hsx3
        refine z_iload ok dX2_put_40 5 rfl ?_
        refine z_aload_n ok dX2_put_42 1 rfl ?_
        refine z_get_X2_game ok dX2_put_43 hN zw_176 ?_
        refine z_getN_X1_limit ok dX2_put_46 0 (by decide) hN zw_91 ?_
        refine z_icmp_gt ok dX2_put_49 56 (by decide) (fun c14 => ?_) (fun c14 => ?_)
        · rw [if_pos c14] at hsx3
          refine z_iconst ok dX2_put_56 (x := 0) (by decide) ?_
          rw [← hsx3] at hJx3
          refine z_locs [1, 2, 3, 4, 5, 6, 0] (lv' := [(0, .ref (zad G 0)), (1, .int cell), (2, .int side), (3, .int kind), (4, .int spring), (5, .int x1), (6, .int x2)]) rfl ?_
          exact hJx3
        · rw [if_neg c14] at hsx3
          refine z_iconst ok dX2_put_52 (x := 1) (by decide) ?_
          refine z_goto ok dX2_put_53 57 (by decide) ?_
          rw [← hsx3] at hJx3
          refine z_locs [1, 2, 3, 4, 5, 6, 0] (lv' := [(0, .ref (zad G 0)), (1, .int cell), (2, .int side), (3, .int kind), (4, .int spring), (5, .int x1), (6, .int x2)]) rfl ?_
          exact hJx3
    refine z_if_lt ok dX2_put_20 32 (by decide) (fun c15 => ?_) (fun c15 => ?_)
    · rw [if_pos c15] at hsx2
      refine z_iconst ok dX2_put_32 (x := 0) (by decide) ?_
      rw [← hsx2] at hJx2
      refine z_locs [1, 2, 3, 4, 5, 0] (lv' := [(0, .ref (zad G 0)), (1, .int cell), (2, .int side), (3, .int kind), (4, .int spring), (5, .int x1)]) rfl ?_
      exact hJx2
    · rw [if_neg c15] at hsx2
      refine z_iload_n ok dX2_put_23 4 rfl ?_
      refine z_iconst ok dX2_put_24 (x := 4) (by decide) ?_
      refine z_icmp_gt ok dX2_put_25 32 (by decide) (fun c16 => ?_) (fun c16 => ?_)
      · rw [if_pos c16] at hsx2
        refine z_iconst ok dX2_put_32 (x := 0) (by decide) ?_
        rw [← hsx2] at hJx2
        refine z_locs [1, 2, 3, 4, 5, 0] (lv' := [(0, .ref (zad G 0)), (1, .int cell), (2, .int side), (3, .int kind), (4, .int spring), (5, .int x1)]) rfl ?_
        exact hJx2
      · rw [if_neg c16] at hsx2
        refine z_iconst ok dX2_put_28 (x := 1) (by decide) ?_
        refine z_goto ok dX2_put_29 33 (by decide) ?_
        rw [← hsx2] at hJx2
        refine z_locs [1, 2, 3, 4, 5, 0] (lv' := [(0, .ref (zad G 0)), (1, .int cell), (2, .int side), (3, .int kind), (4, .int spring), (5, .int x1)]) rfl ?_
        exact hJx2
  refine z_if_ne ok dX2_put_4 12 (by decide) (fun c17 => ?_) (fun c17 => ?_)
  · rw [if_neg c17] at hsx1
    refine z_iconst ok dX2_put_12 (x := 1) (by decide) ?_
    refine z_goto ok dX2_put_13 17 (by decide) ?_
    rw [← hsx1] at hJx1
    refine z_locs [0, 1, 2, 3, 4] (lv' := [(0, .ref (zad G 0)), (1, .int cell), (2, .int side), (3, .int kind), (4, .int spring)]) rfl ?_
    exact hJx1
  · rw [if_pos c17] at hsx1
    refine z_iload_n ok dX2_put_7 2 rfl ?_
    refine z_iconst ok dX2_put_8 (x := (-1)) (by decide) ?_
    refine z_icmp_ne ok dX2_put_9 16 (by decide) (fun c18 => ?_) (fun c18 => ?_)
    · rw [if_neg c18] at hsx1
      refine z_iconst ok dX2_put_16 (x := 0) (by decide) ?_
      rw [← hsx1] at hJx1
      refine z_locs [0, 1, 2, 3, 4] (lv' := [(0, .ref (zad G 0)), (1, .int cell), (2, .int side), (3, .int kind), (4, .int spring)]) rfl ?_
      exact hJx1
    · rw [if_pos c18] at hsx1
      refine z_iconst ok dX2_put_12 (x := 1) (by decide) ?_
      refine z_goto ok dX2_put_13 17 (by decide) ?_
      rw [← hsx1] at hJx1
      refine z_locs [0, 1, 2, 3, 4] (lv' := [(0, .ref (zad G 0)), (1, .int cell), (2, .int side), (3, .int kind), (4, .int spring)]) rfl ?_
      exact hJx1

def d_X2_tower (w : xW) (cell : Int32) : Int32 × xW :=
  if (d_X2_isCell w cell) = 0 then (((-1), w))
  else (zlet cell.toNatClampNeg fun c_cell =>
  if (d_X0_isTower w 0 c_cell) = 0 then (if (d_X0_towersInAll w 0) < 6 then (zlet (d_X2_record w) fun w8 =>
  if (d_X0_isTower w8 0 c_cell) = 0 then (zlet (d_X0_markTower w8 0 c_cell 1) fun w11 =>
  ((d_X0_towersInAll w11 0), w11))
  else (zlet (d_X0_markTower w8 0 c_cell 0) fun w10 =>
  ((d_X0_towersInAll w10 0), w10)))
  else (((-3), w)))
  else (zlet (d_X2_record w) fun w3 =>
  if (d_X0_isTower w3 0 c_cell) = 0 then (zlet (d_X0_markTower w3 0 c_cell 1) fun w6 =>
  ((d_X0_towersInAll w6 0), w6))
  else (zlet (d_X0_markTower w3 0 c_cell 0) fun w5 =>
  ((d_X0_towersInAll w5 0), w5))))
set_option maxRecDepth 100000 in
set_option maxHeartbeats 4000000 in
theorem c_X2_tower (G : zG) (N : Nat) (hN : 47 ≤ N) (hg : zGeo G N) (w : xW) (cell : Int32) : zM yX2_tower cX2_tower 2 (some .int) 4 124 G N [.ref (zad G 0), .int cell] w (some (d_X2_tower w cell).1) (d_X2_tower w cell).2 := by
  obtain ⟨r, u, hT⟩ := zpair (d_X2_tower w cell)
  rw [hT]
  dsimp only
  unfold d_X2_tower at hT
  refine zM_of zy_X2_tower.2.2.2.2.2.2.2 hg ⟨Nat.le_of_ble_eq_true rfl, by decide⟩ rfl (fun k ok hE hI => ?_)
  have old := hE.old
  refine z_iload_n ok dX2_tower_0 1 rfl ?_
  refine z_callSi ok old dX2_tower_1 [] (c_X2_isCell G N hN hg w cell) zy_X2_isCell zw_260 rfl rfl (by decide) (Nat.le_of_ble_eq_true rfl) ?_
  refine z_if_ne ok dX2_tower_4 9 (by decide) (fun c1 => ?_) (fun c1 => ?_)
  · rw [if_neg c1] at hT
    replace hT := zlet_open hT
    obtain ⟨c_cell, hc_cell, hT⟩ := hT
    obtain ⟨lc_cell, ec_cell⟩ := zcellx (zisCell (by assumption)) hc_cell
    subst ec_cell
    refine z_aload_n ok dX2_tower_9 0 rfl ?_
    refine z_get_X2_game ok dX2_tower_10 hN zw_176 ?_
    refine z_getN_X1_board ok dX2_tower_13 0 (by decide) hN zw_89 ?_
    refine z_iload_n ok dX2_tower_16 1 rfl ?_
    refine z_callVNi ok old dX2_tower_17 [] (c_X0_isTower G N hN hg w 0 (by decide) c_cell (by omega)) zy_X0_isTower zw_283 (6 + 6 * 0) (zg_lt' hN (by decide)) (zE_board G w (by decide)) rfl rfl rfl rfl rfl (by decide) (Nat.le_of_ble_eq_true rfl) ?_
    refine z_if_ne ok dX2_tower_20 41 (by decide) (fun c2 => ?_) (fun c2 => ?_)
    · rw [if_neg c2] at hT
      refine z_aload_n ok dX2_tower_41 0 rfl ?_
      refine z_callVv ok old dX2_tower_42 [] (c_X2_record G N hN hg w ) zy_X2_record zw_206 0 (by omega) (zE_0 G w) rfl rfl rfl rfl rfl (by decide) (Nat.le_of_ble_eq_true rfl) ?_
      replace hT := zlet_open hT
      obtain ⟨w3, hw3, hT⟩ := hT
      rw [← hw3]
      refine z_aload_n ok dX2_tower_45 0 rfl ?_
      refine z_get_X2_game ok dX2_tower_46 hN zw_176 ?_
      refine z_getN_X1_board ok dX2_tower_49 0 (by decide) hN zw_89 ?_
      refine z_iload_n ok dX2_tower_52 1 rfl ?_
      refine z_aload_n ok dX2_tower_53 0 rfl ?_
      refine z_get_X2_game ok dX2_tower_54 hN zw_176 ?_
      refine z_getN_X1_board ok dX2_tower_57 0 (by decide) hN zw_89 ?_
      refine z_iload_n ok dX2_tower_60 1 rfl ?_
      refine z_callVNi ok old dX2_tower_61 [.int (nI c_cell), .ref (zad G (6 + 6 * 0))] (c_X0_isTower G N hN hg w3 0 (by decide) c_cell (by omega)) zy_X0_isTower zw_283 (6 + 6 * 0) (zg_lt' hN (by decide)) (zE_board G w3 (by decide)) rfl rfl rfl rfl rfl (by decide) (Nat.le_of_ble_eq_true rfl) ?_
      refine z_if_ne ok dX2_tower_64 71 (by decide) (fun c4 => ?_) (fun c4 => ?_)
      · rw [if_neg c4] at hT
        refine z_iconst ok dX2_tower_71 (x := 0) (by decide) ?_
        refine z_callVNv ok old dX2_tower_72 [] (c_X0_markTower G N hN hg w3 0 (by decide) c_cell (by omega) 0) zy_X0_markTower zw_291 (6 + 6 * 0) (zg_lt' hN (by decide)) (zE_board G w3 (by decide)) rfl rfl rfl rfl rfl (by decide) (Nat.le_of_ble_eq_true rfl) ?_
        replace hT := zlet_open hT
        obtain ⟨w5, hw5, hT⟩ := hT
        rw [← hw5]
        refine z_aload_n ok dX2_tower_75 0 rfl ?_
        refine z_get_X2_game ok dX2_tower_76 hN zw_176 ?_
        refine z_getN_X1_board ok dX2_tower_79 0 (by decide) hN zw_89 ?_
        refine z_callVNi ok old dX2_tower_82 [] (c_X0_towersInAll G N hN hg w5 0 (by decide)) zy_X0_towersInAll zw_287 (6 + 6 * 0) (zg_lt' hN (by decide)) (zE_board G w5 (by decide)) rfl rfl rfl rfl rfl (by decide) (Nat.le_of_ble_eq_true rfl) ?_
        exact z_iret ok hE dX2_tower_85 rfl ⟨congrArg Prod.fst hT, congrArg Prod.snd hT⟩
      · rw [if_pos c4] at hT
        refine z_iconst ok dX2_tower_67 (x := 1) (by decide) ?_
        refine z_goto ok dX2_tower_68 72 (by decide) ?_
        refine z_callVNv ok old dX2_tower_72 [] (c_X0_markTower G N hN hg w3 0 (by decide) c_cell (by omega) 1) zy_X0_markTower zw_291 (6 + 6 * 0) (zg_lt' hN (by decide)) (zE_board G w3 (by decide)) rfl rfl rfl rfl rfl (by decide) (Nat.le_of_ble_eq_true rfl) ?_
        replace hT := zlet_open hT
        obtain ⟨w6, hw6, hT⟩ := hT
        rw [← hw6]
        refine z_aload_n ok dX2_tower_75 0 rfl ?_
        refine z_get_X2_game ok dX2_tower_76 hN zw_176 ?_
        refine z_getN_X1_board ok dX2_tower_79 0 (by decide) hN zw_89 ?_
        refine z_callVNi ok old dX2_tower_82 [] (c_X0_towersInAll G N hN hg w6 0 (by decide)) zy_X0_towersInAll zw_287 (6 + 6 * 0) (zg_lt' hN (by decide)) (zE_board G w6 (by decide)) rfl rfl rfl rfl rfl (by decide) (Nat.le_of_ble_eq_true rfl) ?_
        exact z_iret ok hE dX2_tower_85 rfl ⟨congrArg Prod.fst hT, congrArg Prod.snd hT⟩
    · rw [if_pos c2] at hT
      refine z_aload_n ok dX2_tower_23 0 rfl ?_
      refine z_get_X2_game ok dX2_tower_24 hN zw_176 ?_
      refine z_getN_X1_board ok dX2_tower_27 0 (by decide) hN zw_89 ?_
      refine z_callVNi ok old dX2_tower_30 [] (c_X0_towersInAll G N hN hg w 0 (by decide)) zy_X0_towersInAll zw_287 (6 + 6 * 0) (zg_lt' hN (by decide)) (zE_board G w (by decide)) rfl rfl rfl rfl rfl (by decide) (Nat.le_of_ble_eq_true rfl) ?_
      refine z_bipush ok dX2_tower_33 (x := 6) (by decide) ?_
      refine z_icmp_lt ok dX2_tower_35 41 (by decide) (fun c7 => ?_) (fun c7 => ?_)
      · rw [if_pos c7] at hT
        refine z_aload_n ok dX2_tower_41 0 rfl ?_
        refine z_callVv ok old dX2_tower_42 [] (c_X2_record G N hN hg w ) zy_X2_record zw_206 0 (by omega) (zE_0 G w) rfl rfl rfl rfl rfl (by decide) (Nat.le_of_ble_eq_true rfl) ?_
        replace hT := zlet_open hT
        obtain ⟨w8, hw8, hT⟩ := hT
        rw [← hw8]
        refine z_aload_n ok dX2_tower_45 0 rfl ?_
        refine z_get_X2_game ok dX2_tower_46 hN zw_176 ?_
        refine z_getN_X1_board ok dX2_tower_49 0 (by decide) hN zw_89 ?_
        refine z_iload_n ok dX2_tower_52 1 rfl ?_
        refine z_aload_n ok dX2_tower_53 0 rfl ?_
        refine z_get_X2_game ok dX2_tower_54 hN zw_176 ?_
        refine z_getN_X1_board ok dX2_tower_57 0 (by decide) hN zw_89 ?_
        refine z_iload_n ok dX2_tower_60 1 rfl ?_
        refine z_callVNi ok old dX2_tower_61 [.int (nI c_cell), .ref (zad G (6 + 6 * 0))] (c_X0_isTower G N hN hg w8 0 (by decide) c_cell (by omega)) zy_X0_isTower zw_283 (6 + 6 * 0) (zg_lt' hN (by decide)) (zE_board G w8 (by decide)) rfl rfl rfl rfl rfl (by decide) (Nat.le_of_ble_eq_true rfl) ?_
        refine z_if_ne ok dX2_tower_64 71 (by decide) (fun c9 => ?_) (fun c9 => ?_)
        · rw [if_neg c9] at hT
          refine z_iconst ok dX2_tower_71 (x := 0) (by decide) ?_
          refine z_callVNv ok old dX2_tower_72 [] (c_X0_markTower G N hN hg w8 0 (by decide) c_cell (by omega) 0) zy_X0_markTower zw_291 (6 + 6 * 0) (zg_lt' hN (by decide)) (zE_board G w8 (by decide)) rfl rfl rfl rfl rfl (by decide) (Nat.le_of_ble_eq_true rfl) ?_
          replace hT := zlet_open hT
          obtain ⟨w10, hw10, hT⟩ := hT
          rw [← hw10]
          refine z_aload_n ok dX2_tower_75 0 rfl ?_
          refine z_get_X2_game ok dX2_tower_76 hN zw_176 ?_
          refine z_getN_X1_board ok dX2_tower_79 0 (by decide) hN zw_89 ?_
          refine z_callVNi ok old dX2_tower_82 [] (c_X0_towersInAll G N hN hg w10 0 (by decide)) zy_X0_towersInAll zw_287 (6 + 6 * 0) (zg_lt' hN (by decide)) (zE_board G w10 (by decide)) rfl rfl rfl rfl rfl (by decide) (Nat.le_of_ble_eq_true rfl) ?_
          exact z_iret ok hE dX2_tower_85 rfl ⟨congrArg Prod.fst hT, congrArg Prod.snd hT⟩
        · rw [if_pos c9] at hT
          refine z_iconst ok dX2_tower_67 (x := 1) (by decide) ?_
          refine z_goto ok dX2_tower_68 72 (by decide) ?_
          refine z_callVNv ok old dX2_tower_72 [] (c_X0_markTower G N hN hg w8 0 (by decide) c_cell (by omega) 1) zy_X0_markTower zw_291 (6 + 6 * 0) (zg_lt' hN (by decide)) (zE_board G w8 (by decide)) rfl rfl rfl rfl rfl (by decide) (Nat.le_of_ble_eq_true rfl) ?_
          replace hT := zlet_open hT
          obtain ⟨w11, hw11, hT⟩ := hT
          rw [← hw11]
          refine z_aload_n ok dX2_tower_75 0 rfl ?_
          refine z_get_X2_game ok dX2_tower_76 hN zw_176 ?_
          refine z_getN_X1_board ok dX2_tower_79 0 (by decide) hN zw_89 ?_
          refine z_callVNi ok old dX2_tower_82 [] (c_X0_towersInAll G N hN hg w11 0 (by decide)) zy_X0_towersInAll zw_287 (6 + 6 * 0) (zg_lt' hN (by decide)) (zE_board G w11 (by decide)) rfl rfl rfl rfl rfl (by decide) (Nat.le_of_ble_eq_true rfl) ?_
          exact z_iret ok hE dX2_tower_85 rfl ⟨congrArg Prod.fst hT, congrArg Prod.snd hT⟩
      · rw [if_neg c7] at hT
        refine z_bipush ok dX2_tower_38 (x := (-3)) (by decide) ?_
        exact z_iret ok hE dX2_tower_40 rfl ⟨congrArg Prod.fst hT, congrArg Prod.snd hT⟩
  · rw [if_pos c1] at hT
    refine z_iconst ok dX2_tower_7 (x := (-1)) (by decide) ?_
    exact z_iret ok hE dX2_tower_8 rfl ⟨congrArg Prod.fst hT, congrArg Prod.snd hT⟩

def d_X2_cell (w : xW) (cell : Int32) (what : Int32) : Int32 :=
  if (d_X2_isCell w cell) = 0 then ((-1))
  else (if what < 0 then ((-1))
  else (if what ≤ 4 then (zlet cell.toNatClampNeg fun c_cell =>
  if what = 3 then (if (d_X0_isTower w 0 c_cell) = 0 then (0)
  else (1))
  else (if (d_X0_hasPiece w 0 c_cell) = 0 then ((-4))
  else (if what = 0 then ((d_X0_sideOn w 0 c_cell))
  else (if what = 1 then ((d_X0_kindOn w 0 c_cell))
  else (if what = 2 then ((d_X0_springOn w 0 c_cell))
  else ((d_X0_movesFrom w 0 c_cell)))))))
  else ((-1))))
set_option maxRecDepth 100000 in
set_option maxHeartbeats 4000000 in
theorem c_X2_cell (G : zG) (N : Nat) (hN : 47 ≤ N) (hg : zGeo G N) (w : xW) (cell : Int32) (what : Int32) : zM yX2_cell cX2_cell 4 (some .int) 5 123 G N [.ref (zad G 0), .int cell, .int what] w (some (d_X2_cell w cell what)) w := by
  generalize hT : d_X2_cell w cell what = r
  unfold d_X2_cell at hT
  refine zM_of zy_X2_cell.2.2.2.2.2.2.2 hg ⟨Nat.le_of_ble_eq_true rfl, by decide⟩ rfl (fun k ok hE hI => ?_)
  have old := hE.old
  refine z_iload_n ok dX2_cell_0 1 rfl ?_
  refine z_callSi ok old dX2_cell_1 [] (c_X2_isCell G N hN hg w cell) zy_X2_isCell zw_260 rfl rfl (by decide) (Nat.le_of_ble_eq_true rfl) ?_
  refine z_if_eq ok dX2_cell_4 16 (by decide) (fun c1 => ?_) (fun c1 => ?_)
  · rw [if_pos c1] at hT
    refine z_iconst ok dX2_cell_16 (x := (-1)) (by decide) ?_
    exact z_iret ok hE dX2_cell_17 rfl ⟨hT, rfl⟩
  · rw [if_neg c1] at hT
    refine z_iload_n ok dX2_cell_7 2 rfl ?_
    refine z_if_lt ok dX2_cell_8 16 (by decide) (fun c2 => ?_) (fun c2 => ?_)
    · rw [if_pos c2] at hT
      refine z_iconst ok dX2_cell_16 (x := (-1)) (by decide) ?_
      exact z_iret ok hE dX2_cell_17 rfl ⟨hT, rfl⟩
    · rw [if_neg c2] at hT
      refine z_iload_n ok dX2_cell_11 2 rfl ?_
      refine z_iconst ok dX2_cell_12 (x := 4) (by decide) ?_
      refine z_icmp_le ok dX2_cell_13 18 (by decide) (fun c3 => ?_) (fun c3 => ?_)
      · rw [if_pos c3] at hT
        replace hT := zlet_open hT
        obtain ⟨c_cell, hc_cell, hT⟩ := hT
        obtain ⟨lc_cell, ec_cell⟩ := zcellx (zisCell (by assumption)) hc_cell
        subst ec_cell
        refine z_aload_n ok dX2_cell_18 0 rfl ?_
        refine z_get_X2_game ok dX2_cell_19 hN zw_176 ?_
        refine z_getN_X1_board ok dX2_cell_22 0 (by decide) hN zw_89 ?_
        refine z_astore_n ok dX2_cell_25 (hI 3 (by decide)) (lv' := [(3, .ref (zad G (6 + 6 * 0))), (0, .ref (zad G 0)), (1, .int (nI c_cell)), (2, .int what)]) rfl ?_
        refine z_iload_n ok dX2_cell_26 3 rfl ?_
        refine z_iconst ok dX2_cell_27 (x := 3) (by decide) ?_
        refine z_icmp_ne ok dX2_cell_28 45 (by decide) (fun c4 => ?_) (fun c4 => ?_)
        · rw [if_neg c4] at hT
          refine z_aload_n ok dX2_cell_45 0 rfl ?_
          refine z_iload_n ok dX2_cell_46 2 rfl ?_
          refine z_callVNi ok old dX2_cell_47 [] (c_X0_hasPiece G N hN hg w 0 (by decide) c_cell (by omega)) zy_X0_hasPiece zw_265 (6 + 6 * 0) (zg_lt' hN (by decide)) (zE_board G w (by decide)) rfl rfl rfl rfl rfl (by decide) (Nat.le_of_ble_eq_true rfl) ?_
          refine z_if_ne ok dX2_cell_50 56 (by decide) (fun c5 => ?_) (fun c5 => ?_)
          · rw [if_neg c5] at hT
            refine z_iload_n ok dX2_cell_56 3 rfl ?_
            by_cases c6 : what = 0
            · rw [if_pos c6] at hT
              refine z_tableIn ok dX2_cell_57 84 27 (by rw [c6]; decide) ?_
              refine z_aload_n ok dX2_cell_84 0 rfl ?_
              refine z_iload_n ok dX2_cell_85 2 rfl ?_
              refine z_callVNi ok old dX2_cell_86 [] (c_X0_sideOn G N hN hg w 0 (by decide) c_cell (by omega)) zy_X0_sideOn zw_397 (6 + 6 * 0) (zg_lt' hN (by decide)) (zE_board G w (by decide)) rfl rfl rfl rfl rfl (by decide) (Nat.le_of_ble_eq_true rfl) ?_
              exact z_iret ok hE dX2_cell_89 rfl ⟨hT, rfl⟩
            · rw [if_neg c6] at hT
              by_cases c7 : what = 1
              · rw [if_pos c7] at hT
                refine z_tableIn ok dX2_cell_57 90 33 (by rw [c7]; decide) ?_
                refine z_aload_n ok dX2_cell_90 0 rfl ?_
                refine z_iload_n ok dX2_cell_91 2 rfl ?_
                refine z_callVNi ok old dX2_cell_92 [] (c_X0_kindOn G N hN hg w 0 (by decide) c_cell (by omega)) zy_X0_kindOn zw_419 (6 + 6 * 0) (zg_lt' hN (by decide)) (zE_board G w (by decide)) rfl rfl rfl rfl rfl (by decide) (Nat.le_of_ble_eq_true rfl) ?_
                exact z_iret ok hE dX2_cell_95 rfl ⟨hT, rfl⟩
              · rw [if_neg c7] at hT
                by_cases c8 : what = 2
                · rw [if_pos c8] at hT
                  refine z_tableIn ok dX2_cell_57 96 39 (by rw [c8]; decide) ?_
                  refine z_aload_n ok dX2_cell_96 0 rfl ?_
                  refine z_iload_n ok dX2_cell_97 2 rfl ?_
                  refine z_callVNi ok old dX2_cell_98 [] (c_X0_springOn G N hN hg w 0 (by decide) c_cell (by omega)) zy_X0_springOn zw_420 (6 + 6 * 0) (zg_lt' hN (by decide)) (zE_board G w (by decide)) rfl rfl rfl rfl rfl (by decide) (Nat.le_of_ble_eq_true rfl) ?_
                  exact z_iret ok hE dX2_cell_101 rfl ⟨hT, rfl⟩
                · rw [if_neg c8] at hT
                  refine z_tableOut ok dX2_cell_57 102 (ztab_out3 c6 c7 c8) (by decide) ?_
                  refine z_aload_n ok dX2_cell_102 0 rfl ?_
                  refine z_iload_n ok dX2_cell_103 2 rfl ?_
                  refine z_callVNi ok old dX2_cell_104 [] (c_X0_movesFrom G N hN hg w 0 (by decide) c_cell (by omega)) zy_X0_movesFrom zw_421 (6 + 6 * 0) (zg_lt' hN (by decide)) (zE_board G w (by decide)) rfl rfl rfl rfl rfl (by decide) (Nat.le_of_ble_eq_true rfl) ?_
                  exact z_iret ok hE dX2_cell_107 rfl ⟨hT, rfl⟩
          · rw [if_pos c5] at hT
            refine z_bipush ok dX2_cell_53 (x := (-4)) (by decide) ?_
            exact z_iret ok hE dX2_cell_55 rfl ⟨hT, rfl⟩
        · rw [if_pos c4] at hT
          refine z_aload_n ok dX2_cell_31 0 rfl ?_
          refine z_iload_n ok dX2_cell_32 2 rfl ?_
          refine z_callVNi ok old dX2_cell_33 [] (c_X0_isTower G N hN hg w 0 (by decide) c_cell (by omega)) zy_X0_isTower zw_283 (6 + 6 * 0) (zg_lt' hN (by decide)) (zE_board G w (by decide)) rfl rfl rfl rfl rfl (by decide) (Nat.le_of_ble_eq_true rfl) ?_
          refine z_if_eq ok dX2_cell_36 43 (by decide) (fun c9 => ?_) (fun c9 => ?_)
          · rw [if_pos c9] at hT
            refine z_iconst ok dX2_cell_43 (x := 0) (by decide) ?_
            exact z_iret ok hE dX2_cell_44 rfl ⟨hT, rfl⟩
          · rw [if_neg c9] at hT
            refine z_iconst ok dX2_cell_39 (x := 1) (by decide) ?_
            refine z_goto ok dX2_cell_40 44 (by decide) ?_
            exact z_iret ok hE dX2_cell_44 rfl ⟨hT, rfl⟩
      · rw [if_neg c3] at hT
        refine z_iconst ok dX2_cell_16 (x := (-1)) (by decide) ?_
        exact z_iret ok hE dX2_cell_17 rfl ⟨hT, rfl⟩

def d_X2_count (w : xW) (what : Int32) : Int32 :=
  if what = 0 then ((xg w 0 144))
  else (if what = 1 then ((xg w 0 145))
  else (if what = 2 then (if (xg w 0 146) = (-1) then ((-4))
  else ((xg w 0 146)))
  else (if what = 3 then ((xg w 0 147))
  else (if what = 4 then ((d_X0_piecesInAll w 0))
  else (if what = 5 then ((d_X0_towersInAll w 0))
  else (if what = 6 then ((d_X0_springsOf w 0 0))
  else (if what = 7 then ((d_X0_springsOf w 0 1))
  else (if what = 8 then ((xg w 10 0))
  else (if what = 9 then ((xg w 10 1))
  else (if what = 10 then ((d_X1_setting w 0 (what - 10)))
  else (if what = 11 then ((d_X1_setting w 0 (what - 10)))
  else (if what = 12 then ((d_X1_setting w 0 (what - 10)))
  else (if (d_X2_isAccount w (what - 20)) = 0 then ((-1))
  else ((d_X1_account w 0 (what - 20))))))))))))))))
set_option maxRecDepth 100000 in
set_option maxHeartbeats 4000000 in
theorem c_X2_count (G : zG) (N : Nat) (hN : 47 ≤ N) (hg : zGeo G N) (w : xW) (what : Int32) : zM yX2_count cX2_count 2 (some .int) 3 64 G N [.ref (zad G 0), .int what] w (some (d_X2_count w what)) w := by
  generalize hT : d_X2_count w what = r
  unfold d_X2_count at hT
  refine zM_of zy_X2_count.2.2.2.2.2.2.2 hg ⟨Nat.le_of_ble_eq_true rfl, by decide⟩ rfl (fun k ok hE hI => ?_)
  have old := hE.old
  refine z_iload_n ok dX2_count_0 1 rfl ?_
  by_cases c1 : what = 0
  · rw [if_pos c1] at hT
    refine z_tableIn ok dX2_count_1 68 67 (by rw [c1]; decide) ?_
    refine z_aload_n ok dX2_count_68 0 rfl ?_
    refine z_get_X2_game ok dX2_count_69 hN zw_176 ?_
    refine z_getN_X1_mover ok dX2_count_72 0 (by decide) hN zw_95 ?_
    exact z_iret ok hE dX2_count_75 rfl ⟨hT, rfl⟩
  · rw [if_neg c1] at hT
    by_cases c2 : what = 1
    · rw [if_pos c2] at hT
      refine z_tableIn ok dX2_count_1 76 75 (by rw [c2]; decide) ?_
      refine z_aload_n ok dX2_count_76 0 rfl ?_
      refine z_get_X2_game ok dX2_count_77 hN zw_176 ?_
      refine z_getN_X1_ending ok dX2_count_80 0 (by decide) hN zw_97 ?_
      exact z_iret ok hE dX2_count_83 rfl ⟨hT, rfl⟩
    · rw [if_neg c2] at hT
      by_cases c3 : what = 2
      · rw [if_pos c3] at hT
        refine z_tableIn ok dX2_count_1 84 83 (by rw [c3]; decide) ?_
        refine z_aload_n ok dX2_count_84 0 rfl ?_
        refine z_get_X2_game ok dX2_count_85 hN zw_176 ?_
        refine z_getN_X1_winner ok dX2_count_88 0 (by decide) hN zw_99 ?_
        refine z_iconst ok dX2_count_91 (x := (-1)) (by decide) ?_
        refine z_icmp_ne ok dX2_count_92 100 (by decide) (fun c4 => ?_) (fun c4 => ?_)
        · rw [if_neg c4] at hT
          refine z_aload_n ok dX2_count_100 0 rfl ?_
          refine z_get_X2_game ok dX2_count_101 hN zw_176 ?_
          refine z_getN_X1_winner ok dX2_count_104 0 (by decide) hN zw_99 ?_
          exact z_iret ok hE dX2_count_107 rfl ⟨hT, rfl⟩
        · rw [if_pos c4] at hT
          refine z_bipush ok dX2_count_95 (x := (-4)) (by decide) ?_
          refine z_goto ok dX2_count_97 107 (by decide) ?_
          exact z_iret ok hE dX2_count_107 rfl ⟨hT, rfl⟩
      · rw [if_neg c3] at hT
        by_cases c5 : what = 3
        · rw [if_pos c5] at hT
          refine z_tableIn ok dX2_count_1 108 107 (by rw [c5]; decide) ?_
          refine z_aload_n ok dX2_count_108 0 rfl ?_
          refine z_get_X2_game ok dX2_count_109 hN zw_176 ?_
          refine z_getN_X1_turnsMade ok dX2_count_112 0 (by decide) hN zw_101 ?_
          exact z_iret ok hE dX2_count_115 rfl ⟨hT, rfl⟩
        · rw [if_neg c5] at hT
          by_cases c6 : what = 4
          · rw [if_pos c6] at hT
            refine z_tableIn ok dX2_count_1 116 115 (by rw [c6]; decide) ?_
            refine z_aload_n ok dX2_count_116 0 rfl ?_
            refine z_get_X2_game ok dX2_count_117 hN zw_176 ?_
            refine z_getN_X1_board ok dX2_count_120 0 (by decide) hN zw_89 ?_
            refine z_callVNi ok old dX2_count_123 [] (c_X0_piecesInAll G N hN hg w 0 (by decide)) zy_X0_piecesInAll zw_296 (6 + 6 * 0) (zg_lt' hN (by decide)) (zE_board G w (by decide)) rfl rfl rfl rfl rfl (by decide) (Nat.le_of_ble_eq_true rfl) ?_
            exact z_iret ok hE dX2_count_126 rfl ⟨hT, rfl⟩
          · rw [if_neg c6] at hT
            by_cases c7 : what = 5
            · rw [if_pos c7] at hT
              refine z_tableIn ok dX2_count_1 127 126 (by rw [c7]; decide) ?_
              refine z_aload_n ok dX2_count_127 0 rfl ?_
              refine z_get_X2_game ok dX2_count_128 hN zw_176 ?_
              refine z_getN_X1_board ok dX2_count_131 0 (by decide) hN zw_89 ?_
              refine z_callVNi ok old dX2_count_134 [] (c_X0_towersInAll G N hN hg w 0 (by decide)) zy_X0_towersInAll zw_287 (6 + 6 * 0) (zg_lt' hN (by decide)) (zE_board G w (by decide)) rfl rfl rfl rfl rfl (by decide) (Nat.le_of_ble_eq_true rfl) ?_
              exact z_iret ok hE dX2_count_137 rfl ⟨hT, rfl⟩
            · rw [if_neg c7] at hT
              by_cases c8 : what = 6
              · rw [if_pos c8] at hT
                refine z_tableIn ok dX2_count_1 138 137 (by rw [c8]; decide) ?_
                refine z_aload_n ok dX2_count_138 0 rfl ?_
                refine z_get_X2_game ok dX2_count_139 hN zw_176 ?_
                refine z_getN_X1_board ok dX2_count_142 0 (by decide) hN zw_89 ?_
                refine z_iconst ok dX2_count_145 (x := 0) (by decide) ?_
                refine z_callVNi ok old dX2_count_146 [] (c_X0_springsOf G N hN hg w 0 (by decide) 0) zy_X0_springsOf zw_300 (6 + 6 * 0) (zg_lt' hN (by decide)) (zE_board G w (by decide)) rfl rfl rfl rfl rfl (by decide) (Nat.le_of_ble_eq_true rfl) ?_
                exact z_iret ok hE dX2_count_149 rfl ⟨hT, rfl⟩
              · rw [if_neg c8] at hT
                by_cases c9 : what = 7
                · rw [if_pos c9] at hT
                  refine z_tableIn ok dX2_count_1 150 149 (by rw [c9]; decide) ?_
                  refine z_aload_n ok dX2_count_150 0 rfl ?_
                  refine z_get_X2_game ok dX2_count_151 hN zw_176 ?_
                  refine z_getN_X1_board ok dX2_count_154 0 (by decide) hN zw_89 ?_
                  refine z_iconst ok dX2_count_157 (x := 1) (by decide) ?_
                  refine z_callVNi ok old dX2_count_158 [] (c_X0_springsOf G N hN hg w 0 (by decide) 1) zy_X0_springsOf zw_300 (6 + 6 * 0) (zg_lt' hN (by decide)) (zE_board G w (by decide)) rfl rfl rfl rfl rfl (by decide) (Nat.le_of_ble_eq_true rfl) ?_
                  exact z_iret ok hE dX2_count_161 rfl ⟨hT, rfl⟩
                · rw [if_neg c9] at hT
                  by_cases c10 : what = 8
                  · rw [if_pos c10] at hT
                    refine z_tableIn ok dX2_count_1 162 161 (by rw [c10]; decide) ?_
                    refine z_aload_n ok dX2_count_162 0 rfl ?_
                    refine z_get_X2_stateCount ok dX2_count_163 hN zw_179 ?_
                    exact z_iret ok hE dX2_count_166 rfl ⟨hT, rfl⟩
                  · rw [if_neg c10] at hT
                    by_cases c11 : what = 9
                    · rw [if_pos c11] at hT
                      refine z_tableIn ok dX2_count_1 167 166 (by rw [c11]; decide) ?_
                      refine z_aload_n ok dX2_count_167 0 rfl ?_
                      refine z_get_X2_textLength ok dX2_count_168 hN zw_181 ?_
                      exact z_iret ok hE dX2_count_171 rfl ⟨hT, rfl⟩
                    · rw [if_neg c11] at hT
                      by_cases c12 : what = 10
                      · rw [if_pos c12] at hT
                        refine z_tableIn ok dX2_count_1 172 171 (by rw [c12]; decide) ?_
                        refine z_aload_n ok dX2_count_172 0 rfl ?_
                        refine z_get_X2_game ok dX2_count_173 hN zw_176 ?_
                        refine z_iload_n ok dX2_count_176 1 rfl ?_
                        refine z_bipush ok dX2_count_177 (x := 10) (by decide) ?_
                        refine z_isub ok dX2_count_179 ?_
                        refine z_callVNi ok old dX2_count_180 [] (c_X1_setting G N hN hg w 0 (by decide) (what - 10)) zy_X1_setting zw_233 (5 + 6 * 0) (zg_lt hN (by decide)) (zE_game G w (by decide)) rfl rfl rfl rfl rfl (by decide) (Nat.le_of_ble_eq_true rfl) ?_
                        exact z_iret ok hE dX2_count_183 rfl ⟨hT, rfl⟩
                      · rw [if_neg c12] at hT
                        by_cases c13 : what = 11
                        · rw [if_pos c13] at hT
                          refine z_tableIn ok dX2_count_1 172 171 (by rw [c13]; decide) ?_
                          refine z_aload_n ok dX2_count_172 0 rfl ?_
                          refine z_get_X2_game ok dX2_count_173 hN zw_176 ?_
                          refine z_iload_n ok dX2_count_176 1 rfl ?_
                          refine z_bipush ok dX2_count_177 (x := 10) (by decide) ?_
                          refine z_isub ok dX2_count_179 ?_
                          refine z_callVNi ok old dX2_count_180 [] (c_X1_setting G N hN hg w 0 (by decide) (what - 10)) zy_X1_setting zw_233 (5 + 6 * 0) (zg_lt hN (by decide)) (zE_game G w (by decide)) rfl rfl rfl rfl rfl (by decide) (Nat.le_of_ble_eq_true rfl) ?_
                          exact z_iret ok hE dX2_count_183 rfl ⟨hT, rfl⟩
                        · rw [if_neg c13] at hT
                          by_cases c14 : what = 12
                          · rw [if_pos c14] at hT
                            refine z_tableIn ok dX2_count_1 172 171 (by rw [c14]; decide) ?_
                            refine z_aload_n ok dX2_count_172 0 rfl ?_
                            refine z_get_X2_game ok dX2_count_173 hN zw_176 ?_
                            refine z_iload_n ok dX2_count_176 1 rfl ?_
                            refine z_bipush ok dX2_count_177 (x := 10) (by decide) ?_
                            refine z_isub ok dX2_count_179 ?_
                            refine z_callVNi ok old dX2_count_180 [] (c_X1_setting G N hN hg w 0 (by decide) (what - 10)) zy_X1_setting zw_233 (5 + 6 * 0) (zg_lt hN (by decide)) (zE_game G w (by decide)) rfl rfl rfl rfl rfl (by decide) (Nat.le_of_ble_eq_true rfl) ?_
                            exact z_iret ok hE dX2_count_183 rfl ⟨hT, rfl⟩
                          · rw [if_neg c14] at hT
                            refine z_tableOut ok dX2_count_1 184 (ztab_out13 c1 c2 c3 c5 c6 c7 c8 c9 c10 c11 c12 c13 c14) (by decide) ?_
                            refine z_iload_n ok dX2_count_184 1 rfl ?_
                            refine z_bipush ok dX2_count_185 (x := 20) (by decide) ?_
                            refine z_isub ok dX2_count_187 ?_
                            refine z_callSi ok old dX2_count_188 [] (c_X2_isAccount G N hN hg w (what - 20)) zy_X2_isAccount zw_301 rfl rfl (by decide) (Nat.le_of_ble_eq_true rfl) ?_
                            refine z_if_eq ok dX2_count_191 208 (by decide) (fun c15 => ?_) (fun c15 => ?_)
                            · rw [if_pos c15] at hT
                              refine z_iconst ok dX2_count_208 (x := (-1)) (by decide) ?_
                              exact z_iret ok hE dX2_count_209 rfl ⟨hT, rfl⟩
                            · rw [if_neg c15] at hT
                              refine z_aload_n ok dX2_count_194 0 rfl ?_
                              refine z_get_X2_game ok dX2_count_195 hN zw_176 ?_
                              refine z_iload_n ok dX2_count_198 1 rfl ?_
                              refine z_bipush ok dX2_count_199 (x := 20) (by decide) ?_
                              refine z_isub ok dX2_count_201 ?_
                              refine z_callVNi ok old dX2_count_202 [] (c_X1_account G N hN hg w 0 (by decide) (what - 20)) zy_X1_account zw_304 (5 + 6 * 0) (zg_lt hN (by decide)) (zE_game G w (by decide)) rfl rfl rfl rfl rfl (by decide) (Nat.le_of_ble_eq_true rfl) ?_
                              refine z_goto ok dX2_count_205 209 (by decide) ?_
                              exact z_iret ok hE dX2_count_209 rfl ⟨hT, rfl⟩

def d_X2_undo (w : xW)  : Int32 × xW :=
  if ((xg w 10 0) - 1) < 0 then (((-2), w))
  else (if 5 ≤ ((xg w 10 0) - 1) then (((-2), w))
  else (zlet (xs w 10 0 ((xg w 10 0) - 1)) fun w3 =>
  zlet (d_X1_copyFrom w3 0 (zpg w ((xg w 10 0) - 1).toNatClampNeg)) fun w4 =>
  ((xg w4 10 0), w4)))
set_option maxRecDepth 100000 in
set_option maxHeartbeats 4000000 in
theorem c_X2_undo (G : zG) (N : Nat) (hN : 47 ≤ N) (hg : zGeo G N) (w : xW) : zM yX2_undo cX2_undo 2 (some .int) 3 102 G N [.ref (zad G 0)] w (some (d_X2_undo w).1) (d_X2_undo w).2 := by
  obtain ⟨r, u, hT⟩ := zpair (d_X2_undo w)
  rw [hT]
  dsimp only
  unfold d_X2_undo at hT
  refine zM_of zy_X2_undo.2.2.2.2.2.2.2 hg ⟨Nat.le_of_ble_eq_true rfl, by decide⟩ rfl (fun k ok hE hI => ?_)
  have old := hE.old
  refine z_aload_n ok dX2_undo_0 0 rfl ?_
  refine z_aload_n ok dX2_undo_1 0 rfl ?_
  refine z_get_X2_stateCount ok dX2_undo_2 hN zw_179 ?_
  refine z_iconst ok dX2_undo_5 (x := 1) (by decide) ?_
  refine z_isub ok dX2_undo_6 ?_
  by_cases c1 : ((xg w 10 0) - 1) < 0
  · rw [if_pos c1] at hT
    refine z_callVV ok old dX2_undo_7 [] (c_X2_stateAt_n G N hN hg w ((xg w 10 0) - 1) (Or.inl c1)) zy_X2_stateAt zw_210 0 (by omega) (zE_0 G w) rfl rfl rfl rfl rfl (by decide) (Nat.le_of_ble_eq_true rfl) ?_
    refine z_astore_nN ok dX2_undo_10 (hI 1 (by decide)) (lv' := [(1, .null), (0, .ref (zad G 0))]) rfl ?_
    refine z_aload_nN ok dX2_undo_11 0 rfl ?_
    refine z_ifnonnullN ok dX2_undo_12 ?_
    refine z_bipush ok dX2_undo_15 (x := (-2)) (by decide) ?_
    exact z_iret ok hE dX2_undo_17 rfl ⟨congrArg Prod.fst hT, congrArg Prod.snd hT⟩
  · rw [if_neg c1] at hT
    by_cases c2 : 5 ≤ ((xg w 10 0) - 1)
    · rw [if_pos c2] at hT
      refine z_callVV ok old dX2_undo_7 [] (c_X2_stateAt_n G N hN hg w ((xg w 10 0) - 1) (Or.inr c2)) zy_X2_stateAt zw_210 0 (by omega) (zE_0 G w) rfl rfl rfl rfl rfl (by decide) (Nat.le_of_ble_eq_true rfl) ?_
      refine z_astore_nN ok dX2_undo_10 (hI 1 (by decide)) (lv' := [(1, .null), (0, .ref (zad G 0))]) rfl ?_
      refine z_aload_nN ok dX2_undo_11 0 rfl ?_
      refine z_ifnonnullN ok dX2_undo_12 ?_
      refine z_bipush ok dX2_undo_15 (x := (-2)) (by decide) ?_
      exact z_iret ok hE dX2_undo_17 rfl ⟨congrArg Prod.fst hT, congrArg Prod.snd hT⟩
    · rw [if_neg c2] at hT
      refine z_callVV ok old dX2_undo_7 [] (c_X2_stateAt_r G N hN hg w ((xg w 10 0) - 1) c1 c2) zy_X2_stateAt zw_210 0 (by omega) (zE_0 G w) rfl rfl rfl rfl rfl (by decide) (Nat.le_of_ble_eq_true rfl) ?_
      refine z_astore_n ok dX2_undo_10 (hI 1 (by decide)) (lv' := [(1, .ref (zad G (5 + 6 * (zpg w ((xg w 10 0) - 1).toNatClampNeg)))), (0, .ref (zad G 0))]) rfl ?_
      refine z_aload_n ok dX2_undo_11 0 rfl ?_
      refine z_ifnonnull ok dX2_undo_12 18 (by decide) ?_
      refine z_aload_n ok dX2_undo_18 1 rfl ?_
      refine z_dup ok dX2_undo_19 rfl ?_
      refine z_get_X2_stateCount ok dX2_undo_20 hN zw_179 ?_
      refine z_iconst ok dX2_undo_23 (x := 1) (by decide) ?_
      refine z_isub ok dX2_undo_24 ?_
      refine z_put_X2_stateCount ok dX2_undo_25 hN zw_179 ?_
      replace hT := zlet_open hT
      obtain ⟨w3, hw3, hT⟩ := hT
      rw [← hw3]
      refine z_aload_n ok dX2_undo_28 1 rfl ?_
      refine z_get_X2_game ok dX2_undo_29 hN zw_176 ?_
      refine z_aload_n ok dX2_undo_32 0 rfl ?_
      refine z_callVNv ok old dX2_undo_33 [] (c_X1_copyFrom G N hN hg w3 0 (by decide) (zpg w ((xg w 10 0) - 1).toNatClampNeg) (zpg_lt _ _)) zy_X1_copyFrom zw_214 (5 + 6 * 0) (zg_lt hN (by decide)) (zE_game G w3 (by decide)) rfl rfl rfl rfl rfl (by decide) (Nat.le_of_ble_eq_true rfl) ?_
      replace hT := zlet_open hT
      obtain ⟨w4, hw4, hT⟩ := hT
      rw [← hw4]
      refine z_aload_n ok dX2_undo_36 1 rfl ?_
      refine z_get_X2_stateCount ok dX2_undo_37 hN zw_179 ?_
      exact z_iret ok hE dX2_undo_40 rfl ⟨congrArg Prod.fst hT, congrArg Prod.snd hT⟩
