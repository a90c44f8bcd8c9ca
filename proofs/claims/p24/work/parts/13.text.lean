theorem zcellAt_ok {w : xW} {p : Int32} (h : ¬ d_X2_cellAt w p = -1) : d_X2_cellAt w p = nI (d_X2_cellAt w p).toNatClampNeg ∧ (d_X2_cellAt w p).toNatClampNeg < 36 := by
  unfold d_X2_cellAt at h ⊢
  simp only [zlet] at h ⊢
  by_cases h1 : d_X2_signAt w p - 97 < 0
  · simp [h1] at h
  by_cases h2 : 6 ≤ d_X2_signAt w p - 97
  · simp [h1, h2] at h
  by_cases h3 : d_X2_signAt w (p + 1) - 49 < 0
  · simp [h1, h2, h3] at h
  by_cases h4 : 6 ≤ d_X2_signAt w (p + 1) - 49
  · simp [h1, h2, h3, h4] at h
  have e : ¬ (1 : Int32) = 0 := by decide
  rw [if_neg h1, if_neg h2, if_neg h3, if_neg h4, if_neg e]
  obtain ⟨a1, a2⟩ := zidx6 h1 h2
  obtain ⟨b1, b2⟩ := zidx6 h3 h4
  rw [a1, b1, show (6 : Int32) = nI 6 from rfl, pk_mul, nI_add, zcl (by omega)]
  exact ⟨rfl, by omega⟩
theorem zform_k {w : xW} {p : Int32} (h : (if (if d_X2_cellAt w p = -1 then (0 : Int32) else if d_X2_cellAt w (p + 2) = -1 then 0 else if d_X2_signAt w (p + 4) = 59 then 1 else 0) = 0 then (0 : Int32) else 5) = 5) : ¬ d_X2_cellAt w p = -1 ∧ ¬ d_X2_cellAt w (p + 2) = -1 := by
  have e0 : ¬ (0 : Int32) = 5 := by decide
  by_cases q1 : d_X2_cellAt w p = -1
  · rw [if_pos q1, if_pos rfl] at h; exact absurd h e0
  · by_cases q2 : d_X2_cellAt w (p + 2) = -1
    · rw [if_neg q1, if_pos q2, if_pos rfl] at h; exact absurd h e0
    · exact ⟨q1, q2⟩
theorem zform_5 {w : xW} {p : Int32} (h : d_X2_signsOfForm w p = 5) : ¬ d_X2_cellAt w p = -1 ∧ ¬ d_X2_cellAt w (p + 2) = -1 := by
  unfold d_X2_signsOfForm at h
  have e2 : ¬ (2 : Int32) = 5 := by decide
  by_cases s1 : d_X2_signAt w p = 45
  · rw [if_pos s1] at h
    by_cases s2 : d_X2_signAt w (p + 1) = 59
    · rw [if_pos s2] at h; exact absurd h e2
    · rw [if_neg s2] at h; unfold zlet at h; exact zform_k h
  · rw [if_neg s1] at h; unfold zlet at h; exact zform_k h
theorem zform_a {w : xW} {p x3 x4 : Int32} (h3 : x3 = d_X2_signsOfForm w p) (h4 : x4 = d_X2_cellAt w p) (c : x3 = 5) : x4 = nI x4.toNatClampNeg ∧ x4.toNatClampNeg < 36 := by
  subst h4
  exact zcellAt_ok (zform_5 (h3.symm.trans c)).1
theorem zform_b {w : xW} {p x3 x4 : Int32} (h3 : x3 = d_X2_signsOfForm w p) (h4 : x4 = d_X2_cellAt w (p + 2)) (c : x3 = 5) : x4 = nI x4.toNatClampNeg ∧ x4.toNatClampNeg < 36 := by
  subst h4
  exact zcellAt_ok (zform_5 (h3.symm.trans c)).2
def d_X2_tryText_15k  (e2_1 : Int32) (e2_2 : Nat) (ew2 : xW) : Int32 × xW :=
  ((-1), ew2)
def d_X2_tryText_15  (kt2 : Int32 → Nat → xW → (Int32 × xW)) : Nat → Int32 → Nat → xW → Int32 × xW
  | 0, _, _, _ => default
  | n2 + 1, v2_1, v2_2, vw2 => if 80 ≤ v2_2 then (kt2 v2_1 v2_2 vw2)
  else (if (xg vw2 10 1) ≤ v2_1 then (kt2 v2_1 v2_2 vw2)
  else (zlet ((d_X2_signsOfForm vw2 v2_1)) fun x5 =>
  zlet ((d_X2_cellAt vw2 v2_1)) fun x6 =>
  zlet ((d_X2_cellAt vw2 (v2_1 + 2))) fun x7 =>
  zlet (if x5 = 5 then (zlet x6.toNatClampNeg fun c_x6 =>
  zlet x7.toNatClampNeg fun c_x7 =>
  zlet ((d_X1_reasonAgainst vw2 1 c_x6 c_x7)) fun x18 =>
  x18)
  else (if x5 = 2 then (zlet ((d_X1_reasonAgainstPass vw2 1)) fun x17 =>
  x17)
  else (1)) : Int32) fun x8 =>
  if x8 = 0 then (if x5 = 5 then (zlet x6.toNatClampNeg fun c_x6 =>
  zlet x7.toNatClampNeg fun c_x7 =>
  zlet (d_X1_makeMove vw2 1 c_x6 c_x7) fun p13 =>
  zlet ((v2_1 + x5)) fun x14 =>
  d_X2_tryText_15  kt2 n2 x14 (v2_2 + 1) p13.2)
  else (zlet (d_X1_makePass vw2 1) fun w11 =>
  zlet ((v2_1 + x5)) fun x12 =>
  d_X2_tryText_15  kt2 n2 x12 (v2_2 + 1) w11))
  else ((((16 * v2_1) + x8), vw2))))
def d_X2_tryText (w : xW)  : Int32 × xW :=
  zlet (d_X1_copyFrom w 1 0) fun w1 =>
  d_X2_tryText_15  d_X2_tryText_15k 81 0 0 w1
set_option maxRecDepth 100000 in
set_option maxHeartbeats 4000000 in
theorem c_X2_tryText (G : zG) (N : Nat) (hN : 47 ≤ N) (hg : zGeo G N) (w : xW) : zM yX2_tryText cX2_tryText 7 (some .int) 6 144 G N [.ref (zad G 0)] w (some (d_X2_tryText w).1) (d_X2_tryText w).2 := by
  obtain ⟨r, u, hT⟩ := zpair (d_X2_tryText w)
  rw [hT]
  dsimp only
  unfold d_X2_tryText at hT
  refine zM_of zy_X2_tryText.2.2.2.2.2.2.2 hg ⟨Nat.le_of_ble_eq_true rfl, by decide⟩ rfl (fun k ok hE hI => ?_)
  have old := hE.old
  refine z_aload_n ok dX2_tryText_0 0 rfl ?_
  refine z_get_X2_trial ok dX2_tryText_1 hN zw_177 ?_
  refine z_aload_n ok dX2_tryText_4 0 rfl ?_
  refine z_get_X2_game ok dX2_tryText_5 hN zw_176 ?_
  refine z_callVNv ok old dX2_tryText_8 [] (c_X1_copyFrom G N hN hg w 1 (by decide) 0 (by decide)) zy_X1_copyFrom zw_214 (5 + 6 * 1) (zg_lt hN (by decide)) (zE_game G w (by decide)) rfl rfl rfl rfl rfl (by decide) (Nat.le_of_ble_eq_true rfl) ?_
  replace hT := zlet_open hT
  obtain ⟨w1, hw1, hT⟩ := hT
  rw [← hw1]
  refine z_iconst ok dX2_tryText_11 (x := 0) (by decide) ?_
  refine z_istore_n ok dX2_tryText_12 (hI 1 (by decide)) (lv' := [(1, .int 0), (0, .ref (zad G 0))]) rfl ?_
  refine z_iconst ok dX2_tryText_13 (x := 0) (by decide) ?_
  refine z_istore_n ok dX2_tryText_14 (hI 2 (by decide)) (lv' := [(2, .int 0), (1, .int 0), (0, .ref (zad G 0))]) rfl ?_
  refine z_locs [2, 1, 0] (lv' := [(0, .ref (zad G 0)), (1, .int 0), (2, .int 0)]) rfl ?_
  obtain ⟨kt2, hkt2⟩ : ∃ z, z = d_X2_tryText_15k := ⟨_, rfl⟩
  rw [← hkt2] at hT
  have hk2 : ∀ (e2_1 : Int32) (e2_2 : Nat) (ew2 : xW), e2_2 ≤ 80 → kt2 e2_1 e2_2 ew2 = (r, u) → zZ k G N ew2 139 [(0, .ref (zad G 0)), (1, .int e2_1), (2, .int (nI e2_2))] [] := by
    intro e2_1 e2_2 ew2 q2_0 hT2
    rw [hkt2, d_X2_tryText_15k] at hT2
    refine z_iconst ok dX2_tryText_139 (x := (-1)) (by decide) ?_
    exact z_iret ok hE dX2_tryText_140 rfl ⟨congrArg Prod.fst hT2, congrArg Prod.snd hT2⟩
  have hl2 : ∀ (n2 : Nat) (v2_1 : Int32) (v2_2 : Nat) (vw2 : xW), 80 < v2_2 + n2 → v2_2 ≤ 80 → d_X2_tryText_15  kt2 n2 v2_1 v2_2 vw2 = (r, u) → zZ k G N vw2 15 [(0, .ref (zad G 0)), (1, .int v2_1), (2, .int (nI v2_2))] [] := by
    intro n2
    induction n2 with
    | zero =>
      intro v2_1 v2_2 vw2 q2_0 q2_1
      exact absurd q2_0 (by omega)
    | succ n2 ih2 =>
      intro v2_1 v2_2 vw2 q2_0 q2_1 hT2
      rw [d_X2_tryText_15] at hT2
      refine z_iload_n ok dX2_tryText_15 2 rfl ?_
      refine z_bipush ok dX2_tryText_16 (x := 80) (by decide) ?_
      refine z_icmp_ge_n ok dX2_tryText_18 139 (by decide) v2_2 80 rfl rfl (by omega) (fun c3 => ?_) (fun c3 => ?_)
      · rw [if_pos c3] at hT2
        refine z_locs [0, 1, 2] (lv' := [(0, .ref (zad G 0)), (1, .int v2_1), (2, .int (nI v2_2))]) rfl ?_
        exact hk2 v2_1 v2_2 vw2 (by omega) hT2
      · rw [if_neg c3] at hT2
        refine z_iload_n ok dX2_tryText_21 1 rfl ?_
        refine z_aload_n ok dX2_tryText_22 0 rfl ?_
        refine z_get_X2_textLength ok dX2_tryText_23 hN zw_181 ?_
        refine z_icmp_ge ok dX2_tryText_26 139 (by decide) (fun c4 => ?_) (fun c4 => ?_)
        · rw [if_pos c4] at hT2
          refine z_locs [0, 1, 2] (lv' := [(0, .ref (zad G 0)), (1, .int v2_1), (2, .int (nI v2_2))]) rfl ?_
          exact hk2 v2_1 v2_2 vw2 (by omega) hT2
        · rw [if_neg c4] at hT2
          refine z_aload_n ok dX2_tryText_29 0 rfl ?_
          refine z_iload_n ok dX2_tryText_30 1 rfl ?_
          refine z_callVi ok old dX2_tryText_31 [] (c_X2_signsOfForm G N hN hg vw2 v2_1) zy_X2_signsOfForm zw_470 0 (by omega) (zE_0 G vw2) rfl rfl rfl rfl rfl (by decide) (Nat.le_of_ble_eq_true rfl) ?_
          replace hT2 := zlet_open hT2
          obtain ⟨x5, hx5, hT2⟩ := hT2
          rw [← hx5]
          refine z_istore_n ok dX2_tryText_34 (hI 3 (by decide)) (lv' := [(3, .int x5), (0, .ref (zad G 0)), (1, .int v2_1), (2, .int (nI v2_2))]) rfl ?_
          refine z_aload_n ok dX2_tryText_35 1 rfl ?_
          refine z_iload_n ok dX2_tryText_36 2 rfl ?_
          refine z_callVi ok old dX2_tryText_37 [] (c_X2_cellAt G N hN hg vw2 v2_1) zy_X2_cellAt zw_478 0 (by omega) (zE_0 G vw2) rfl rfl rfl rfl rfl (by decide) (Nat.le_of_ble_eq_true rfl) ?_
          replace hT2 := zlet_open hT2
          obtain ⟨x6, hx6, hT2⟩ := hT2
          rw [← hx6]
          refine z_istore ok dX2_tryText_40 (hI 4 (by decide)) (lv' := [(4, .int x6), (3, .int x5), (0, .ref (zad G 0)), (1, .int v2_1), (2, .int (nI v2_2))]) rfl ?_
          refine z_aload_n ok dX2_tryText_42 2 rfl ?_
          refine z_iload_n ok dX2_tryText_43 3 rfl ?_
          refine z_iconst ok dX2_tryText_44 (x := 2) (by decide) ?_
          refine z_iadd ok dX2_tryText_45 ?_
          refine z_callVi ok old dX2_tryText_46 [] (c_X2_cellAt G N hN hg vw2 (v2_1 + 2)) zy_X2_cellAt zw_478 0 (by omega) (zE_0 G vw2) rfl rfl rfl rfl rfl (by decide) (Nat.le_of_ble_eq_true rfl) ?_
          replace hT2 := zlet_open hT2
          obtain ⟨x7, hx7, hT2⟩ := hT2
          rw [← hx7]
          refine z_istore ok dX2_tryText_49 (hI 5 (by decide)) (lv' := [(5, .int x7), (4, .int x6), (3, .int x5), (0, .ref (zad G 0)), (1, .int v2_1), (2, .int (nI v2_2))]) rfl ?_
          refine z_iconst ok dX2_tryText_51 (x := 1) (by decide) ?_
          refine z_istore ok dX2_tryText_52 (hI 6 (by decide)) (lv' := [(6, .int 1), (5, .int x7), (4, .int x6), (3, .int x5), (0, .ref (zad G 0)), (1, .int v2_1), (2, .int (nI v2_2))]) rfl ?_
          refine z_iload_n ok dX2_tryText_54 3 rfl ?_
          refine z_iconst ok dX2_tryText_55 (x := 5) (by decide) ?_
          replace hT2 := zlet_open hT2
          obtain ⟨x8, hx8, hT2⟩ := hT2
          have hsx8 := hx8.symm
          have hJx8 : zZ k G N vw2 89 [(0, .ref (zad G 0)), (1, .int v2_1), (2, .int (nI v2_2)), (3, .int x5), (4, .int x6), (5, .int x7), (6, .int x8)] [] := by
            refine z_iload ok dX2_tryText_89 6 rfl ?_
            refine z_if_eq ok dX2_tryText_91 102 (by decide) (fun c9 => ?_) (fun c9 => ?_)
            · rw [if_pos c9] at hT2
              refine z_iload_n ok dX2_tryText_102 3 rfl ?_
              refine z_iconst ok dX2_tryText_103 (x := 5) (by decide) ?_
              refine z_icmp_ne ok dX2_tryText_104 122 (by decide) (fun c10 => ?_) (fun c10 => ?_)
              · rw [if_neg c10] at hT2
                refine z_aload_n ok dX2_tryText_122 0 rfl ?_
                refine z_get_X2_trial ok dX2_tryText_123 hN zw_177 ?_
                refine z_callVNv ok old dX2_tryText_126 [] (c_X1_makePass G N hN hg vw2 1 (by decide)) zy_X1_makePass zw_383 (5 + 6 * 1) (zg_lt hN (by decide)) (zE_game G vw2 (by decide)) rfl rfl rfl rfl rfl (by decide) (Nat.le_of_ble_eq_true rfl) ?_
                replace hT2 := zlet_open hT2
                obtain ⟨w11, hw11, hT2⟩ := hT2
                rw [← hw11]
                refine z_iload_n ok dX2_tryText_129 1 rfl ?_
                refine z_iload_n ok dX2_tryText_130 3 rfl ?_
                refine z_iadd ok dX2_tryText_131 ?_
                replace hT2 := zlet_open hT2
                obtain ⟨x12, hx12, hT2⟩ := hT2
                rw [← hx12]
                refine z_istore_n ok dX2_tryText_132 (hI 1 (by decide)) (lv' := [(1, .int x12), (0, .ref (zad G 0)), (2, .int (nI v2_2)), (3, .int x5), (4, .int x6), (5, .int x7), (6, .int x8)]) rfl ?_
                refine z_iinc ok dX2_tryText_133 (hI 2 (by decide)) 2 rfl (y := (nI (v2_2 + 1))) (z_incn v2_2 1) (lv' := [(2, .int (nI (v2_2 + 1))), (1, .int x12), (0, .ref (zad G 0)), (3, .int x5), (4, .int x6), (5, .int x7), (6, .int x8)]) rfl ?_
                refine z_goto ok dX2_tryText_136 15 (by decide) ?_
                refine z_locs [2, 1, 0] (lv' := [(0, .ref (zad G 0)), (1, .int x12), (2, .int (nI (v2_2 + 1)))]) rfl ?_
                exact ih2 x12 (v2_2 + 1) w11 (by omega) (by omega) hT2
              · rw [if_pos c10] at hT2
                replace hT2 := zlet_open hT2
                obtain ⟨c_x6, hc_x6, hT2⟩ := hT2
                obtain ⟨lc_x6, ec_x6⟩ := zcellx (zform_a (by assumption) (by assumption) (by assumption)) hc_x6
                subst ec_x6
                replace hT2 := zlet_open hT2
                obtain ⟨c_x7, hc_x7, hT2⟩ := hT2
                obtain ⟨lc_x7, ec_x7⟩ := zcellx (zform_b (by assumption) (by assumption) (by assumption)) hc_x7
                subst ec_x7
                refine z_aload_n ok dX2_tryText_107 0 rfl ?_
                refine z_get_X2_trial ok dX2_tryText_108 hN zw_177 ?_
                refine z_iload ok dX2_tryText_111 4 rfl ?_
                refine z_iload ok dX2_tryText_113 5 rfl ?_
                refine z_callVNi ok old dX2_tryText_115 [] (c_X1_makeMove G N hN hg vw2 1 (by decide) c_x6 (by omega) c_x7 (by omega)) zy_X1_makeMove zw_344 (5 + 6 * 1) (zg_lt hN (by decide)) (zE_game G vw2 (by decide)) rfl rfl rfl rfl rfl (by decide) (Nat.le_of_ble_eq_true rfl) ?_
                replace hT2 := zlet_open hT2
                obtain ⟨p13, hp13, hT2⟩ := hT2
                rw [← hp13]
                refine z_pop ok dX2_tryText_118 rfl ?_
                refine z_goto ok dX2_tryText_119 129 (by decide) ?_
                refine z_iload_n ok dX2_tryText_129 1 rfl ?_
                refine z_iload_n ok dX2_tryText_130 3 rfl ?_
                refine z_iadd ok dX2_tryText_131 ?_
                replace hT2 := zlet_open hT2
                obtain ⟨x14, hx14, hT2⟩ := hT2
                rw [← hx14]
                refine z_istore_n ok dX2_tryText_132 (hI 1 (by decide)) (lv' := [(1, .int x14), (0, .ref (zad G 0)), (2, .int (nI v2_2)), (3, .int x5), (4, .int (nI c_x6)), (5, .int (nI c_x7)), (6, .int x8)]) rfl ?_
                refine z_iinc ok dX2_tryText_133 (hI 2 (by decide)) 2 rfl (y := (nI (v2_2 + 1))) (z_incn v2_2 1) (lv' := [(2, .int (nI (v2_2 + 1))), (1, .int x14), (0, .ref (zad G 0)), (3, .int x5), (4, .int (nI c_x6)), (5, .int (nI c_x7)), (6, .int x8)]) rfl ?_
                refine z_goto ok dX2_tryText_136 15 (by decide) ?_
                refine z_locs [2, 1, 0] (lv' := [(0, .ref (zad G 0)), (1, .int x14), (2, .int (nI (v2_2 + 1)))]) rfl ?_
                exact ih2 x14 (v2_2 + 1) p13.2 (by omega) (by omega) hT2
            · rw [if_neg c9] at hT2
              refine z_bipush ok dX2_tryText_94 (x := 16) (by decide) ?_
              refine z_iload_n ok dX2_tryText_96 1 rfl ?_
              refine z_imul ok dX2_tryText_97 ?_
              refine z_iload ok dX2_tryText_98 6 rfl ?_
              refine z_iadd ok dX2_tryText_100 ?_
              exact z_iret ok hE dX2_tryText_101 rfl ⟨congrArg Prod.fst hT2, congrArg Prod.snd hT2⟩
          refine z_icmp_ne ok dX2_tryText_56 75 (by decide) (fun c15 => ?_) (fun c15 => ?_)
          · rw [if_neg c15] at hsx8
            refine z_iload_n ok dX2_tryText_75 3 rfl ?_
            refine z_iconst ok dX2_tryText_76 (x := 2) (by decide) ?_
            refine z_icmp_ne ok dX2_tryText_77 89 (by decide) (fun c16 => ?_) (fun c16 => ?_)
            · rw [if_neg c16] at hsx8
              rw [← hsx8] at hJx8
              refine z_locs [4, 5, 6, 3, 2, 1, 0] (lv' := [(0, .ref (zad G 0)), (1, .int v2_1), (2, .int (nI v2_2)), (3, .int x5), (4, .int x6), (5, .int x7), (6, .int 1)]) rfl ?_
              exact hJx8
            · rw [if_pos c16] at hsx8
              refine z_aload_n ok dX2_tryText_80 4 rfl ?_
              refine z_get_X2_trial ok dX2_tryText_81 hN zw_177 ?_
              refine z_callVNi ok old dX2_tryText_84 [] (c_X1_reasonAgainstPass G N hN hg vw2 1 (by decide)) zy_X1_reasonAgainstPass zw_369 (5 + 6 * 1) (zg_lt hN (by decide)) (zE_game G vw2 (by decide)) rfl rfl rfl rfl rfl (by decide) (Nat.le_of_ble_eq_true rfl) ?_
              replace hsx8 := zlet_open hsx8
              obtain ⟨x17, hx17, hsx8⟩ := hsx8
              rw [← hx17]
              refine z_istore ok dX2_tryText_87 (hI 6 (by decide)) (lv' := [(6, .int x17), (5, .int x7), (4, .int x6), (3, .int x5), (0, .ref (zad G 0)), (1, .int v2_1), (2, .int (nI v2_2))]) rfl ?_
              rw [← hsx8] at hJx8
              refine z_locs [4, 5, 6, 3, 2, 1, 0] (lv' := [(0, .ref (zad G 0)), (1, .int v2_1), (2, .int (nI v2_2)), (3, .int x5), (4, .int x6), (5, .int x7), (6, .int x17)]) rfl ?_
              exact hJx8
          · rw [if_pos c15] at hsx8
            replace hsx8 := zlet_open hsx8
            obtain ⟨c_x6, hc_x6, hsx8⟩ := hsx8
            obtain ⟨lc_x6, ec_x6⟩ := zcellx (zform_a (by assumption) (by assumption) (by assumption)) hc_x6
            subst ec_x6
            replace hsx8 := zlet_open hsx8
            obtain ⟨c_x7, hc_x7, hsx8⟩ := hsx8
            obtain ⟨lc_x7, ec_x7⟩ := zcellx (zform_b (by assumption) (by assumption) (by assumption)) hc_x7
            subst ec_x7
            refine z_aload_n ok dX2_tryText_59 4 rfl ?_
            refine z_get_X2_trial ok dX2_tryText_60 hN zw_177 ?_
            refine z_iload ok dX2_tryText_63 2 rfl ?_
            refine z_iload ok dX2_tryText_65 1 rfl ?_
            refine z_callVNi ok old dX2_tryText_67 [] (c_X1_reasonAgainst G N hN hg vw2 1 (by decide) c_x6 (by omega) c_x7 (by omega)) zy_X1_reasonAgainst zw_316 (5 + 6 * 1) (zg_lt hN (by decide)) (zE_game G vw2 (by decide)) rfl rfl rfl rfl rfl (by decide) (Nat.le_of_ble_eq_true rfl) ?_
            replace hsx8 := zlet_open hsx8
            obtain ⟨x18, hx18, hsx8⟩ := hsx8
            rw [← hx18]
            refine z_istore ok dX2_tryText_70 (hI 6 (by decide)) (lv' := [(6, .int x18), (5, .int (nI c_x7)), (4, .int (nI c_x6)), (3, .int x5), (0, .ref (zad G 0)), (1, .int v2_1), (2, .int (nI v2_2))]) rfl ?_
            refine z_goto ok dX2_tryText_72 89 (by decide) ?_
            rw [← hsx8] at hJx8
            refine z_locs [4, 5, 6, 3, 2, 1, 0] (lv' := [(0, .ref (zad G 0)), (1, .int v2_1), (2, .int (nI v2_2)), (3, .int x5), (4, .int (nI c_x6)), (5, .int (nI c_x7)), (6, .int x18)]) rfl ?_
            exact hJx8
  exact hl2 81 0 0 w1 (by omega) (by omega) hT

def d_X2_fault (w : xW) (what : Int32) : Int32 × xW :=
  if what = 0 then (zlet (d_X2_tryText w) fun p2 =>
  if p2.1 = (-1) then (((-4), p2.2))
  else (if what = 0 then (((p2.1 / 16), p2.2))
  else (((p2.1 - p2.1 / 16 * 16), p2.2))))
  else (if what = 1 then (zlet (d_X2_tryText w) fun p6 =>
  if p6.1 = (-1) then (((-4), p6.2))
  else (if what = 0 then (((p6.1 / 16), p6.2))
  else (((p6.1 - p6.1 / 16 * 16), p6.2))))
  else (((-1), w)))
set_option maxRecDepth 100000 in
set_option maxHeartbeats 4000000 in
theorem c_X2_fault (G : zG) (N : Nat) (hN : 47 ≤ N) (hg : zGeo G N) (w : xW) (what : Int32) : zM yX2_fault cX2_fault 3 (some .int) 7 170 G N [.ref (zad G 0), .int what] w (some (d_X2_fault w what).1) (d_X2_fault w what).2 := by
  obtain ⟨r, u, hT⟩ := zpair (d_X2_fault w what)
  rw [hT]
  dsimp only
  unfold d_X2_fault at hT
  refine zM_of zy_X2_fault.2.2.2.2.2.2.2 hg ⟨Nat.le_of_ble_eq_true rfl, by decide⟩ rfl (fun k ok hE hI => ?_)
  have old := hE.old
  refine z_iload_n ok dX2_fault_0 1 rfl ?_
  refine z_if_eq ok dX2_fault_1 11 (by decide) (fun c1 => ?_) (fun c1 => ?_)
  · rw [if_pos c1] at hT
    refine z_aload_n ok dX2_fault_11 0 rfl ?_
    refine z_callVi ok old dX2_fault_12 [] (c_X2_tryText G N hN hg w ) zy_X2_tryText zw_466 0 (by omega) (zE_0 G w) rfl rfl rfl rfl rfl (by decide) (Nat.le_of_ble_eq_true rfl) ?_
    replace hT := zlet_open hT
    obtain ⟨p2, hp2, hT⟩ := hT
    rw [← hp2]
    refine z_istore_n ok dX2_fault_15 (hI 2 (by decide)) (lv' := [(2, .int p2.1), (0, .ref (zad G 0)), (1, .int what)]) rfl ?_
    refine z_iload_n ok dX2_fault_16 0 rfl ?_
    refine z_iconst ok dX2_fault_17 (x := (-1)) (by decide) ?_
    refine z_icmp_ne ok dX2_fault_18 24 (by decide) (fun c3 => ?_) (fun c3 => ?_)
    · rw [if_neg c3] at hT
      refine z_iload_n ok dX2_fault_24 2 rfl ?_
      refine z_if_ne ok dX2_fault_25 35 (by decide) (fun c4 => ?_) (fun c4 => ?_)
      · rw [if_neg c4] at hT
        refine z_iload_n ok dX2_fault_35 0 rfl ?_
        refine z_bipush ok dX2_fault_36 (x := 16) (by decide) ?_
        refine z_irem ok dX2_fault_38 (by decide) ?_
        exact z_iret ok hE dX2_fault_39 rfl ⟨congrArg Prod.fst hT, congrArg Prod.snd hT⟩
      · rw [if_pos c4] at hT
        refine z_iload_n ok dX2_fault_28 0 rfl ?_
        refine z_bipush ok dX2_fault_29 (x := 16) (by decide) ?_
        refine z_idiv ok dX2_fault_31 (by decide) ?_
        refine z_goto ok dX2_fault_32 39 (by decide) ?_
        exact z_iret ok hE dX2_fault_39 rfl ⟨congrArg Prod.fst hT, congrArg Prod.snd hT⟩
    · rw [if_pos c3] at hT
      refine z_bipush ok dX2_fault_21 (x := (-4)) (by decide) ?_
      exact z_iret ok hE dX2_fault_23 rfl ⟨congrArg Prod.fst hT, congrArg Prod.snd hT⟩
  · rw [if_neg c1] at hT
    refine z_iload_n ok dX2_fault_4 1 rfl ?_
    refine z_iconst ok dX2_fault_5 (x := 1) (by decide) ?_
    refine z_icmp_eq ok dX2_fault_6 11 (by decide) (fun c5 => ?_) (fun c5 => ?_)
    · rw [if_pos c5] at hT
      refine z_aload_n ok dX2_fault_11 0 rfl ?_
      refine z_callVi ok old dX2_fault_12 [] (c_X2_tryText G N hN hg w ) zy_X2_tryText zw_466 0 (by omega) (zE_0 G w) rfl rfl rfl rfl rfl (by decide) (Nat.le_of_ble_eq_true rfl) ?_
      replace hT := zlet_open hT
      obtain ⟨p6, hp6, hT⟩ := hT
      rw [← hp6]
      refine z_istore_n ok dX2_fault_15 (hI 2 (by decide)) (lv' := [(2, .int p6.1), (0, .ref (zad G 0)), (1, .int what)]) rfl ?_
      refine z_iload_n ok dX2_fault_16 0 rfl ?_
      refine z_iconst ok dX2_fault_17 (x := (-1)) (by decide) ?_
      refine z_icmp_ne ok dX2_fault_18 24 (by decide) (fun c7 => ?_) (fun c7 => ?_)
      · rw [if_neg c7] at hT
        refine z_iload_n ok dX2_fault_24 2 rfl ?_
        refine z_if_ne ok dX2_fault_25 35 (by decide) (fun c8 => ?_) (fun c8 => ?_)
        · rw [if_neg c8] at hT
          refine z_iload_n ok dX2_fault_35 0 rfl ?_
          refine z_bipush ok dX2_fault_36 (x := 16) (by decide) ?_
          refine z_irem ok dX2_fault_38 (by decide) ?_
          exact z_iret ok hE dX2_fault_39 rfl ⟨congrArg Prod.fst hT, congrArg Prod.snd hT⟩
        · rw [if_pos c8] at hT
          refine z_iload_n ok dX2_fault_28 0 rfl ?_
          refine z_bipush ok dX2_fault_29 (x := 16) (by decide) ?_
          refine z_idiv ok dX2_fault_31 (by decide) ?_
          refine z_goto ok dX2_fault_32 39 (by decide) ?_
          exact z_iret ok hE dX2_fault_39 rfl ⟨congrArg Prod.fst hT, congrArg Prod.snd hT⟩
      · rw [if_pos c7] at hT
        refine z_bipush ok dX2_fault_21 (x := (-4)) (by decide) ?_
        exact z_iret ok hE dX2_fault_23 rfl ⟨congrArg Prod.fst hT, congrArg Prod.snd hT⟩
    · rw [if_neg c5] at hT
      refine z_iconst ok dX2_fault_9 (x := (-1)) (by decide) ?_
      exact z_iret ok hE dX2_fault_10 rfl ⟨congrArg Prod.fst hT, congrArg Prod.snd hT⟩

def d_X2_play (w : xW)  : Int32 × xW :=
  zlet (d_X2_tryText w) fun p1 =>
  if p1.1 = (-1) then (zlet (d_X2_record p1.2) fun w3 =>
  zlet (d_X1_copyFrom w3 0 1) fun w4 =>
  ((d_X2_movesInText w4), w4))
  else (((-2), p1.2))
set_option maxRecDepth 100000 in
set_option maxHeartbeats 4000000 in
theorem c_X2_play (G : zG) (N : Nat) (hN : 47 ≤ N) (hg : zGeo G N) (w : xW) : zM yX2_play cX2_play 1 (some .int) 7 170 G N [.ref (zad G 0)] w (some (d_X2_play w).1) (d_X2_play w).2 := by
  obtain ⟨r, u, hT⟩ := zpair (d_X2_play w)
  rw [hT]
  dsimp only
  unfold d_X2_play at hT
  refine zM_of zy_X2_play.2.2.2.2.2.2.2 hg ⟨Nat.le_of_ble_eq_true rfl, by decide⟩ rfl (fun k ok hE hI => ?_)
  have old := hE.old
  refine z_aload_n ok dX2_play_0 0 rfl ?_
  refine z_callVi ok old dX2_play_1 [] (c_X2_tryText G N hN hg w ) zy_X2_tryText zw_466 0 (by omega) (zE_0 G w) rfl rfl rfl rfl rfl (by decide) (Nat.le_of_ble_eq_true rfl) ?_
  replace hT := zlet_open hT
  obtain ⟨p1, hp1, hT⟩ := hT
  rw [← hp1]
  refine z_iconst ok dX2_play_4 (x := (-1)) (by decide) ?_
  refine z_icmp_eq ok dX2_play_5 11 (by decide) (fun c2 => ?_) (fun c2 => ?_)
  · rw [if_pos c2] at hT
    refine z_aload_n ok dX2_play_11 0 rfl ?_
    refine z_callVv ok old dX2_play_12 [] (c_X2_record G N hN hg p1.2 ) zy_X2_record zw_206 0 (by omega) (zE_0 G p1.2) rfl rfl rfl rfl rfl (by decide) (Nat.le_of_ble_eq_true rfl) ?_
    replace hT := zlet_open hT
    obtain ⟨w3, hw3, hT⟩ := hT
    rw [← hw3]
    refine z_aload_n ok dX2_play_15 0 rfl ?_
    refine z_get_X2_game ok dX2_play_16 hN zw_176 ?_
    refine z_aload_n ok dX2_play_19 0 rfl ?_
    refine z_get_X2_trial ok dX2_play_20 hN zw_177 ?_
    refine z_callVNv ok old dX2_play_23 [] (c_X1_copyFrom G N hN hg w3 0 (by decide) 1 (by decide)) zy_X1_copyFrom zw_214 (5 + 6 * 0) (zg_lt hN (by decide)) (zE_game G w3 (by decide)) rfl rfl rfl rfl rfl (by decide) (Nat.le_of_ble_eq_true rfl) ?_
    replace hT := zlet_open hT
    obtain ⟨w4, hw4, hT⟩ := hT
    rw [← hw4]
    refine z_aload_n ok dX2_play_26 0 rfl ?_
    refine z_callVi ok old dX2_play_27 [] (c_X2_movesInText G N hN hg w4 ) zy_X2_movesInText zw_493 0 (by omega) (zE_0 G w4) rfl rfl rfl rfl rfl (by decide) (Nat.le_of_ble_eq_true rfl) ?_
    exact z_iret ok hE dX2_play_30 rfl ⟨congrArg Prod.fst hT, congrArg Prod.snd hT⟩
  · rw [if_neg c2] at hT
    refine z_bipush ok dX2_play_8 (x := (-2)) (by decide) ?_
    exact z_iret ok hE dX2_play_10 rfl ⟨congrArg Prod.fst hT, congrArg Prod.snd hT⟩
