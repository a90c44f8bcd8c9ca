/-! the model's text -/
theorem zidx_sp {x y : Int32} (h : ∃ n, n ≤ 80 ∧ x = nI n) (h2 : ∃ n, n ≤ 80 ∧ y = nI n) (h3 : ¬ y ≤ x) : x = nI x.toNatClampNeg ∧ x.toNatClampNeg < 80 := by
  obtain ⟨n, hn, rfl⟩ := h
  obtain ⟨m, hm, rfl⟩ := h2
  rw [nI_clamp (by omega)]
  refine ⟨rfl, Nat.lt_of_not_le (fun q => h3 (nI_le (by omega) (by omega)))⟩
theorem znar_is {p : Prop} [Decidable p] {x : Int32} (h : x = if p then 1 else 0) : narrow .boolean (.int x) = .int x := by
  by_cases q : p
  · rw [if_pos q] at h; rw [h]; rfl
  · rw [if_neg q] at h; rw [h]; rfl
theorem zidx_s1 {x y : Int32} (h : ∃ n, n ≤ 80 ∧ x = nI n) (h2 : ∃ n, n ≤ 80 ∧ y = nI n) (h3 : ¬ y ≤ x + 1) : x + 1 = nI (x + 1).toNatClampNeg ∧ (x + 1).toNatClampNeg < 80 := by
  obtain ⟨n, hn, rfl⟩ := h
  obtain ⟨m, hm, rfl⟩ := h2
  rw [nI_1] at h3 ⊢
  rw [nI_clamp (by omega)]
  refine ⟨rfl, Nat.lt_of_not_le (fun q => h3 (nI_le (by omega) (by omega)))⟩
theorem zidx_s0 {x y : Int32} (h : ∃ n, n ≤ 80 ∧ x = nI n) (h2 : ∃ n, n ≤ 80 ∧ y = nI n) (h3 : ¬ y ≤ x + 1) : x = nI x.toNatClampNeg ∧ x.toNatClampNeg < 80 := by
  obtain ⟨n, hn, rfl⟩ := h
  obtain ⟨m, hm, rfl⟩ := h2
  rw [nI_1] at h3
  rw [nI_clamp (by omega)]
  refine ⟨rfl, Nat.lt_of_not_le (fun q => h3 (nI_le (by omega) (by omega)))⟩
/-- length and spot lie in the text -/
def ztx (w : xW) : Prop := (∃ n, n ≤ 80 ∧ xg w 17 1 = nI n) ∧ (∃ n, n ≤ 80 ∧ xg w 17 2 = nI n)
theorem ztx_l {w : xW} (h : ztx w) : ∃ n, n ≤ 80 ∧ xg w 17 1 = nI n := h.1
theorem ztx_s {w : xW} (h : ztx w) : ∃ n, n ≤ 80 ∧ xg w 17 2 = nI n := h.2
theorem ztx_hi {w : xW} (h : ztx w) {j : Nat} (hj : 3 ≤ j) (x : Int32) : ztx (xs w 17 j x) := by
  unfold ztx
  rw [xs_xv, xg_xv', xg_xv', zU_ne _ _ (by omega), zU_ne _ _ (by omega)]
  exact h
theorem ztx_sp {w : xW} (h : ztx w) {n : Nat} (hn : n ≤ 80) : ztx (xs w 17 2 (nI n)) := by
  unfold ztx
  rw [xs_xv, xg_xv', xg_xv', zU_ne _ _ (by omega), zU_eq]
  exact ⟨h.1, n, hn, rfl⟩
theorem ztx_e3 {w u : xW} {j : Nat} {x : Int32} (e : u = xs w 17 j x) (hj : 3 ≤ j) (h : ztx w) : ztx u := by
  rw [e]; exact ztx_hi h hj x
/-- where the text's move lies on the board, or is a pass -/
def zdo (w : xW) : Prop := xg w 17 3 < 0 ∨ (∃ f t, f < 36 ∧ t < 36 ∧ xg w 17 3 = nI f ∧ xg w 17 4 = nI t)
theorem zdo_f {w : xW} (h : zdo w) (h0 : 0 ≤ xg w 17 3) : xg w 17 3 = nI (xg w 17 3).toNatClampNeg ∧ (xg w 17 3).toNatClampNeg < 36 := by
  rcases h with h | ⟨f, t, hf, ht, e, e2⟩
  · exact absurd h (Int32.not_lt.mpr h0)
  · rw [e, nI_clamp (by omega)]; exact ⟨rfl, hf⟩
theorem zdo_t {w : xW} (h : zdo w) (h0 : 0 ≤ xg w 17 3) : xg w 17 4 = nI (xg w 17 4).toNatClampNeg ∧ (xg w 17 4).toNatClampNeg < 36 := by
  rcases h with h | ⟨f, t, hf, ht, e, e2⟩
  · exact absurd h (Int32.not_lt.mpr h0)
  · rw [e2, nI_clamp (by omega)]; exact ⟨rfl, ht⟩
def d_X3_takes (w : xW) (c : Int32) : Int32 × xW :=
  if (xg w 17 1) ≤ (xg w 17 2) then (zlet (0 : Int32) fun x2 =>
  zlet (xs w 17 2 ((xg w 17 2) + x2)) fun w3 =>
  (0, w3))
  else (zlet (if (xg w 14 ((xg w 17 2)).toNatClampNeg) = c then (1)
  else (0) : Int32) fun x4 =>
  zlet (if x4 = 0 then (0)
  else (1) : Int32) fun x5 =>
  zlet (xs w 17 2 ((xg w 17 2) + x5)) fun w6 =>
  (x4, w6))
theorem ztx_takes {w : xW} (h : ztx w) (c : Int32) : ztx (d_X3_takes w c).2 := by
  obtain ⟨n, hn, en⟩ := h.1
  obtain ⟨s, hs, es⟩ := h.2
  rw [d_X3_takes, en, es]
  by_cases a : nI n ≤ nI s
  · rw [if_pos a, zlet_def, zlet_def, Int32.add_zero]
    exact ztx_sp h hs
  · have hlt : s < n := Nat.lt_of_not_le (fun q => a (nI_le q (by omega)))
    rw [if_neg a, zlet_def, zlet_def, zlet_def]
    by_cases b : (if xg w 14 (nI s).toNatClampNeg = c then (1 : Int32) else 0) = 0
    · rw [if_pos b, Int32.add_zero]; exact ztx_sp h hs
    · rw [if_neg b, nI_1]; exact ztx_sp h (by omega)
theorem takes_01 {w : xW} {c : Int32} {p : Int32 × xW} (h : p = d_X3_takes w c) : narrow .boolean (.int p.1) = .int p.1 := by
  rw [h, d_X3_takes]
  by_cases a : xg w 17 1 ≤ xg w 17 2
  · rw [if_pos a, zlet_def, zlet_def]; exact znar_is (p := False) (x := 0) rfl
  · rw [if_neg a, zlet_def, zlet_def, zlet_def]
    exact znar_is rfl
theorem ztx_et {w : xW} {c : Int32} {p : Int32 × xW} (e : p = d_X3_takes w c) (h : ztx w) : ztx p.2 := by
  rw [e]; exact ztx_takes h c

set_option maxRecDepth 100000 in
set_option maxHeartbeats 4000000 in
theorem c_X3_takes (G : zG) (N : Nat) (hN : 54 ≤ N) (hg : zGeo G N) (w : xW) (c : Int32) (h_l : ∃ n, n ≤ 80 ∧ xg w 17 1 = nI n) (h_s : ∃ n, n ≤ 80 ∧ xg w 17 2 = nI n) : zM yX3_takes cX3_takes 3 (some .boolean) 0 0 G N [.ref (zad G 47), .int c] w (some (d_X3_takes w c).1) (d_X3_takes w c).2 := by
  obtain ⟨r, u, hT⟩ := zpair (d_X3_takes w c)
  rw [hT]
  dsimp only
  unfold d_X3_takes at hT
  refine zM_of zy_X3_takes.2.2.2.2.2.2.2 hg ⟨Nat.le_of_ble_eq_true rfl, by decide⟩ rfl (fun k ok hE hI => ?_)
  have old := hE.old
  refine z_aload_n ok dX3_takes_0 0 rfl ?_
  refine z_get_X3_spot ok dX3_takes_1 hN zw_557 ?_
  refine z_aload_n ok dX3_takes_4 0 rfl ?_
  refine z_get_X3_length ok dX3_takes_5 hN zw_554 ?_
  refine z_icmp_ge ok dX3_takes_8 28 (by decide) (fun c1 => ?_) (fun c1 => ?_)
  · rw [if_pos c1] at hT
    refine z_iconst ok dX3_takes_28 (x := 0) (by decide) ?_
    refine z_istore_n ok dX3_takes_29 (hI 2 (by decide)) (lv' := [(2, .int 0), (0, .ref (zad G 47)), (1, .int c)]) rfl ?_
    refine z_aload_n ok dX3_takes_30 1 rfl ?_
    refine z_dup ok dX3_takes_31 rfl ?_
    refine z_get_X3_spot ok dX3_takes_32 hN zw_557 ?_
    refine z_iload_n ok dX3_takes_35 0 rfl ?_
    replace hT := zlet_open hT
    obtain ⟨x2, hx2, hT⟩ := hT
    have hsx2 := hx2.symm
    have hJx2 : zZ k G N w 44 [(0, .ref (zad G 47)), (1, .int c), (2, .int 0)] [.int x2, .int (xg w 17 2), .ref (zad G 47)] := by
      refine z_iadd ok dX3_takes_44 ?_
      refine z_put_X3_spot ok dX3_takes_45 hN zw_557 ?_
      replace hT := zlet_open hT
      obtain ⟨w3, hw3, hT⟩ := hT
      rw [← hw3]
      refine z_iload_n ok dX3_takes_48 2 rfl ?_
      exact z_iret ok hE dX3_takes_49 rfl ⟨congrArg Prod.fst hT, congrArg Prod.snd hT⟩
    refine z_if_eq ok dX3_takes_36 43 (by decide) (fun _ => ?_) (fun q => absurd q (by decide))
    refine z_iconst ok dX3_takes_43 (x := 0) (by decide) ?_
    rw [← hsx2] at hJx2
    refine z_locs [1, 2, 0] (lv' := [(0, .ref (zad G 47)), (1, .int c), (2, .int 0)]) rfl ?_
    exact hJx2
  · rw [if_neg c1] at hT
    refine z_aload_n ok dX3_takes_11 0 rfl ?_
    refine z_get_X3_text ok dX3_takes_12 hN zw_553 ?_
    refine z_aload_n ok dX3_takes_15 0 rfl ?_
    refine z_get_X3_spot ok dX3_takes_16 hN zw_557 ?_
    refine z_mld51 ok dX3_takes_19 hN ((xg w 17 2)).toNatClampNeg (zidx_sp h_s h_l (by assumption)).1 (zidx_sp h_s h_l (by assumption)).2 ?_
    refine z_iload_n ok dX3_takes_20 1 rfl ?_
    replace hT := zlet_open hT
    obtain ⟨x4, hx4, hT⟩ := hT
    have hsx4 := hx4.symm
    have hJx4 : zZ k G N w 29 [(0, .ref (zad G 47)), (1, .int c)] [.int x4] := by
      refine z_istore_n ok dX3_takes_29 (hI 2 (by decide)) (lv' := [(2, .int x4), (0, .ref (zad G 47)), (1, .int c)]) rfl ?_
      refine z_aload_n ok dX3_takes_30 1 rfl ?_
      refine z_dup ok dX3_takes_31 rfl ?_
      refine z_get_X3_spot ok dX3_takes_32 hN zw_557 ?_
      refine z_iload_n ok dX3_takes_35 0 rfl ?_
      replace hT := zlet_open hT
      obtain ⟨x5, hx5, hT⟩ := hT
      have hsx5 := hx5.symm
      have hJx5 : zZ k G N w 44 [(0, .ref (zad G 47)), (1, .int c), (2, .int x4)] [.int x5, .int (xg w 17 2), .ref (zad G 47)] := by
        refine z_iadd ok dX3_takes_44 ?_
        refine z_put_X3_spot ok dX3_takes_45 hN zw_557 ?_
        replace hT := zlet_open hT
        obtain ⟨w6, hw6, hT⟩ := hT
        rw [← hw6]
        refine z_iload_n ok dX3_takes_48 2 rfl ?_
        exact z_iret ok hE dX3_takes_49 (by first | rfl | exact znar_is (by assumption)) ⟨congrArg Prod.fst hT, congrArg Prod.snd hT⟩
      refine z_if_eq ok dX3_takes_36 43 (by decide) (fun c7 => ?_) (fun c7 => ?_)
      · rw [if_pos c7] at hsx5
        refine z_iconst ok dX3_takes_43 (x := 0) (by decide) ?_
        rw [← hsx5] at hJx5
        refine z_locs [1, 2, 0] (lv' := [(0, .ref (zad G 47)), (1, .int c), (2, .int x4)]) rfl ?_
        exact hJx5
      · rw [if_neg c7] at hsx5
        refine z_iconst ok dX3_takes_39 (x := 1) (by decide) ?_
        refine z_goto ok dX3_takes_40 44 (by decide) ?_
        rw [← hsx5] at hJx5
        refine z_locs [1, 2, 0] (lv' := [(0, .ref (zad G 47)), (1, .int c), (2, .int x4)]) rfl ?_
        exact hJx5
    refine z_icmp_ne ok dX3_takes_21 28 (by decide) (fun c8 => ?_) (fun c8 => ?_)
    · rw [if_neg c8] at hsx4
      refine z_iconst ok dX3_takes_28 (x := 0) (by decide) ?_
      rw [← hsx4] at hJx4
      refine z_locs [0, 1] (lv' := [(0, .ref (zad G 47)), (1, .int c)]) rfl ?_
      exact hJx4
    · rw [if_pos c8] at hsx4
      refine z_iconst ok dX3_takes_24 (x := 1) (by decide) ?_
      refine z_goto ok dX3_takes_25 29 (by decide) ?_
      rw [← hsx4] at hJx4
      refine z_locs [0, 1] (lv' := [(0, .ref (zad G 47)), (1, .int c)]) rfl ?_
      exact hJx4

def d_X3_takesCell (w : xW)  : Int32 × xW :=
  if (xg w 17 1) ≤ ((xg w 17 2) + 1) then (((-1), w))
  else (if (d_X3_in w (xg w 14 ((xg w 17 2)).toNatClampNeg) 97 102) = 0 then (((-1), w))
  else (if (d_X3_in w (xg w 14 (((xg w 17 2) + 1)).toNatClampNeg) 49 54) = 0 then (((-1), w))
  else (zlet ((((6 * ((xg w 14 (((xg w 17 2) + 1)).toNatClampNeg) - 49)) + (xg w 14 ((xg w 17 2)).toNatClampNeg)) - 97)) fun x4 =>
  zlet (xs w 17 2 ((xg w 17 2) + 2)) fun w5 =>
  (x4, w5))))
theorem ztx_cell {w : xW} (h : ztx w) : ztx (d_X3_takesCell w).2 := by
  obtain ⟨n, hn, en⟩ := h.1
  obtain ⟨s, hs, es⟩ := h.2
  rw [d_X3_takesCell, en, es]
  by_cases a : nI n ≤ nI s + 1
  · rw [if_pos a]; exact h
  · have hlt : s + 1 < n := Nat.lt_of_not_le (fun q => a (by rw [nI_1]; exact nI_le q (by omega)))
    rw [if_neg a]
    by_cases b : d_X3_in w (xg w 14 (nI s).toNatClampNeg) 97 102 = 0
    · rw [if_pos b]; exact h
    · rw [if_neg b]
      by_cases c : d_X3_in w (xg w 14 (nI s + 1).toNatClampNeg) 49 54 = 0
      · rw [if_pos c]; exact h
      · rw [if_neg c, zlet_def, zlet_def, show nI s + 2 = nI (s + 2) from nI_add s 2]
        exact ztx_sp h (by omega)
theorem ztx_ec {w : xW} {p : Int32 × xW} (e : p = d_X3_takesCell w) (h : ztx w) : ztx p.2 := by
  rw [e]; exact ztx_cell h

set_option maxRecDepth 100000 in
set_option maxHeartbeats 4000000 in
theorem c_X3_takesCell (G : zG) (N : Nat) (hN : 54 ≤ N) (hg : zGeo G N) (w : xW) (h_l : ∃ n, n ≤ 80 ∧ xg w 17 1 = nI n) (h_s : ∃ n, n ≤ 80 ∧ xg w 17 2 = nI n) : zM yX3_takesCell cX3_takesCell 2 (some .int) 1 22 G N [.ref (zad G 47)] w (some (d_X3_takesCell w).1) (d_X3_takesCell w).2 := by
  obtain ⟨r, u, hT⟩ := zpair (d_X3_takesCell w)
  rw [hT]
  dsimp only
  unfold d_X3_takesCell at hT
  refine zM_of zy_X3_takesCell.2.2.2.2.2.2.2 hg ⟨Nat.le_of_ble_eq_true rfl, by decide⟩ rfl (fun k ok hE hI => ?_)
  have old := hE.old
  refine z_aload_n ok dX3_takesCell_0 0 rfl ?_
  refine z_get_X3_spot ok dX3_takesCell_1 hN zw_557 ?_
  refine z_iconst ok dX3_takesCell_4 (x := 1) (by decide) ?_
  refine z_iadd ok dX3_takesCell_5 ?_
  refine z_aload_n ok dX3_takesCell_6 0 rfl ?_
  refine z_get_X3_length ok dX3_takesCell_7 hN zw_554 ?_
  refine z_icmp_ge ok dX3_takesCell_10 53 (by decide) (fun c1 => ?_) (fun c1 => ?_)
  · rw [if_pos c1] at hT
    refine z_iconst ok dX3_takesCell_53 (x := (-1)) (by decide) ?_
    exact z_iret ok hE dX3_takesCell_54 rfl ⟨congrArg Prod.fst hT, congrArg Prod.snd hT⟩
  · rw [if_neg c1] at hT
    refine z_aload_n ok dX3_takesCell_13 0 rfl ?_
    refine z_get_X3_text ok dX3_takesCell_14 hN zw_553 ?_
    refine z_aload_n ok dX3_takesCell_17 0 rfl ?_
    refine z_get_X3_spot ok dX3_takesCell_18 hN zw_557 ?_
    refine z_mld51 ok dX3_takesCell_21 hN ((xg w 17 2)).toNatClampNeg (zidx_s0 h_s h_l (by assumption)).1 (zidx_s0 h_s h_l (by assumption)).2 ?_
    refine z_bipush ok dX3_takesCell_22 (x := 97) (by decide) ?_
    refine z_bipush ok dX3_takesCell_24 (x := 102) (by decide) ?_
    refine z_callSi ok old dX3_takesCell_26 [] (c_X3_in G N hN hg w (xg w 14 ((xg w 17 2)).toNatClampNeg) 97 102) zy_X3_in zw_608 rfl rfl (by decide) (Nat.le_of_ble_eq_true rfl) ?_
    refine z_if_eq ok dX3_takesCell_29 53 (by decide) (fun c2 => ?_) (fun c2 => ?_)
    · rw [if_pos c2] at hT
      refine z_iconst ok dX3_takesCell_53 (x := (-1)) (by decide) ?_
      exact z_iret ok hE dX3_takesCell_54 rfl ⟨congrArg Prod.fst hT, congrArg Prod.snd hT⟩
    · rw [if_neg c2] at hT
      refine z_aload_n ok dX3_takesCell_32 0 rfl ?_
      refine z_get_X3_text ok dX3_takesCell_33 hN zw_553 ?_
      refine z_aload_n ok dX3_takesCell_36 0 rfl ?_
      refine z_get_X3_spot ok dX3_takesCell_37 hN zw_557 ?_
      refine z_iconst ok dX3_takesCell_40 (x := 1) (by decide) ?_
      refine z_iadd ok dX3_takesCell_41 ?_
      refine z_mld51 ok dX3_takesCell_42 hN (((xg w 17 2) + 1)).toNatClampNeg (zidx_s1 h_s h_l (by assumption)).1 (zidx_s1 h_s h_l (by assumption)).2 ?_
      refine z_bipush ok dX3_takesCell_43 (x := 49) (by decide) ?_
      refine z_bipush ok dX3_takesCell_45 (x := 54) (by decide) ?_
      refine z_callSi ok old dX3_takesCell_47 [] (c_X3_in G N hN hg w (xg w 14 (((xg w 17 2) + 1)).toNatClampNeg) 49 54) zy_X3_in zw_608 rfl rfl (by decide) (Nat.le_of_ble_eq_true rfl) ?_
      refine z_if_ne ok dX3_takesCell_50 55 (by decide) (fun c3 => ?_) (fun c3 => ?_)
      · rw [if_neg c3] at hT
        refine z_bipush ok dX3_takesCell_55 (x := 6) (by decide) ?_
        refine z_aload_n ok dX3_takesCell_57 0 rfl ?_
        refine z_get_X3_text ok dX3_takesCell_58 hN zw_553 ?_
        refine z_aload_n ok dX3_takesCell_61 0 rfl ?_
        refine z_get_X3_spot ok dX3_takesCell_62 hN zw_557 ?_
        refine z_iconst ok dX3_takesCell_65 (x := 1) (by decide) ?_
        refine z_iadd ok dX3_takesCell_66 ?_
        refine z_mld51 ok dX3_takesCell_67 hN (((xg w 17 2) + 1)).toNatClampNeg (zidx_s1 h_s h_l (by assumption)).1 (zidx_s1 h_s h_l (by assumption)).2 ?_
        refine z_bipush ok dX3_takesCell_68 (x := 49) (by decide) ?_
        refine z_isub ok dX3_takesCell_70 ?_
        refine z_imul ok dX3_takesCell_71 ?_
        refine z_aload_n ok dX3_takesCell_72 0 rfl ?_
        refine z_get_X3_text ok dX3_takesCell_73 hN zw_553 ?_
        refine z_aload_n ok dX3_takesCell_76 0 rfl ?_
        refine z_get_X3_spot ok dX3_takesCell_77 hN zw_557 ?_
        refine z_mld51 ok dX3_takesCell_80 hN ((xg w 17 2)).toNatClampNeg (zidx_s0 h_s h_l (by assumption)).1 (zidx_s0 h_s h_l (by assumption)).2 ?_
        refine z_iadd ok dX3_takesCell_81 ?_
        refine z_bipush ok dX3_takesCell_82 (x := 97) (by decide) ?_
        refine z_isub ok dX3_takesCell_84 ?_
        replace hT := zlet_open hT
        obtain ⟨x4, hx4, hT⟩ := hT
        rw [← hx4]
        refine z_istore_n ok dX3_takesCell_85 (hI 1 (by decide)) (lv' := [(1, .int x4), (0, .ref (zad G 47))]) rfl ?_
        refine z_aload_n ok dX3_takesCell_86 1 rfl ?_
        refine z_dup ok dX3_takesCell_87 rfl ?_
        refine z_get_X3_spot ok dX3_takesCell_88 hN zw_557 ?_
        refine z_iconst ok dX3_takesCell_91 (x := 2) (by decide) ?_
        refine z_iadd ok dX3_takesCell_92 ?_
        refine z_put_X3_spot ok dX3_takesCell_93 hN zw_557 ?_
        replace hT := zlet_open hT
        obtain ⟨w5, hw5, hT⟩ := hT
        rw [← hw5]
        refine z_iload_n ok dX3_takesCell_96 0 rfl ?_
        exact z_iret ok hE dX3_takesCell_97 rfl ⟨congrArg Prod.fst hT, congrArg Prod.snd hT⟩
      · rw [if_pos c3] at hT
        refine z_iconst ok dX3_takesCell_53 (x := (-1)) (by decide) ?_
        exact z_iret ok hE dX3_takesCell_54 rfl ⟨congrArg Prod.fst hT, congrArg Prod.snd hT⟩

def d_X3_isFormed (w : xW)  : Int32 × xW :=
  zlet (xs w 17 3 (-1)) fun w1 =>
  zlet (d_X3_takes w1 45) fun p2 =>
  if p2.1 = 0 then (zlet (d_X3_takesCell p2.2) fun p4 =>
  zlet (xs p4.2 17 3 p4.1) fun w5 =>
  if 0 ≤ (xg w5 17 3) then (zlet (d_X3_takesCell w5) fun p7 =>
  zlet (xs p7.2 17 4 p7.1) fun w8 =>
  if (xg w8 17 4) < 0 then ((0, w8))
  else (zlet (d_X3_takes w8 59) fun p10 =>
  if p10.1 = 0 then ((0, p10.2))
  else ((1, p10.2))))
  else (zlet (xs w5 17 4 (-1)) fun w12 =>
  if (xg w12 17 4) < 0 then ((0, w12))
  else (zlet (d_X3_takes w12 59) fun p14 =>
  if p14.1 = 0 then ((0, p14.2))
  else ((1, p14.2)))))
  else (zlet (d_X3_takes p2.2 59) fun p16 =>
  (p16.1, p16.2))
set_option maxRecDepth 100000 in
set_option maxHeartbeats 4000000 in
theorem c_X3_isFormed (G : zG) (N : Nat) (hN : 54 ≤ N) (hg : zGeo G N) (w : xW) (h_l : ∃ n, n ≤ 80 ∧ xg w 17 1 = nI n) (h_s : ∃ n, n ≤ 80 ∧ xg w 17 2 = nI n) : zM yX3_isFormed cX3_isFormed 1 (some .boolean) 2 43 G N [.ref (zad G 47)] w (some (d_X3_isFormed w).1) (d_X3_isFormed w).2 := by
  obtain ⟨r, u, hT⟩ := zpair (d_X3_isFormed w)
  rw [hT]
  dsimp only
  unfold d_X3_isFormed at hT
  refine zM_of zy_X3_isFormed.2.2.2.2.2.2.2 hg ⟨Nat.le_of_ble_eq_true rfl, by decide⟩ rfl (fun k ok hE hI => ?_)
  have old := hE.old
  have : ztx w := ⟨h_l, h_s⟩
  refine z_aload_n ok dX3_isFormed_0 0 rfl ?_
  refine z_iconst ok dX3_isFormed_1 (x := (-1)) (by decide) ?_
  refine z_put_X3_itsFrom ok dX3_isFormed_2 hN zw_558 ?_
  replace hT := zlet_open hT
  obtain ⟨w1, hw1, hT⟩ := hT
  rw [← hw1]
  have : ztx w1 := ztx_e3 (by assumption) (by decide) (by assumption)
  refine z_aload_n ok dX3_isFormed_5 0 rfl ?_
  refine z_bipush ok dX3_isFormed_6 (x := 45) (by decide) ?_
  refine z_callVi ok old dX3_isFormed_8 [] (c_X3_takes G N hN hg w1 45 (ztx_l (by assumption)) (ztx_s (by assumption))) zy_X3_takes zw_782 47 (by omega) (zE_47 G w1) rfl rfl rfl rfl rfl (by decide) (Nat.le_of_ble_eq_true rfl) ?_
  replace hT := zlet_open hT
  obtain ⟨p2, hp2, hT⟩ := hT
  rw [← hp2]
  have : ztx p2.2 := ztx_et (by assumption) (by assumption)
  refine z_if_eq ok dX3_isFormed_11 21 (by decide) (fun c3 => ?_) (fun c3 => ?_)
  · rw [if_pos c3] at hT
    refine z_aload_n ok dX3_isFormed_21 0 rfl ?_
    refine z_aload_n ok dX3_isFormed_22 0 rfl ?_
    refine z_callVi ok old dX3_isFormed_23 [.ref (zad G 47)] (c_X3_takesCell G N hN hg p2.2 (ztx_l (by assumption)) (ztx_s (by assumption))) zy_X3_takesCell zw_786 47 (by omega) (zE_47 G p2.2) rfl rfl rfl rfl rfl (by decide) (Nat.le_of_ble_eq_true rfl) ?_
    replace hT := zlet_open hT
    obtain ⟨p4, hp4, hT⟩ := hT
    rw [← hp4]
    have : ztx p4.2 := ztx_ec (by assumption) (by assumption)
    refine z_put_X3_itsFrom ok dX3_isFormed_26 hN zw_558 ?_
    replace hT := zlet_open hT
    obtain ⟨w5, hw5, hT⟩ := hT
    rw [← hw5]
    have : ztx w5 := ztx_e3 (by assumption) (by decide) (by assumption)
    refine z_aload_n ok dX3_isFormed_29 0 rfl ?_
    refine z_aload_n ok dX3_isFormed_30 0 rfl ?_
    refine z_get_X3_itsFrom ok dX3_isFormed_31 hN zw_558 ?_
    refine z_if_ge ok dX3_isFormed_34 41 (by decide) (fun c6 => ?_) (fun c6 => ?_)
    · rw [if_pos c6] at hT
      refine z_aload_n ok dX3_isFormed_41 0 rfl ?_
      refine z_callVi ok old dX3_isFormed_42 [.ref (zad G 47)] (c_X3_takesCell G N hN hg w5 (ztx_l (by assumption)) (ztx_s (by assumption))) zy_X3_takesCell zw_786 47 (by omega) (zE_47 G w5) rfl rfl rfl rfl rfl (by decide) (Nat.le_of_ble_eq_true rfl) ?_
      replace hT := zlet_open hT
      obtain ⟨p7, hp7, hT⟩ := hT
      rw [← hp7]
      have : ztx p7.2 := by first | assumption | exact ztx_ec (by assumption) (by assumption)
      refine z_put_X3_itsTo ok dX3_isFormed_45 hN zw_559 ?_
      replace hT := zlet_open hT
      obtain ⟨w8, hw8, hT⟩ := hT
      rw [← hw8]
      have : ztx w8 := ztx_e3 (by assumption) (by decide) (by assumption)
      refine z_aload_n ok dX3_isFormed_48 0 rfl ?_
      refine z_get_X3_itsTo ok dX3_isFormed_49 hN zw_559 ?_
      refine z_if_lt ok dX3_isFormed_52 68 (by decide) (fun c9 => ?_) (fun c9 => ?_)
      · rw [if_pos c9] at hT
        refine z_iconst ok dX3_isFormed_68 (x := 0) (by decide) ?_
        exact z_iret ok hE dX3_isFormed_69 rfl ⟨congrArg Prod.fst hT, congrArg Prod.snd hT⟩
      · rw [if_neg c9] at hT
        refine z_aload_n ok dX3_isFormed_55 0 rfl ?_
        refine z_bipush ok dX3_isFormed_56 (x := 59) (by decide) ?_
        refine z_callVi ok old dX3_isFormed_58 [] (c_X3_takes G N hN hg w8 59 (ztx_l (by assumption)) (ztx_s (by assumption))) zy_X3_takes zw_782 47 (by omega) (zE_47 G w8) rfl rfl rfl rfl rfl (by decide) (Nat.le_of_ble_eq_true rfl) ?_
        replace hT := zlet_open hT
        obtain ⟨p10, hp10, hT⟩ := hT
        rw [← hp10]
        refine z_if_eq ok dX3_isFormed_61 68 (by decide) (fun c11 => ?_) (fun c11 => ?_)
        · rw [if_pos c11] at hT
          refine z_iconst ok dX3_isFormed_68 (x := 0) (by decide) ?_
          exact z_iret ok hE dX3_isFormed_69 rfl ⟨congrArg Prod.fst hT, congrArg Prod.snd hT⟩
        · rw [if_neg c11] at hT
          refine z_iconst ok dX3_isFormed_64 (x := 1) (by decide) ?_
          refine z_goto ok dX3_isFormed_65 69 (by decide) ?_
          exact z_iret ok hE dX3_isFormed_69 rfl ⟨congrArg Prod.fst hT, congrArg Prod.snd hT⟩
    · rw [if_neg c6] at hT
      refine z_iconst ok dX3_isFormed_37 (x := (-1)) (by decide) ?_
      refine z_goto ok dX3_isFormed_38 45 (by decide) ?_
      have : ztx w5 := by first | assumption | exact ztx_ec (by assumption) (by assumption)
      refine z_put_X3_itsTo ok dX3_isFormed_45 hN zw_559 ?_
      replace hT := zlet_open hT
      obtain ⟨w12, hw12, hT⟩ := hT
      rw [← hw12]
      have : ztx w12 := ztx_e3 (by assumption) (by decide) (by assumption)
      refine z_aload_n ok dX3_isFormed_48 0 rfl ?_
      refine z_get_X3_itsTo ok dX3_isFormed_49 hN zw_559 ?_
      refine z_if_lt ok dX3_isFormed_52 68 (by decide) (fun c13 => ?_) (fun c13 => ?_)
      · rw [if_pos c13] at hT
        refine z_iconst ok dX3_isFormed_68 (x := 0) (by decide) ?_
        exact z_iret ok hE dX3_isFormed_69 rfl ⟨congrArg Prod.fst hT, congrArg Prod.snd hT⟩
      · rw [if_neg c13] at hT
        refine z_aload_n ok dX3_isFormed_55 0 rfl ?_
        refine z_bipush ok dX3_isFormed_56 (x := 59) (by decide) ?_
        refine z_callVi ok old dX3_isFormed_58 [] (c_X3_takes G N hN hg w12 59 (ztx_l (by assumption)) (ztx_s (by assumption))) zy_X3_takes zw_782 47 (by omega) (zE_47 G w12) rfl rfl rfl rfl rfl (by decide) (Nat.le_of_ble_eq_true rfl) ?_
        replace hT := zlet_open hT
        obtain ⟨p14, hp14, hT⟩ := hT
        rw [← hp14]
        refine z_if_eq ok dX3_isFormed_61 68 (by decide) (fun c15 => ?_) (fun c15 => ?_)
        · rw [if_pos c15] at hT
          refine z_iconst ok dX3_isFormed_68 (x := 0) (by decide) ?_
          exact z_iret ok hE dX3_isFormed_69 rfl ⟨congrArg Prod.fst hT, congrArg Prod.snd hT⟩
        · rw [if_neg c15] at hT
          refine z_iconst ok dX3_isFormed_64 (x := 1) (by decide) ?_
          refine z_goto ok dX3_isFormed_65 69 (by decide) ?_
          exact z_iret ok hE dX3_isFormed_69 rfl ⟨congrArg Prod.fst hT, congrArg Prod.snd hT⟩
  · rw [if_neg c3] at hT
    refine z_aload_n ok dX3_isFormed_14 0 rfl ?_
    refine z_bipush ok dX3_isFormed_15 (x := 59) (by decide) ?_
    refine z_callVi ok old dX3_isFormed_17 [] (c_X3_takes G N hN hg p2.2 59 (ztx_l (by assumption)) (ztx_s (by assumption))) zy_X3_takes zw_782 47 (by omega) (zE_47 G p2.2) rfl rfl rfl rfl rfl (by decide) (Nat.le_of_ble_eq_true rfl) ?_
    replace hT := zlet_open hT
    obtain ⟨p16, hp16, hT⟩ := hT
    rw [← hp16]
    exact z_iret ok hE dX3_isFormed_20 (takes_01 (by assumption)) ⟨congrArg Prod.fst hT, congrArg Prod.snd hT⟩

def d_X3_does (w : xW)  : Int32 × xW :=
  zlet (if 0 ≤ (xg w 17 3) then (zlet (xg w 17 3).toNatClampNeg fun n14 =>
  zlet (xg w 17 4).toNatClampNeg fun n15 =>
  (d_X3_refuses w n14 n15))
  else ((d_X3_refusesPass w)) : Int32) fun x1 =>
  if x1 = 0 then (if 0 ≤ (xg w 17 3) then (if x1 = 0 then (zlet (xg w 17 3).toNatClampNeg fun n9 =>
  zlet (xg w 17 4).toNatClampNeg fun n10 =>
  zlet (d_X3_makes w n9 n10) fun w11 =>
  (x1, w11))
  else ((x1, w)))
  else (zlet (d_X3_passes w) fun w12 =>
  (x1, w12)))
  else (if x1 = 0 then (zlet (xg w 17 3).toNatClampNeg fun n4 =>
  zlet (xg w 17 4).toNatClampNeg fun n5 =>
  zlet (d_X3_makes w n4 n5) fun w6 =>
  (x1, w6))
  else ((x1, w)))
set_option maxRecDepth 100000 in
set_option maxHeartbeats 4000000 in
theorem c_X3_does (G : zG) (N : Nat) (hN : 54 ≤ N) (hg : zGeo G N) (w : xW) (h_c : zdo w) : zM yX3_does cX3_does 2 (some .int) 8 183 G N [.ref (zad G 47)] w (some (d_X3_does w).1) (d_X3_does w).2 := by
  obtain ⟨r, u, hT⟩ := zpair (d_X3_does w)
  rw [hT]
  dsimp only
  unfold d_X3_does at hT
  refine zM_of zy_X3_does.2.2.2.2.2.2.2 hg ⟨Nat.le_of_ble_eq_true rfl, by decide⟩ rfl (fun k ok hE hI => ?_)
  have old := hE.old
  refine z_aload_n ok dX3_does_0 0 rfl ?_
  refine z_get_X3_itsFrom ok dX3_does_1 hN zw_558 ?_
  replace hT := zlet_open hT
  obtain ⟨x1, hx1, hT⟩ := hT
  have hsx1 := hx1.symm
  have hJx1 : zZ k G N w 26 [(0, .ref (zad G 47))] [.int x1] := by
    refine z_istore_n ok dX3_does_26 (hI 1 (by decide)) (lv' := [(1, .int x1), (0, .ref (zad G 47))]) rfl ?_
    refine z_iload_n ok dX3_does_27 0 rfl ?_
    refine z_if_ne ok dX3_does_28 45 (by decide) (fun c2 => ?_) (fun c2 => ?_)
    · rw [if_neg c2] at hT
      refine z_iload_n ok dX3_does_45 0 rfl ?_
      refine z_if_ne ok dX3_does_46 61 (by decide) (fun c3 => ?_) (fun c3 => ?_)
      · rw [if_neg c3] at hT
        refine z_iload_n ok dX3_does_61 0 rfl ?_
        exact z_iret ok hE dX3_does_62 rfl ⟨congrArg Prod.fst hT, congrArg Prod.snd hT⟩
      · rw [if_pos c3] at hT
        refine z_aload_n ok dX3_does_49 1 rfl ?_
        refine z_aload_n ok dX3_does_50 1 rfl ?_
        refine z_get_X3_itsFrom ok dX3_does_51 hN zw_558 ?_
        replace hT := zlet_open hT
        obtain ⟨n4, hn4, hT⟩ := hT
        obtain ⟨ln4, en4⟩ := zcellx (x := (xg w 17 3)) (by first | exact zdo_f h_c (by assumption) | contradiction) hn4
        rw [en4]
        refine z_aload_n ok dX3_does_54 1 rfl ?_
        refine z_get_X3_itsTo ok dX3_does_55 hN zw_559 ?_
        replace hT := zlet_open hT
        obtain ⟨n5, hn5, hT⟩ := hT
        obtain ⟨ln5, en5⟩ := zcellx (x := (xg w 17 4)) (by first | exact zdo_t h_c (by assumption) | contradiction) hn5
        rw [en5]
        refine z_callVv ok old dX3_does_58 [] (c_X3_makes G N hN hg w n4 (by omega) n5 (by omega)) zy_X3_makes zw_672 47 (by omega) (zE_47 G w) rfl rfl rfl rfl rfl (by decide) (Nat.le_of_ble_eq_true rfl) ?_
        replace hT := zlet_open hT
        obtain ⟨w6, hw6, hT⟩ := hT
        rw [← hw6]
        refine z_iload_n ok dX3_does_61 0 rfl ?_
        exact z_iret ok hE dX3_does_62 rfl ⟨congrArg Prod.fst hT, congrArg Prod.snd hT⟩
    · rw [if_pos c2] at hT
      refine z_aload_n ok dX3_does_31 1 rfl ?_
      refine z_get_X3_itsFrom ok dX3_does_32 hN zw_558 ?_
      refine z_if_ge ok dX3_does_35 45 (by decide) (fun c7 => ?_) (fun c7 => ?_)
      · rw [if_pos c7] at hT
        refine z_iload_n ok dX3_does_45 0 rfl ?_
        refine z_if_ne ok dX3_does_46 61 (by decide) (fun c8 => ?_) (fun c8 => ?_)
        · rw [if_neg c8] at hT
          refine z_iload_n ok dX3_does_61 0 rfl ?_
          exact z_iret ok hE dX3_does_62 rfl ⟨congrArg Prod.fst hT, congrArg Prod.snd hT⟩
        · rw [if_pos c8] at hT
          refine z_aload_n ok dX3_does_49 1 rfl ?_
          refine z_aload_n ok dX3_does_50 1 rfl ?_
          refine z_get_X3_itsFrom ok dX3_does_51 hN zw_558 ?_
          replace hT := zlet_open hT
          obtain ⟨n9, hn9, hT⟩ := hT
          obtain ⟨ln9, en9⟩ := zcellx (x := (xg w 17 3)) (by first | exact zdo_f h_c (by assumption) | contradiction) hn9
          rw [en9]
          refine z_aload_n ok dX3_does_54 1 rfl ?_
          refine z_get_X3_itsTo ok dX3_does_55 hN zw_559 ?_
          replace hT := zlet_open hT
          obtain ⟨n10, hn10, hT⟩ := hT
          obtain ⟨ln10, en10⟩ := zcellx (x := (xg w 17 4)) (by first | exact zdo_t h_c (by assumption) | contradiction) hn10
          rw [en10]
          refine z_callVv ok old dX3_does_58 [] (c_X3_makes G N hN hg w n9 (by omega) n10 (by omega)) zy_X3_makes zw_672 47 (by omega) (zE_47 G w) rfl rfl rfl rfl rfl (by decide) (Nat.le_of_ble_eq_true rfl) ?_
          replace hT := zlet_open hT
          obtain ⟨w11, hw11, hT⟩ := hT
          rw [← hw11]
          refine z_iload_n ok dX3_does_61 0 rfl ?_
          exact z_iret ok hE dX3_does_62 rfl ⟨congrArg Prod.fst hT, congrArg Prod.snd hT⟩
      · rw [if_neg c7] at hT
        refine z_aload_n ok dX3_does_38 1 rfl ?_
        refine z_callVv ok old dX3_does_39 [] (c_X3_passes G N hN hg w ) zy_X3_passes zw_699 47 (by omega) (zE_47 G w) rfl rfl rfl rfl rfl (by decide) (Nat.le_of_ble_eq_true rfl) ?_
        replace hT := zlet_open hT
        obtain ⟨w12, hw12, hT⟩ := hT
        rw [← hw12]
        refine z_goto ok dX3_does_42 61 (by decide) ?_
        refine z_iload_n ok dX3_does_61 0 rfl ?_
        exact z_iret ok hE dX3_does_62 rfl ⟨congrArg Prod.fst hT, congrArg Prod.snd hT⟩
  refine z_if_ge ok dX3_does_4 14 (by decide) (fun c13 => ?_) (fun c13 => ?_)
  · rw [if_pos c13] at hsx1
    refine z_aload_n ok dX3_does_14 0 rfl ?_
    refine z_aload_n ok dX3_does_15 0 rfl ?_
    refine z_get_X3_itsFrom ok dX3_does_16 hN zw_558 ?_
    replace hsx1 := zlet_open hsx1
    obtain ⟨n14, hn14, hsx1⟩ := hsx1
    obtain ⟨ln14, en14⟩ := zcellx (x := (xg w 17 3)) (by first | exact zdo_f h_c (by assumption) | contradiction) hn14
    rw [en14]
    refine z_aload_n ok dX3_does_19 0 rfl ?_
    refine z_get_X3_itsTo ok dX3_does_20 hN zw_559 ?_
    replace hsx1 := zlet_open hsx1
    obtain ⟨n15, hn15, hsx1⟩ := hsx1
    obtain ⟨ln15, en15⟩ := zcellx (x := (xg w 17 4)) (by first | exact zdo_t h_c (by assumption) | contradiction) hn15
    rw [en15]
    refine z_callVi ok old dX3_does_23 [] (c_X3_refuses G N hN hg w n14 (by omega) n15 (by omega)) zy_X3_refuses zw_668 47 (by omega) (zE_47 G w) rfl rfl rfl rfl rfl (by decide) (Nat.le_of_ble_eq_true rfl) ?_
    rw [← hsx1] at hJx1
    refine z_locs [0] (lv' := [(0, .ref (zad G 47))]) rfl ?_
    exact hJx1
  · rw [if_neg c13] at hsx1
    refine z_aload_n ok dX3_does_7 0 rfl ?_
    refine z_callVi ok old dX3_does_8 [] (c_X3_refusesPass G N hN hg w ) zy_X3_refusesPass zw_691 47 (by omega) (zE_47 G w) rfl rfl rfl rfl rfl (by decide) (Nat.le_of_ble_eq_true rfl) ?_
    refine z_goto ok dX3_does_11 26 (by decide) ?_
    rw [← hsx1] at hJx1
    refine z_locs [0] (lv' := [(0, .ref (zad G 47))]) rfl ?_
    exact hJx1
