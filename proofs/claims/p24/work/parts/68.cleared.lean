/-! the law's isCleared -/
set_option maxRecDepth 100000 in
set_option maxHeartbeats 4000000 in
theorem c_L_isCleared {G : zG} {N : Nat} (hN : 47 ≤ N) (hg : zGeo G N) {w : xW} {T H : Nat → Int32} {k0 n : Nat} (h : zQ w (rT tb_0) k0 n T H) (hn : n = 0) : ∃ u H', zM yL_isCleared cL_isCleared 3 (some .boolean) 7 172 G N [.ref (zad G 0)] w (some 1) u ∧ zQ u (rT tb_c) 5 n T H' := by
  subst hn
  obtain ⟨H', h36⟩ := Q_clr 36 0 w (rT tb_0) H k0 (by omega) fk_9 h
  have e36 : clrF 36 0 (rT tb_0) = rT tb_c := rT_of (Q_inv h36) fk_8
  rw [e36, show min (k0 + 36) 5 = 5 by omega] at h36
  generalize hw36 : d_clr 36 0 w = w36 at h36
  obtain ⟨w1, a1, h1⟩ := Q_replies h36 (q_list (Q_inv h36) fk_4 fk_5 fk_2) fk_6
  obtain ⟨w2, a2, h2⟩ := Q_best h1 (q_list (Q_inv h1) fk_4 fk_5 fk_2) fk_7
  refine ⟨w2, H', ?_, h2⟩
  refine zM_of zy_L_isCleared.2.2.2.2.2.2 hg ⟨Nat.le_of_ble_eq_true rfl, by decide⟩ rfl (fun k ok hE hI => ?_)
  have old := hE.old
  have cont : zZ k G N w36 45 [(0, .ref (zad G 0))] [] := by
    refine z_aload_n ok dL_isCleared_45 0 rfl ?_
    refine z_iconst ok dL_isCleared_46 (x := nI 4) (by decide) ?_
    refine z_callVi ok old dL_isCleared_47 [] (zM_eq1 (r := nI 0) (c_X2_count G N hN hg w36 (nI 4)) (Q_count h36 fk_0)) zy_X2_count zw_292 0 (by omega) (zE_0 G _) rfl rfl rfl rfl rfl (by decide) (Nat.le_of_ble_eq_true rfl) ?_
    refine z_if_ne ok dL_isCleared_50 98 (by decide) (fun q => absurd q (by decide)) (fun _ => ?_)
    refine z_aload_n ok dL_isCleared_53 0 rfl ?_
    refine z_bipush ok dL_isCleared_54 (x := nI 25) (by decide) ?_
    refine z_callVi ok old dL_isCleared_56 [] (zM_eq1 (r := nI 0) (c_X2_count G N hN hg w36 (nI 25)) (Q_count h36 fk_1)) zy_X2_count zw_292 0 (by omega) (zE_0 G _) rfl rfl rfl rfl rfl (by decide) (Nat.le_of_ble_eq_true rfl) ?_
    refine z_if_ne ok dL_isCleared_59 98 (by decide) (fun q => absurd q (by decide)) (fun _ => ?_)
    refine z_aload_n ok dL_isCleared_62 0 rfl ?_
    refine z_iconst ok dL_isCleared_63 (x := nI 0) (by decide) ?_
    refine z_callVi ok old dL_isCleared_64 [] (zM_eq1 (r := nI 0) (c_X2_moves G N hN hg w36 (nI 0)) (Q_moves h36 (by decide) fk_2 rfl)) zy_X2_moves zw_388 0 (by omega) (zE_0 G _) rfl rfl rfl rfl rfl (by decide) (Nat.le_of_ble_eq_true rfl) ?_
    refine z_if_ne ok dL_isCleared_67 98 (by decide) (fun q => absurd q (by decide)) (fun _ => ?_)
    refine z_aload_n ok dL_isCleared_70 0 rfl ?_
    refine z_iconst ok dL_isCleared_71 (x := nI 1) (by decide) ?_
    refine z_callVi ok old dL_isCleared_72 [] (zM_eq1 (r := nI 0) (c_X2_moves G N hN hg w36 (nI 1)) (Q_moves h36 (by decide) fk_3 rfl)) zy_X2_moves zw_388 0 (by omega) (zE_0 G _) rfl rfl rfl rfl rfl (by decide) (Nat.le_of_ble_eq_true rfl) ?_
    refine z_if_ne ok dL_isCleared_75 98 (by decide) (fun q => absurd q (by decide)) (fun _ => ?_)
    refine z_aload_n ok dL_isCleared_78 0 rfl ?_
    refine z_callVi ok old dL_isCleared_79 [] (zM_eq (r := nI 0) (c_X2_replies G N hN hg w36) a1) zy_X2_replies zw_536 0 (by omega) (zE_0 G _) rfl rfl rfl rfl rfl (by decide) (Nat.le_of_ble_eq_true rfl) ?_
    refine z_if_ne ok dL_isCleared_82 98 (by decide) (fun q => absurd q (by decide)) (fun _ => ?_)
    refine z_aload_n ok dL_isCleared_85 0 rfl ?_
    refine z_callVi ok old dL_isCleared_86 [] (zM_eq (r := (-4)) (c_X2_best G N hN hg w1) a2) zy_X2_best zw_544 0 (by omega) (zE_0 G _) rfl rfl rfl rfl rfl (by decide) (Nat.le_of_ble_eq_true rfl) ?_
    refine z_bipush ok dL_isCleared_89 (x := (-4)) (by decide) ?_
    refine z_icmp_ne ok dL_isCleared_91 98 (by decide) (fun q => absurd q (by decide)) (fun _ => ?_)
    refine z_iconst ok dL_isCleared_94 (x := nI 1) (by decide) ?_
    refine z_goto ok dL_isCleared_95 99 (by decide) ?_
    exact z_iret ok hE dL_isCleared_99 rfl ⟨rfl, rfl⟩
  have loop : ∀ (m c : Nat) (w' : xW) (A : xA), c + m = 36 → zSim w' A → aS A 145 = 0 → d_clr m c w' = w36 → zZ k G N w' 2 [(0, .ref (zad G 0)), (1, .int (nI c))] [] := by
    intro m
    induction m with
    | zero =>
      intro c w' A e hA h5 eU
      refine z_iload_n ok dL_isCleared_2 1 rfl ?_
      refine z_bipush ok dL_isCleared_3 (x := nI 36) (by decide) ?_
      refine z_icmp_ge_n ok dL_isCleared_5 45 (by decide) c 36 rfl rfl (by omega) (fun _ => ?_) (fun c => absurd (by omega) c)
      rw [show w' = w36 from eU]
      exact z_locs [0] (lv' := [(0, .ref (zad G 0))]) rfl cont
    | succ m ih =>
      intro c w' A e hA h5 eU
      have hc : c < 36 := by omega
      obtain ⟨p1, p2⟩ := K_clr hA h5 hc
      have tail : ∀ x : Int32, x = (if aS A c = -1 then 0 else 1) → zZ k G N w' 24 [(0, .ref (zad G 0)), (1, .int (nI c))] [.int x] := by
        intro x hx
        refine z_istore_n ok dL_isCleared_24 (hI 2 (by decide)) (lv' := [(2, .int x), (0, .ref (zad G 0)), (1, .int (nI c))]) rfl ?_
        refine z_aload_n ok dL_isCleared_25 1 rfl ?_
        refine z_iload_n ok dL_isCleared_26 2 rfl ?_
        refine z_iconst ok dL_isCleared_27 (x := -1) (by decide) ?_
        refine z_iconst ok dL_isCleared_28 (x := nI 0) (by decide) ?_
        refine z_iconst ok dL_isCleared_29 (x := nI 0) (by decide) ?_
        refine z_callVi ok old dL_isCleared_30 [] (zM_eq (c_X2_put G N hN hg w' (nI c) (-1) (nI 0) (nI 0)) p1) zy_X2_put zw_253 0 (by omega) (zE_0 G _) rfl rfl rfl rfl rfl (by decide) (Nat.le_of_ble_eq_true rfl) ?_
        refine z_iload_n ok dL_isCleared_33 0 rfl ?_
        refine z_icmp_eq ok dL_isCleared_34 39 (by decide) (fun _ => ?_) (fun q => absurd hx.symm q)
        refine z_iinc ok dL_isCleared_39 (hI 1 (by decide)) 2 rfl (y := nI (c + 1)) (z_incn c 1) (lv' := [(1, .int (nI (c + 1))), (2, .int x), (0, .ref (zad G 0))]) rfl ?_
        refine z_goto ok dL_isCleared_42 2 (by decide) ?_
        refine z_locs [2, 0] (lv' := [(0, .ref (zad G 0)), (1, .int (nI (c + 1)))]) rfl ?_
        refine ih (c + 1) _ _ (by omega) p2 ?_ ?_
        · show s_put (aS A) c (-1) (nI 0) (nI 0) 145 = 0
          rw [put_hi _ hc _ _ _ (by omega) (by omega)]; exact h5
        · rw [d_clr, p1] at eU; exact eU
      refine z_iload_n ok dL_isCleared_2 1 rfl ?_
      refine z_bipush ok dL_isCleared_3 (x := nI 36) (by decide) ?_
      refine z_icmp_ge_n ok dL_isCleared_5 45 (by decide) c 36 rfl rfl (by omega) (fun q => absurd q (by omega)) (fun _ => ?_)
      refine z_aload_n ok dL_isCleared_8 0 rfl ?_
      refine z_iload_n ok dL_isCleared_9 1 rfl ?_
      refine z_iconst ok dL_isCleared_10 (x := nI 0) (by decide) ?_
      refine z_callVi ok old dL_isCleared_11 [] (zM_eq1 (r := s_cell (aS A) c 0) (c_X2_cell G N hN hg w' (nI c) (nI 0)) (K_cell hA hc (by decide))) zy_X2_cell zw_415 0 (by omega) (zE_0 G _) rfl rfl rfl rfl rfl (by decide) (Nat.le_of_ble_eq_true rfl) ?_
      refine z_bipush ok dL_isCleared_14 (x := -4) (by decide) ?_
      have ecell : s_cell (aS A) c 0 = if aS A c = -1 then -4 else aS A c := by
        unfold s_cell
        rw [if_neg (show ¬ (0 : Nat) = 3 by decide), if_pos (show (0 : Nat) = 0 from rfl)]
      refine z_icmp_ne ok dL_isCleared_16 23 (by decide) (fun q => ?_) (fun q => ?_)
      · have : ¬ aS A c = -1 := fun z => q (by rw [ecell, if_pos z])
        refine z_iconst ok dL_isCleared_23 (x := 1) (by decide) ?_
        exact tail 1 (by rw [if_neg this])
      · have : aS A c = -1 := by
          rw [ecell] at q
          rcases hA.2.2.1.2.1 c hc with z | z | z
          · exact z
          · rw [z] at q; exact absurd q (by decide)
          · rw [z] at q; exact absurd q (by decide)
        refine z_iconst ok dL_isCleared_19 (x := 0) (by decide) ?_
        refine z_goto ok dL_isCleared_20 24 (by decide) ?_
        exact tail 0 (by rw [if_pos this])
  obtain ⟨A, hA, e1, -⟩ := id h
  refine z_iconst ok dL_isCleared_0 (x := nI 0) (by decide) ?_
  refine z_istore_n ok dL_isCleared_1 (hI 1 (by decide)) (lv' := [(1, .int (nI 0)), (0, .ref (zad G 0))]) rfl ?_
  refine z_locs [1, 0] (lv' := [(0, .ref (zad G 0)), (1, .int (nI 0))]) rfl ?_
  exact loop 36 0 w A (by omega) hA (by rw [e1]; exact fk_9) hw36
