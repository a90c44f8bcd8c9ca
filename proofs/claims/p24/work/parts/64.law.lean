/-! the law's helpers that type a text and ask for its fault -/
def tyC (g : Int64) (k : Nat) : Int32 := ((g >>> ((nI (8 * k)).toInt64 &&& 63)) &&& 255).toInt32
def tyI (n : Nat) : Int32 := nI n - 1
theorem tyI_s (m : Nat) : tyI (m + 1) = nI m := nI_pred m
theorem tyI_d (m : Nat) : nI m + Int32.ofInt (-1) = tyI m := by
  unfold tyI
  rw [Int32.sub_eq_add_neg]
  rfl
def d_types (g : Int64) : Nat → xW → xW
  | 0, w => w
  | m + 1, w => d_types g m (if tyC g m = 0 then w else (d_X2_type w (tyC g m)).2)
set_option maxRecDepth 100000 in
set_option maxHeartbeats 4000000 in
theorem c_L_types {G : zG} {N : Nat} (hN : 47 ≤ N) (hg : zGeo G N) (w : xW) (g : Int64) : zM yL_types cL_types 5 none 1 21 G N [.ref (zad G 0), .long g] w none (d_types g 8 w) := by
  generalize hU : d_types g 8 w = U
  refine zM_of zy_L_types.2.2.2.2.2.2 hg ⟨Nat.le_of_ble_eq_true rfl, by decide⟩ rfl (fun k ok hE hI => ?_)
  have old := hE.old
  have loop : ∀ (m : Nat) (w' : xW), m ≤ 8 → d_types g m w' = U → zZ k G N w' 3 [(0, .ref (zad G 0)), (1, .long g), (3, .int (tyI m))] [] := by
    intro m
    induction m with
    | zero =>
      intro w' _ e
      refine z_iload_n ok dL_types_3 2 rfl ?_
      refine z_if_lt ok dL_types_4 38 (by decide) (fun _ => ?_) (fun c => absurd (by decide) c)
      exact z_vret ok hE dL_types_38 e
    | succ m ih =>
      intro w' hm e
      rw [tyI_s]
      have tail : ∀ (w'' : xW) (x : Int32), d_types g m w'' = U → zZ k G N w'' 32 [(4, .int x), (0, .ref (zad G 0)), (1, .long g), (3, .int (nI m))] [] := by
        intro w'' x e'
        refine z_iinc ok dL_types_32 (hI 3 (by decide)) 3 rfl (y := tyI m) (tyI_d m) (lv' := [(3, .int (tyI m)), (4, .int x), (0, .ref (zad G 0)), (1, .long g)]) rfl ?_
        refine z_goto ok dL_types_35 3 (by decide) ?_
        refine z_locs [2, 3, 0] (lv' := [(0, .ref (zad G 0)), (1, .long g), (3, .int (tyI m))]) rfl ?_
        exact ih w'' (by omega) e'
      refine z_iload_n ok dL_types_3 2 rfl ?_
      refine z_if_lt ok dL_types_4 38 (by decide) (fun c => absurd c (nI_pos (by omega))) (fun _ => ?_)
      refine z_lload_n ok dL_types_7 1 rfl ?_
      refine z_bipush ok dL_types_8 (x := nI 8) (by decide) ?_
      refine z_iload_n ok dL_types_10 2 rfl ?_
      refine z_imul_n ok dL_types_11 8 m rfl rfl ?_
      refine z_lshr ok dL_types_12 ?_
      refine z_ldc2 ok dL_types_13 zw_508 ?_
      refine z_land ok dL_types_16 ?_
      refine z_l2i ok dL_types_17 ?_
      refine z_istore ok dL_types_18 (hI 4 (by decide)) (lv' := [(4, .int (tyC g m)), (0, .ref (zad G 0)), (1, .long g), (3, .int (nI m))]) rfl ?_
      refine z_iload ok dL_types_20 0 rfl ?_
      refine z_if_eq ok dL_types_22 32 (by decide) (fun c => ?_) (fun c => ?_)
      · exact tail w' _ (by rw [d_types, if_pos c] at e; exact e)
      · refine z_aload_n ok dL_types_25 1 rfl ?_
        refine z_iload ok dL_types_26 0 rfl ?_
        refine z_callVi ok old dL_types_28 [] (c_X2_type G N hN hg w' (tyC g m)) zy_X2_type zw_482 0 (by omega) (zE_0 G w') rfl rfl rfl rfl rfl (by decide) (Nat.le_of_ble_eq_true rfl) ?_
        refine z_pop ok dL_types_31 rfl ?_
        exact tail _ _ (by rw [d_types, if_neg c] at e; exact e)
  refine z_bipush ok dL_types_0 (x := nI 7) (by decide) ?_
  refine z_istore_n ok dL_types_2 (hI 3 (by decide)) (lv' := [(3, .int (tyI 8)), (0, .ref (zad G 0)), (1, .long g)]) rfl ?_
  refine z_locs [1, 2, 0] (lv' := [(0, .ref (zad G 0)), (1, .long g), (3, .int (tyI 8))]) rfl ?_
  exact loop 8 w (by omega) hU
/-- what typing does to a text: how long it is, its signs -/
def tyStep (c : Int32) (p : Nat × (Nat → Int32)) : Nat × (Nat → Int32) := if c = 0 then p else if c < 32 then p else if c ≤ 126 then (if p.1 = 80 then p else (p.1 + 1, fun j => if j = p.1 then c else p.2 j)) else p
def tyF (g : Int64) : Nat → Nat × (Nat → Int32) → Nat × (Nat → Int32)
  | 0, p => p
  | k + 1, p => tyF g k (tyStep (tyC g k) p)
theorem Q_types {S H : Nat → Int32} {k : Nat} (g : Int64) : ∀ (m : Nat) (w : xW) (n : Nat) (T : Nat → Int32), zQ w S k n T H → zQ (d_types g m w) S k (tyF g m (n, T)).1 (tyF g m (n, T)).2 H := by
  intro m
  induction m with
  | zero => intro w n T h; exact h
  | succ m ih =>
    intro w n T h
    rw [d_types, tyF]
    unfold tyStep
    by_cases a : tyC g m = 0
    · rw [if_pos a, if_pos a]; exact ih w n T h
    · rw [if_neg a, if_neg a]
      by_cases b : tyC g m < 32
      · rw [if_pos b, K_type_bad w (Or.inl b)]; exact ih w n T h
      · rw [if_neg b]
        by_cases c : tyC g m ≤ 126
        · rw [if_pos c]
          by_cases d : n = 80
          · rw [if_pos (show (n, T).1 = 80 from d), Q_type_full h b c d]; exact ih w n T h
          · rw [if_neg (show ¬ (n, T).1 = 80 from d)]
            obtain ⟨u, e1, e2⟩ := Q_type h b c d (T' := fun j => if j = n then tyC g m else T j) (fun _ _ => rfl)
            rw [e1]
            exact ih u (n + 1) _ e2
        · rw [if_neg c, K_type_bad w (Or.inr c)]; exact ih w n T h
/-- two words typed after a clearing make the text X of m signs -/
def tyOk (g1 g2 : Int64) (X m : Nat) : Bool := (tyF g2 8 (tyF g1 8 (0, fun _ => 0))).1 == m && rEq (tyF g2 8 (tyF g1 8 (0, fun _ => 0))).2 (tT X) m
theorem Q_T {w : xW} {S T T' H : Nat → Int32} {k n : Nat} (h : zQ w S k n T H) (e : ∀ j, j < n → T j = T' j) : zQ w S k n T' H := by
  obtain ⟨A, hA, e1, e2, e3, e4, e5⟩ := h
  exact ⟨A, hA, e1, e2, e3, fun j hj => (e4 j hj).trans (e j hj), e5⟩
set_option maxRecDepth 100000 in
set_option maxHeartbeats 4000000 in
theorem c_L_isFault {G : zG} {N : Nat} (hN : 47 ≤ N) (hg : zGeo G N) {w : xW} {S T H : Nat → Int32} {k0 n : Nat} (h : zQ w S k0 n T H) {g1 g2 : Int64} {X m : Nat} {p r : Int32} (eT : tyOk g1 g2 X m = true) (e0 : t_tell (tT X) m S 0 = p) (e1 : t_tell (tT X) m S 1 = r) : ∃ u, zM yL_isFault cL_isFault 7 (some .boolean) 8 192 G N [.ref (zad G 0), .long g1, .long g2, .int p, .int r] w (some 1) u ∧ zQ u S k0 m (tT X) H := by
  obtain ⟨w1, a1, h1⟩ := Q_clear h
  have h1 := Q_T h1 (T' := fun _ => 0) (fun j hj => absurd hj (Nat.not_lt_zero _))
  have h2 := Q_types g1 8 w1 0 _ h1
  have h3 := Q_types g2 8 _ _ _ h2
  unfold tyOk at eT
  rw [Bool.and_eq_true] at eT
  have en : (tyF g2 8 (tyF g1 8 (0, fun _ => 0))).1 = m := by simpa using eT.1
  have h3 := Q_T h3 (T' := tT X) (fun j hj => rEq_at m eT.2 j (by rw [en] at hj; exact hj))
  rw [en] at h3
  obtain ⟨w4, a4, h4⟩ := Q_fault h3 (f := 0) (by decide) e0
  obtain ⟨w5, a5, h5⟩ := Q_fault h4 (f := 1) (by decide) e1
  refine ⟨w5, ?_, h5⟩
  refine zM_of zy_L_isFault.2.2.2.2.2.2 hg ⟨Nat.le_of_ble_eq_true rfl, by decide⟩ rfl (fun k ok hE hI => ?_)
  have old := hE.old
  refine z_aload_n ok dL_isFault_0 0 rfl ?_
  refine z_callVi ok old dL_isFault_1 [] (zM_eq (c_X2_clearText G N hN hg w) a1) zy_X2_clearText zw_501 0 (by omega) (zE_0 G w) rfl rfl rfl rfl rfl (by decide) (Nat.le_of_ble_eq_true rfl) ?_
  refine z_pop ok dL_isFault_4 rfl ?_
  refine z_aload_n ok dL_isFault_5 0 rfl ?_
  refine z_lload_n ok dL_isFault_6 1 rfl ?_
  refine z_callSv ok old dL_isFault_7 [] (c_L_types hN hg w1 g1) zy_L_types zw_505 rfl rfl (by decide) (Nat.le_of_ble_eq_true rfl) ?_
  refine z_aload_n ok dL_isFault_10 0 rfl ?_
  refine z_lload_n ok dL_isFault_11 2 rfl ?_
  refine z_callSv ok old dL_isFault_12 [] (c_L_types hN hg _ g2) zy_L_types zw_505 rfl rfl (by decide) (Nat.le_of_ble_eq_true rfl) ?_
  refine z_aload_n ok dL_isFault_15 0 rfl ?_
  refine z_iconst ok dL_isFault_16 (x := nI 0) (by decide) ?_
  refine z_callVi ok old dL_isFault_17 [] (zM_eq (c_X2_fault G N hN hg _ (nI 0)) a4) zy_X2_fault zw_462 0 (by omega) (zE_0 G _) rfl rfl rfl rfl rfl (by decide) (Nat.le_of_ble_eq_true rfl) ?_
  refine z_iload ok dL_isFault_20 3 rfl ?_
  refine z_icmp_ne ok dL_isFault_22 39 (by decide) (fun c => absurd rfl c) (fun _ => ?_)
  refine z_aload_n ok dL_isFault_25 0 rfl ?_
  refine z_iconst ok dL_isFault_26 (x := nI 1) (by decide) ?_
  refine z_callVi ok old dL_isFault_27 [] (zM_eq (c_X2_fault G N hN hg _ (nI 1)) a5) zy_X2_fault zw_462 0 (by omega) (zE_0 G _) rfl rfl rfl rfl rfl (by decide) (Nat.le_of_ble_eq_true rfl) ?_
  refine z_iload ok dL_isFault_30 4 rfl ?_
  refine z_icmp_ne ok dL_isFault_32 39 (by decide) (fun c => absurd rfl c) (fun _ => ?_)
  refine z_iconst ok dL_isFault_35 (x := 1) (by decide) ?_
  refine z_goto ok dL_isFault_36 40 (by decide) ?_
  exact z_iret ok hE dL_isFault_40 rfl ⟨rfl, rfl⟩
