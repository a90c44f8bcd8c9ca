/-! the model's methods that look at every move -/
theorem s_turns_20_hi {j : Nat} (hj : 159 ≤ j) (kt : Nat → (Nat → Int32) → (Nat → Int32)) (hk : ∀ k S, kt k S j = S j) : ∀ (n k : Nat) (S : Nat → Int32), 36 < k + n → k ≤ 36 → s_turns_20 kt n k S j = S j := by
  intro n
  induction n with
  | zero => intro k S h1 h2; omega
  | succ n ih =>
    intro k S h1 h2
    rw [s_turns_20]
    by_cases h36 : 36 ≤ k
    · rw [if_pos h36]; exact hk k S
    · rw [if_neg h36]
      by_cases a : S (108 + k) = 1
      · rw [if_pos a]
        by_cases b : S k = S 144
        · rw [if_pos b, zlet_def, zlet_def, zlet_def, ih _ _ (by omega) (by omega), zU_ne _ _ (by omega), zU_ne _ _ (by omega)]
        · rw [if_neg b]; exact ih _ _ (by omega) (by omega)
      · rw [if_neg a]; exact ih _ _ (by omega) (by omega)
theorem s_turns_hi {j : Nat} (hj : 159 ≤ j) (S : Nat → Int32) : s_turns S j = S j := by
  rw [s_turns, zlet_def, s_turns_20_hi hj s_turns_20k (fun _ _ => rfl) 37 0 _ (by omega) (by omega), zU_ne _ _ (by omega)]
theorem s_goes_hi {j : Nat} (hj : 159 ≤ j) (S : Nat → Int32) {f t : Nat} (hf : f < 36) (ht : t < 36) : s_goes S f t j = S j := by
  by_cases a : S t = -1
  · rw [s_goes_A S hf ht a, zU_ne _ _ (by omega), s_lays_hi _ _ _ _ ht (by omega), s_lays_hi _ _ _ _ hf (by omega)]
  · rw [s_goes_B S hf ht a, zU_ne _ _ (by omega), s_lays_hi _ _ _ _ ht (by omega), s_lays_hi _ _ _ _ hf (by omega)]
    unfold s_won
    by_cases b : S (36 + t) = 0
    · rw [if_pos b, zU_ne _ _ (by omega), zU_ne _ _ (by omega), zU_ne _ _ (by omega), zU_ne _ _ (by omega)]
    · rw [if_neg b, zU_ne _ _ (by omega), zU_ne _ _ (by omega)]
theorem s_makes_hi {j : Nat} (hj : 159 ≤ j) (S : Nat → Int32) {f t : Nat} (hf : f < 36) (ht : t < 36) : s_makes S f t j = S j := by
  have e : s_carry S f t j = S j := by
    unfold s_carry
    rw [zU_ne _ _ (by omega), zU_ne _ _ (by omega), s_goes_hi hj S hf ht]
  rw [s_makes_eq]
  by_cases a : s_carry S f t 145 = 0
  · rw [if_pos a, s_turns_hi hj, e]
  · rw [if_neg a, e]
/-- a row played on in the model's state, brought back: the world is as it was when it was laid aside -/
theorem zback {w v : xW} (hv : v = d_X3_laysAside w) {S : Nat → Int32} (hS : ∀ j, 159 ≤ j → S j = w.1 11 j) : d_X3_bringsBack (xv v 11 S) = v := by
  have e11 : v.1 11 = w.1 11 := by rw [hv, m_aside, xv_ne _ _ (by omega)]
  have e13 : v.1 13 = zpx (w.1 13) (w.1 11) 159 := by rw [hv, m_aside, xv_row]
  rw [m_back, xv_row, xv_xv, xv_ne _ _ (by omega : ¬ 13 = 11), e13, zpx_back hS, ← e11, xv_self]
theorem zmove_r {w v w2 : xW} {x1 : Int32} {k : Nat} (hv : v = w2) (h2 : w2 = d_X3_laysAside w) (hx : x1 = if xg w 11 145 ≤ 0 then d_X3_movesOf w (xg w 11 144) else 0) (hk : ¬ x1 ≤ nI k) (hb : k ≤ x1.toNatClampNeg) : d_X3_moveAt v (xg v 11 144) (nI k) = nI (d_X3_moveAt v (xg v 11 144) (nI k)).toNatClampNeg ∧ (d_X3_moveAt v (xg v 11 144) (nI k)).toNatClampNeg < 1296 := by
  have e11 : v.1 11 = w.1 11 := by rw [hv, h2, m_aside, xv_ne _ _ (by omega)]
  rw [m_movesOf, s_movesOf_len, xg_row, xg_row] at hx
  have hl := s_mvs_len (w.1 11) (w.1 11 144)
  have hlt : k < (s_mvs (w.1 11) (w.1 11 144)).length := by
    by_cases a : w.1 11 145 ≤ 0
    · rw [if_pos a] at hx
      rw [hx] at hk hb
      rw [nI_clamp (by omega)] at hb
      exact Nat.lt_of_not_le (fun q => hk (nI_le q (by omega)))
    · rw [if_neg a] at hx
      rw [hx] at hk hb
      have : k = 0 := Nat.le_zero.mp hb
      rw [this] at hk
      exact absurd (by decide) hk
  rw [m_moveAt, xg_row, e11, s_moveAt_nth _ _ (by omega)]
  unfold s_nth
  rw [List.getElem?_eq_getElem hlt]
  have hm := (s_mvs_mem (List.getElem_mem hlt)).1
  dsimp only
  rw [nI_clamp (by omega)]
  exact ⟨rfl, hm⟩
theorem zmove_b {w v w2 : xW} {x1 x5 : Int32} {k : Nat} (h5 : x5 = xg v 11 144) (hv : v = w2) (h2 : w2 = d_X3_laysAside w) (hx : x1 = if xg w 11 145 ≤ 0 then d_X3_movesOf w (xg w 11 144) else 0) (hk : ¬ x1 ≤ nI k) (hb : k ≤ x1.toNatClampNeg) : d_X3_moveAt v x5 (nI k) = nI (d_X3_moveAt v x5 (nI k)).toNatClampNeg ∧ (d_X3_moveAt v x5 (nI k)).toNatClampNeg < 1296 := by
  rw [h5]
  exact zmove_r hv h2 hx hk hb
def d_X3_repliesTo (w : xW) (mv : Nat) : Int32 × xW :=
  zlet (d_X3_makes w (mv / 36) (mv % 36)) fun w1 =>
  if (xg w1 11 145) ≤ 0 then (zlet ((d_X3_movesOf w1 (xg w1 11 144))) fun x3 =>
  if x3 = 0 then ((1, w1))
  else ((x3, w1)))
  else ((1, w1))
theorem r2_replies (v : xW) (n : Nat) : (d_X3_repliesTo v n).2 = xv v 11 (s_makes (v.1 11) (n / 36) (n % 36)) := by
  rw [d_X3_repliesTo, zlet_def, m_makes]
  by_cases a : xg (xv v 11 (s_makes (v.1 11) (n / 36) (n % 36))) 11 145 ≤ 0
  · rw [if_pos a, zlet_def]
    by_cases b : d_X3_movesOf (xv v 11 (s_makes (v.1 11) (n / 36) (n % 36))) (xg (xv v 11 (s_makes (v.1 11) (n / 36) (n % 36))) 11 144) = 0
    · rw [if_pos b]
    · rw [if_neg b]
  · rw [if_neg a]
theorem zback_r {w v w2 w8 : xW} {p : Int32 × xW} {n : Nat} (hn : n < 1296) (h8 : w8 = d_X3_bringsBack p.2) (h6 : p = d_X3_repliesTo v n) (hv : v = w2) (h2 : w2 = d_X3_laysAside w) : w8 = w2 := by
  have e11 : v.1 11 = w.1 11 := by rw [hv, h2, m_aside, xv_ne _ _ (by omega)]
  rw [h8, h6, r2_replies, zback (w := w) (hv.trans h2) (fun j hj => by rw [s_makes_hi hj _ (by omega) (by omega), e11]), hv]
theorem zback_b {w v w2 w8 w9 : xW} {n : Nat} (hn : n < 1296) (h8 : w8 = d_X3_bringsBack w9) (h6 : w9 = d_X3_goes v (n / 36) (n % 36)) (hv : v = w2) (h2 : w2 = d_X3_laysAside w) : w8 = w2 := by
  have e11 : v.1 11 = w.1 11 := by rw [hv, h2, m_aside, xv_ne _ _ (by omega)]
  rw [h8, h6, m_goes, zback (w := w) (hv.trans h2) (fun j hj => by rw [s_goes_hi hj _ (by omega) (by omega), e11]), hv]

set_option maxRecDepth 100000 in
set_option maxHeartbeats 4000000 in
theorem c_X3_repliesTo (G : zG) (N : Nat) (hN : 54 ≤ N) (hg : zGeo G N) (w : xW) (mv : Nat) (h_mv : mv < 1296) : zM yX3_repliesTo cX3_repliesTo 3 (some .int) 7 163 G N [.ref (zad G 47), .int (nI mv)] w (some (d_X3_repliesTo w mv).1) (d_X3_repliesTo w mv).2 := by
  obtain ⟨r, u, hT⟩ := zpair (d_X3_repliesTo w mv)
  rw [hT]
  dsimp only
  unfold d_X3_repliesTo at hT
  refine zM_of zy_X3_repliesTo.2.2.2.2.2.2.2 hg ⟨Nat.le_of_ble_eq_true rfl, by decide⟩ rfl (fun k ok hE hI => ?_)
  have old := hE.old
  refine z_aload_n ok dX3_repliesTo_0 0 rfl ?_
  refine z_iload_n ok dX3_repliesTo_1 1 rfl ?_
  refine z_bipush ok dX3_repliesTo_2 (x := 36) (by decide) ?_
  refine z_idiv_n ok dX3_repliesTo_4 mv 36 rfl rfl (by omega) (by omega) (by omega) ?_
  refine z_iload_n ok dX3_repliesTo_5 1 rfl ?_
  refine z_bipush ok dX3_repliesTo_6 (x := 36) (by decide) ?_
  refine z_irem_n ok dX3_repliesTo_8 mv 36 rfl rfl (by omega) (by omega) (by omega) ?_
  refine z_callVv ok old dX3_repliesTo_9 [] (c_X3_makes G N hN hg w (mv / 36) (by omega) (mv % 36) (by omega)) zy_X3_makes zw_672 47 (by omega) (zE_47 G w) rfl rfl rfl rfl rfl (by decide) (Nat.le_of_ble_eq_true rfl) ?_
  replace hT := zlet_open hT
  obtain ⟨w1, hw1, hT⟩ := hT
  rw [← hw1]
  refine z_aload_n ok dX3_repliesTo_12 0 rfl ?_
  refine z_get_X3_st ok dX3_repliesTo_13 hN zw_549 ?_
  refine z_sipush ok dX3_repliesTo_16 (x := 145) (by decide) ?_
  refine z_mld48 ok dX3_repliesTo_19 hN 145 rfl (by omega) ?_
  refine z_if_le ok dX3_repliesTo_20 27 (by decide) (fun c2 => ?_) (fun c2 => ?_)
  · rw [if_pos c2] at hT
    refine z_aload_n ok dX3_repliesTo_27 0 rfl ?_
    refine z_aload_n ok dX3_repliesTo_28 0 rfl ?_
    refine z_get_X3_st ok dX3_repliesTo_29 hN zw_549 ?_
    refine z_sipush ok dX3_repliesTo_32 (x := 144) (by decide) ?_
    refine z_mld48 ok dX3_repliesTo_35 hN 144 rfl (by omega) ?_
    refine z_callVi ok old dX3_repliesTo_36 [] (c_X3_movesOf G N hN hg w1 (xg w1 11 144)) zy_X3_movesOf zw_695 47 (by omega) (zE_47 G w1) rfl rfl rfl rfl rfl (by decide) (Nat.le_of_ble_eq_true rfl) ?_
    replace hT := zlet_open hT
    obtain ⟨x3, hx3, hT⟩ := hT
    rw [← hx3]
    refine z_istore_n ok dX3_repliesTo_39 (hI 2 (by decide)) (lv' := [(2, .int x3), (0, .ref (zad G 47)), (1, .int (nI mv))]) rfl ?_
    refine z_iload_n ok dX3_repliesTo_40 0 rfl ?_
    refine z_if_ne ok dX3_repliesTo_41 48 (by decide) (fun c4 => ?_) (fun c4 => ?_)
    · rw [if_neg c4] at hT
      refine z_iload_n ok dX3_repliesTo_48 0 rfl ?_
      exact z_iret ok hE dX3_repliesTo_49 rfl ⟨congrArg Prod.fst hT, congrArg Prod.snd hT⟩
    · rw [if_pos c4] at hT
      refine z_iconst ok dX3_repliesTo_44 (x := 1) (by decide) ?_
      refine z_goto ok dX3_repliesTo_45 49 (by decide) ?_
      exact z_iret ok hE dX3_repliesTo_49 rfl ⟨congrArg Prod.fst hT, congrArg Prod.snd hT⟩
  · rw [if_neg c2] at hT
    refine z_iconst ok dX3_repliesTo_23 (x := 0) (by decide) ?_
    refine z_goto ok dX3_repliesTo_24 39 (by decide) ?_
    refine z_istore_n ok dX3_repliesTo_39 (hI 2 (by decide)) (lv' := [(2, .int 0), (0, .ref (zad G 47)), (1, .int (nI mv))]) rfl ?_
    refine z_iload_n ok dX3_repliesTo_40 0 rfl ?_
    refine z_if_ne ok dX3_repliesTo_41 48 (by decide) (fun q => absurd q (by decide)) (fun _ => ?_)
    refine z_iconst ok dX3_repliesTo_44 (x := 1) (by decide) ?_
    refine z_goto ok dX3_repliesTo_45 49 (by decide) ?_
    exact z_iret ok hE dX3_repliesTo_49 rfl ⟨congrArg Prod.fst hT, congrArg Prod.snd hT⟩

def d_X3_replies_36k  (e3_1 : Int32) (e3_3 : Nat) (ew3 : xW) : Int32 × xW :=
  (e3_1, ew3)
def d_X3_replies_36 (x1 : Int32) (kt3 : Int32 → Nat → xW → (Int32 × xW)) : Nat → Int32 → Nat → xW → Int32 × xW
  | 0, _, _, _ => default
  | n3 + 1, v3_1, v3_3, vw3 => if x1 ≤ (nI v3_3) then (kt3 v3_1 v3_3 vw3)
  else (zlet (d_X3_moveAt vw3 (xg vw3 11 144) (nI v3_3)).toNatClampNeg fun n5 =>
  zlet (d_X3_repliesTo vw3 n5) fun p6 =>
  zlet ((v3_1 + p6.1)) fun x7 =>
  zlet (d_X3_bringsBack p6.2) fun w8 =>
  d_X3_replies_36 x1 kt3 n3 x7 (v3_3 + 1) w8)
def d_X3_replies (w : xW)  : Int32 × xW :=
  zlet (if (xg w 11 145) ≤ 0 then ((d_X3_movesOf w (xg w 11 144)))
  else (0) : Int32) fun x1 =>
  zlet (d_X3_laysAside w) fun w2 =>
  d_X3_replies_36 x1 d_X3_replies_36k (x1.toNatClampNeg + 1) 0 0 w2
set_option maxRecDepth 100000 in
set_option maxHeartbeats 4000000 in
theorem c_X3_replies (G : zG) (N : Nat) (hN : 54 ≤ N) (hg : zGeo G N) (w : xW) : zM yX3_replies cX3_replies 4 (some .int) 8 185 G N [.ref (zad G 47)] w (some (d_X3_replies w).1) (d_X3_replies w).2 := by
  obtain ⟨r, u, hT⟩ := zpair (d_X3_replies w)
  rw [hT]
  dsimp only
  unfold d_X3_replies at hT
  refine zM_of zy_X3_replies.2.2.2.2.2.2.2 hg ⟨Nat.le_of_ble_eq_true rfl, by decide⟩ rfl (fun k ok hE hI => ?_)
  have old := hE.old
  refine z_iconst ok dX3_replies_0 (x := 0) (by decide) ?_
  refine z_istore_n ok dX3_replies_1 (hI 1 (by decide)) (lv' := [(1, .int 0), (0, .ref (zad G 47))]) rfl ?_
  refine z_aload_n ok dX3_replies_2 1 rfl ?_
  refine z_get_X3_st ok dX3_replies_3 hN zw_549 ?_
  refine z_sipush ok dX3_replies_6 (x := 145) (by decide) ?_
  refine z_mld48 ok dX3_replies_9 hN 145 rfl (by omega) ?_
  replace hT := zlet_open hT
  obtain ⟨x1, hx1, hT⟩ := hT
  have hsx1 := hx1.symm
  have hJx1 : zZ k G N w 29 [(0, .ref (zad G 47)), (1, .int 0)] [.int x1] := by
    refine z_istore_n ok dX3_replies_29 (hI 2 (by decide)) (lv' := [(2, .int x1), (0, .ref (zad G 47)), (1, .int 0)]) rfl ?_
    refine z_aload_n ok dX3_replies_30 1 rfl ?_
    refine z_callVv ok old dX3_replies_31 [] (c_X3_laysAside G N hN hg w ) zy_X3_laysAside zw_730 47 (by omega) (zE_47 G w) rfl rfl rfl rfl rfl (by decide) (Nat.le_of_ble_eq_true rfl) ?_
    replace hT := zlet_open hT
    obtain ⟨w2, hw2, hT⟩ := hT
    rw [← hw2]
    refine z_iconst ok dX3_replies_34 (x := 0) (by decide) ?_
    refine z_istore_n ok dX3_replies_35 (hI 3 (by decide)) (lv' := [(3, .int 0), (2, .int x1), (0, .ref (zad G 47)), (1, .int 0)]) rfl ?_
    refine z_locs [2, 3, 1, 0] (lv' := [(0, .ref (zad G 47)), (1, .int 0), (2, .int x1), (3, .int 0)]) rfl ?_
    obtain ⟨kt3, hkt3⟩ : ∃ z, z = d_X3_replies_36k := ⟨_, rfl⟩
    rw [← hkt3] at hT
    have hk3 : ∀ (e3_1 : Int32) (e3_3 : Nat) (ew3 : xW), e3_3 ≤ x1.toNatClampNeg → ew3 = w2 → kt3 e3_1 e3_3 ew3 = (r, u) → zZ k G N ew3 71 [(0, .ref (zad G 47)), (1, .int e3_1), (2, .int x1), (3, .int (nI e3_3))] [] := by
      intro e3_1 e3_3 ew3 q3_0 q3_1 hT3
      rw [hkt3, d_X3_replies_36k] at hT3
      refine z_iload_n ok dX3_replies_71 1 rfl ?_
      exact z_iret ok hE dX3_replies_72 rfl ⟨congrArg Prod.fst hT3, congrArg Prod.snd hT3⟩
    have hl3 : ∀ (n3 : Nat) (v3_1 : Int32) (v3_3 : Nat) (vw3 : xW), x1.toNatClampNeg < v3_3 + n3 → v3_3 ≤ x1.toNatClampNeg → vw3 = w2 → d_X3_replies_36 x1 kt3 n3 v3_1 v3_3 vw3 = (r, u) → zZ k G N vw3 36 [(0, .ref (zad G 47)), (1, .int v3_1), (2, .int x1), (3, .int (nI v3_3))] [] := by
      intro n3
      induction n3 with
      | zero =>
        intro v3_1 v3_3 vw3 q3_0 q3_1 q3_2
        exact absurd q3_0 (by omega)
      | succ n3 ih3 =>
        intro v3_1 v3_3 vw3 q3_0 q3_1 q3_2 hT3
        rw [d_X3_replies_36] at hT3
        refine z_iload_n ok dX3_replies_36 3 rfl ?_
        refine z_iload_n ok dX3_replies_37 2 rfl ?_
        refine z_icmp_ge ok dX3_replies_38 71 (by decide) (fun c4 => ?_) (fun c4 => ?_)
        · rw [if_pos c4] at hT3
          refine z_locs [0, 1, 2, 3] (lv' := [(0, .ref (zad G 47)), (1, .int v3_1), (2, .int x1), (3, .int (nI v3_3))]) rfl ?_
          exact hk3 v3_1 v3_3 vw3 (by omega) (by first | assumption | omega) hT3
        · rw [if_neg c4] at hT3
          have := zclamp_lt x1
          have := zlt_cl (c := v3_3) (by assumption) (by omega)
          refine z_iload_n ok dX3_replies_41 1 rfl ?_
          refine z_aload_n ok dX3_replies_42 0 rfl ?_
          refine z_aload_n ok dX3_replies_43 0 rfl ?_
          refine z_aload_n ok dX3_replies_44 0 rfl ?_
          refine z_get_X3_st ok dX3_replies_45 hN zw_549 ?_
          refine z_sipush ok dX3_replies_48 (x := 144) (by decide) ?_
          refine z_mld48 ok dX3_replies_51 hN 144 rfl (by omega) ?_
          refine z_iload_n ok dX3_replies_52 3 rfl ?_
          refine z_callVi ok old dX3_replies_53 [.ref (zad G 47), .int v3_1] (c_X3_moveAt G N hN hg vw3 (xg vw3 11 144) (nI v3_3)) zy_X3_moveAt zw_722 47 (by omega) (zE_47 G vw3) rfl rfl rfl rfl rfl (by decide) (Nat.le_of_ble_eq_true rfl) ?_
          replace hT3 := zlet_open hT3
          obtain ⟨n5, hn5, hT3⟩ := hT3
          obtain ⟨ln5, en5⟩ := zcellx (x := (d_X3_moveAt vw3 (xg vw3 11 144) (nI v3_3))) (zmove_r (by assumption) (by assumption) (by assumption) (by assumption) (by assumption)) hn5
          rw [en5]
          refine z_callVi ok old dX3_replies_56 [.int v3_1] (c_X3_repliesTo G N hN hg vw3 n5 (by omega)) zy_X3_repliesTo zw_750 47 (by omega) (zE_47 G vw3) rfl rfl rfl rfl rfl (by decide) (Nat.le_of_ble_eq_true rfl) ?_
          replace hT3 := zlet_open hT3
          obtain ⟨p6, hp6, hT3⟩ := hT3
          rw [← hp6]
          refine z_iadd ok dX3_replies_59 ?_
          replace hT3 := zlet_open hT3
          obtain ⟨x7, hx7, hT3⟩ := hT3
          rw [← hx7]
          refine z_istore_n ok dX3_replies_60 (hI 1 (by decide)) (lv' := [(1, .int x7), (0, .ref (zad G 47)), (2, .int x1), (3, .int (nI v3_3))]) rfl ?_
          refine z_aload_n ok dX3_replies_61 1 rfl ?_
          refine z_callVv ok old dX3_replies_62 [] (c_X3_bringsBack G N hN hg p6.2 ) zy_X3_bringsBack zw_734 47 (by omega) (zE_47 G p6.2) rfl rfl rfl rfl rfl (by decide) (Nat.le_of_ble_eq_true rfl) ?_
          replace hT3 := zlet_open hT3
          obtain ⟨w8, hw8, hT3⟩ := hT3
          rw [← hw8]
          refine z_iinc ok dX3_replies_65 (hI 3 (by decide)) 3 rfl (y := (nI (v3_3 + 1))) (z_incn v3_3 1) (lv' := [(3, .int (nI (v3_3 + 1))), (1, .int x7), (0, .ref (zad G 47)), (2, .int x1)]) rfl ?_
          refine z_goto ok dX3_replies_68 36 (by decide) ?_
          refine z_locs [2, 1, 3, 0] (lv' := [(0, .ref (zad G 47)), (1, .int x7), (2, .int x1), (3, .int (nI (v3_3 + 1)))]) rfl ?_
          exact ih3 x7 (v3_3 + 1) w8 (by omega) (by omega) (zback_r (by assumption) (by assumption) (by assumption) (by assumption) (by assumption)) hT3
    exact hl3 (x1.toNatClampNeg + 1) 0 0 w2 (by omega) (by omega) rfl hT
  refine z_if_le ok dX3_replies_10 17 (by decide) (fun c9 => ?_) (fun c9 => ?_)
  · rw [if_pos c9] at hsx1
    refine z_aload_n ok dX3_replies_17 1 rfl ?_
    refine z_aload_n ok dX3_replies_18 1 rfl ?_
    refine z_get_X3_st ok dX3_replies_19 hN zw_549 ?_
    refine z_sipush ok dX3_replies_22 (x := 144) (by decide) ?_
    refine z_mld48 ok dX3_replies_25 hN 144 rfl (by omega) ?_
    refine z_callVi ok old dX3_replies_26 [] (c_X3_movesOf G N hN hg w (xg w 11 144)) zy_X3_movesOf zw_695 47 (by omega) (zE_47 G w) rfl rfl rfl rfl rfl (by decide) (Nat.le_of_ble_eq_true rfl) ?_
    rw [← hsx1] at hJx1
    refine z_locs [1, 0] (lv' := [(0, .ref (zad G 47)), (1, .int 0)]) rfl ?_
    exact hJx1
  · rw [if_neg c9] at hsx1
    refine z_iconst ok dX3_replies_13 (x := 0) (by decide) ?_
    refine z_goto ok dX3_replies_14 29 (by decide) ?_
    rw [← hsx1] at hJx1
    refine z_locs [1, 0] (lv' := [(0, .ref (zad G 47)), (1, .int 0)]) rfl ?_
    exact hJx1

def d_X3_best_40k  (e3_2 : Int32) (e3_3 : Int32) (e3_4 : Nat) (ew3 : xW) : Int32 × xW :=
  (e3_2, ew3)
def d_X3_best_40 (x1 : Int32) (kt3 : Int32 → Int32 → Nat → xW → (Int32 × xW)) : Nat → Int32 → Int32 → Nat → xW → Int32 × xW
  | 0, _, _, _, _ => default
  | n3 + 1, v3_2, v3_3, v3_4, vw3 => if x1 ≤ (nI v3_4) then (kt3 v3_2 v3_3 v3_4 vw3)
  else (zlet ((xg vw3 11 144)) fun x5 =>
  zlet (d_X3_moveAt vw3 x5 (nI v3_4)).toNatClampNeg fun n6 =>
  zlet (d_X3_goes vw3 (n6 / 36) (n6 % 36)) fun w7 =>
  zlet ((d_X3_goodFor w7 x5)) fun x8 =>
  zlet (d_X3_bringsBack w7) fun w9 =>
  zlet (if v3_2 < 0 then (1)
  else (if x8 ≤ v3_3 then (0)
  else (1)) : Int32) fun x10 =>
  zlet (if x10 = 0 then (v3_2)
  else ((nI n6)) : Int32) fun x11 =>
  zlet (if x10 = 0 then (v3_3)
  else (x8) : Int32) fun x12 =>
  d_X3_best_40 x1 kt3 n3 x11 x12 (v3_4 + 1) w9)
def d_X3_best (w : xW)  : Int32 × xW :=
  zlet (if (xg w 11 145) ≤ 0 then ((d_X3_movesOf w (xg w 11 144)))
  else (0) : Int32) fun x1 =>
  zlet (d_X3_laysAside w) fun w2 =>
  d_X3_best_40 x1 d_X3_best_40k (x1.toNatClampNeg + 1) (-4) 0 0 w2
set_option maxRecDepth 100000 in
set_option maxHeartbeats 4000000 in
theorem c_X3_best (G : zG) (N : Nat) (hN : 54 ≤ N) (hg : zGeo G N) (w : xW) : zM yX3_best cX3_best 9 (some .int) 7 163 G N [.ref (zad G 47)] w (some (d_X3_best w).1) (d_X3_best w).2 := by
  obtain ⟨r, u, hT⟩ := zpair (d_X3_best w)
  rw [hT]
  dsimp only
  unfold d_X3_best at hT
  refine zM_of zy_X3_best.2.2.2.2.2.2.2 hg ⟨Nat.le_of_ble_eq_true rfl, by decide⟩ rfl (fun k ok hE hI => ?_)
  have old := hE.old
  refine z_aload_n ok dX3_best_0 0 rfl ?_
  refine z_get_X3_st ok dX3_best_1 hN zw_549 ?_
  refine z_sipush ok dX3_best_4 (x := 145) (by decide) ?_
  refine z_mld48 ok dX3_best_7 hN 145 rfl (by omega) ?_
  replace hT := zlet_open hT
  obtain ⟨x1, hx1, hT⟩ := hT
  have hsx1 := hx1.symm
  have hJx1 : zZ k G N w 27 [(0, .ref (zad G 47))] [.int x1] := by
    refine z_istore_n ok dX3_best_27 (hI 1 (by decide)) (lv' := [(1, .int x1), (0, .ref (zad G 47))]) rfl ?_
    refine z_bipush ok dX3_best_28 (x := (-4)) (by decide) ?_
    refine z_istore_n ok dX3_best_30 (hI 2 (by decide)) (lv' := [(2, .int (-4)), (1, .int x1), (0, .ref (zad G 47))]) rfl ?_
    refine z_iconst ok dX3_best_31 (x := 0) (by decide) ?_
    refine z_istore_n ok dX3_best_32 (hI 3 (by decide)) (lv' := [(3, .int 0), (2, .int (-4)), (1, .int x1), (0, .ref (zad G 47))]) rfl ?_
    refine z_aload_n ok dX3_best_33 3 rfl ?_
    refine z_callVv ok old dX3_best_34 [] (c_X3_laysAside G N hN hg w ) zy_X3_laysAside zw_730 47 (by omega) (zE_47 G w) rfl rfl rfl rfl rfl (by decide) (Nat.le_of_ble_eq_true rfl) ?_
    replace hT := zlet_open hT
    obtain ⟨w2, hw2, hT⟩ := hT
    rw [← hw2]
    refine z_iconst ok dX3_best_37 (x := 0) (by decide) ?_
    refine z_istore ok dX3_best_38 (hI 4 (by decide)) (lv' := [(4, .int 0), (3, .int 0), (2, .int (-4)), (1, .int x1), (0, .ref (zad G 47))]) rfl ?_
    refine z_locs [4, 3, 2, 1, 0] (lv' := [(0, .ref (zad G 47)), (1, .int x1), (2, .int (-4)), (3, .int 0), (4, .int 0)]) rfl ?_
    obtain ⟨kt3, hkt3⟩ : ∃ z, z = d_X3_best_40k := ⟨_, rfl⟩
    rw [← hkt3] at hT
    have hk3 : ∀ (e3_2 : Int32) (e3_3 : Int32) (e3_4 : Nat) (ew3 : xW), e3_4 ≤ x1.toNatClampNeg → ew3 = w2 → kt3 e3_2 e3_3 e3_4 ew3 = (r, u) → zZ k G N ew3 139 [(0, .ref (zad G 47)), (1, .int x1), (2, .int e3_2), (3, .int e3_3), (4, .int (nI e3_4))] [] := by
      intro e3_2 e3_3 e3_4 ew3 q3_0 q3_1 hT3
      rw [hkt3, d_X3_best_40k] at hT3
      refine z_iload_n ok dX3_best_139 2 rfl ?_
      exact z_iret ok hE dX3_best_140 rfl ⟨congrArg Prod.fst hT3, congrArg Prod.snd hT3⟩
    have hl3 : ∀ (n3 : Nat) (v3_2 : Int32) (v3_3 : Int32) (v3_4 : Nat) (vw3 : xW), x1.toNatClampNeg < v3_4 + n3 → v3_4 ≤ x1.toNatClampNeg → vw3 = w2 → d_X3_best_40 x1 kt3 n3 v3_2 v3_3 v3_4 vw3 = (r, u) → zZ k G N vw3 40 [(0, .ref (zad G 47)), (1, .int x1), (2, .int v3_2), (3, .int v3_3), (4, .int (nI v3_4))] [] := by
      intro n3
      induction n3 with
      | zero =>
        intro v3_2 v3_3 v3_4 vw3 q3_0 q3_1 q3_2
        exact absurd q3_0 (by omega)
      | succ n3 ih3 =>
        intro v3_2 v3_3 v3_4 vw3 q3_0 q3_1 q3_2 hT3
        rw [d_X3_best_40] at hT3
        refine z_iload ok dX3_best_40 4 rfl ?_
        refine z_iload_n ok dX3_best_42 1 rfl ?_
        refine z_icmp_ge ok dX3_best_43 139 (by decide) (fun c4 => ?_) (fun c4 => ?_)
        · rw [if_pos c4] at hT3
          refine z_locs [0, 1, 2, 3, 4] (lv' := [(0, .ref (zad G 47)), (1, .int x1), (2, .int v3_2), (3, .int v3_3), (4, .int (nI v3_4))]) rfl ?_
          exact hk3 v3_2 v3_3 v3_4 vw3 (by omega) (by first | assumption | omega) hT3
        · rw [if_neg c4] at hT3
          have := zclamp_lt x1
          have := zlt_cl (c := v3_4) (by assumption) (by omega)
          refine z_aload_n ok dX3_best_46 0 rfl ?_
          refine z_get_X3_st ok dX3_best_47 hN zw_549 ?_
          refine z_sipush ok dX3_best_50 (x := 144) (by decide) ?_
          refine z_mld48 ok dX3_best_53 hN 144 rfl (by omega) ?_
          replace hT3 := zlet_open hT3
          obtain ⟨x5, hx5, hT3⟩ := hT3
          rw [← hx5]
          refine z_istore ok dX3_best_54 (hI 5 (by decide)) (lv' := [(5, .int x5), (0, .ref (zad G 47)), (1, .int x1), (2, .int v3_2), (3, .int v3_3), (4, .int (nI v3_4))]) rfl ?_
          refine z_aload_n ok dX3_best_56 1 rfl ?_
          refine z_iload ok dX3_best_57 0 rfl ?_
          refine z_iload ok dX3_best_59 5 rfl ?_
          refine z_callVi ok old dX3_best_61 [] (c_X3_moveAt G N hN hg vw3 x5 (nI v3_4)) zy_X3_moveAt zw_722 47 (by omega) (zE_47 G vw3) rfl rfl rfl rfl rfl (by decide) (Nat.le_of_ble_eq_true rfl) ?_
          replace hT3 := zlet_open hT3
          obtain ⟨n6, hn6, hT3⟩ := hT3
          obtain ⟨ln6, en6⟩ := zcellx (x := (d_X3_moveAt vw3 x5 (nI v3_4))) (zmove_b (by assumption) (by assumption) (by assumption) (by assumption) (by assumption) (by assumption)) hn6
          rw [en6]
          refine z_istore ok dX3_best_64 (hI 6 (by decide)) (lv' := [(6, .int (nI n6)), (5, .int x5), (0, .ref (zad G 47)), (1, .int x1), (2, .int v3_2), (3, .int v3_3), (4, .int (nI v3_4))]) rfl ?_
          refine z_aload_n ok dX3_best_66 2 rfl ?_
          refine z_iload ok dX3_best_67 0 rfl ?_
          refine z_bipush ok dX3_best_69 (x := 36) (by decide) ?_
          refine z_idiv_n ok dX3_best_71 n6 36 rfl rfl (by omega) (by omega) (by omega) ?_
          refine z_iload ok dX3_best_72 0 rfl ?_
          refine z_bipush ok dX3_best_74 (x := 36) (by decide) ?_
          refine z_irem_n ok dX3_best_76 n6 36 rfl rfl (by omega) (by omega) (by omega) ?_
          refine z_callVv ok old dX3_best_77 [] (c_X3_goes G N hN hg vw3 (n6 / 36) (by omega) (n6 % 36) (by omega)) zy_X3_goes zw_676 47 (by omega) (zE_47 G vw3) rfl rfl rfl rfl rfl (by decide) (Nat.le_of_ble_eq_true rfl) ?_
          replace hT3 := zlet_open hT3
          obtain ⟨w7, hw7, hT3⟩ := hT3
          rw [← hw7]
          refine z_aload_n ok dX3_best_80 2 rfl ?_
          refine z_iload ok dX3_best_81 1 rfl ?_
          refine z_callVi ok old dX3_best_83 [] (c_X3_goodFor G N hN hg w7 x5) zy_X3_goodFor zw_758 47 (by omega) (zE_47 G w7) rfl rfl rfl rfl rfl (by decide) (Nat.le_of_ble_eq_true rfl) ?_
          replace hT3 := zlet_open hT3
          obtain ⟨x8, hx8, hT3⟩ := hT3
          rw [← hx8]
          refine z_istore ok dX3_best_86 (hI 7 (by decide)) (lv' := [(7, .int x8), (6, .int (nI n6)), (5, .int x5), (0, .ref (zad G 47)), (1, .int x1), (2, .int v3_2), (3, .int v3_3), (4, .int (nI v3_4))]) rfl ?_
          refine z_aload_n ok dX3_best_88 3 rfl ?_
          refine z_callVv ok old dX3_best_89 [] (c_X3_bringsBack G N hN hg w7 ) zy_X3_bringsBack zw_734 47 (by omega) (zE_47 G w7) rfl rfl rfl rfl rfl (by decide) (Nat.le_of_ble_eq_true rfl) ?_
          replace hT3 := zlet_open hT3
          obtain ⟨w9, hw9, hT3⟩ := hT3
          rw [← hw9]
          refine z_iload_n ok dX3_best_92 5 rfl ?_
          replace hT3 := zlet_open hT3
          obtain ⟨x10, hx10, hT3⟩ := hT3
          have hsx10 := hx10.symm
          have hJx10 : zZ k G N w9 107 [(0, .ref (zad G 47)), (1, .int x1), (2, .int v3_2), (3, .int v3_3), (4, .int (nI v3_4)), (5, .int x5), (6, .int (nI n6)), (7, .int x8)] [.int x10] := by
            refine z_istore ok dX3_best_107 (hI 8 (by decide)) (lv' := [(8, .int x10), (0, .ref (zad G 47)), (1, .int x1), (2, .int v3_2), (3, .int v3_3), (4, .int (nI v3_4)), (5, .int x5), (6, .int (nI n6)), (7, .int x8)]) rfl ?_
            refine z_iload ok dX3_best_109 0 rfl ?_
            replace hT3 := zlet_open hT3
            obtain ⟨x11, hx11, hT3⟩ := hT3
            have hsx11 := hx11.symm
            have hJx11 : zZ k G N w9 120 [(0, .ref (zad G 47)), (1, .int x1), (2, .int v3_2), (3, .int v3_3), (4, .int (nI v3_4)), (5, .int x5), (6, .int (nI n6)), (7, .int x8), (8, .int x10)] [.int x11] := by
              refine z_istore_n ok dX3_best_120 (hI 2 (by decide)) (lv' := [(2, .int x11), (0, .ref (zad G 47)), (1, .int x1), (3, .int v3_3), (4, .int (nI v3_4)), (5, .int x5), (6, .int (nI n6)), (7, .int x8), (8, .int x10)]) rfl ?_
              refine z_iload ok dX3_best_121 8 rfl ?_
              replace hT3 := zlet_open hT3
              obtain ⟨x12, hx12, hT3⟩ := hT3
              have hsx12 := hx12.symm
              have hJx12 : zZ k G N w9 132 [(0, .ref (zad G 47)), (1, .int x1), (2, .int x11), (3, .int v3_3), (4, .int (nI v3_4)), (5, .int x5), (6, .int (nI n6)), (7, .int x8), (8, .int x10)] [.int x12] := by
                refine z_istore_n ok dX3_best_132 (hI 3 (by decide)) (lv' := [(3, .int x12), (0, .ref (zad G 47)), (1, .int x1), (2, .int x11), (4, .int (nI v3_4)), (5, .int x5), (6, .int (nI n6)), (7, .int x8), (8, .int x10)]) rfl ?_
                refine z_iinc ok dX3_best_133 (hI 4 (by decide)) 4 rfl (y := (nI (v3_4 + 1))) (z_incn v3_4 1) (lv' := [(4, .int (nI (v3_4 + 1))), (3, .int x12), (0, .ref (zad G 47)), (1, .int x1), (2, .int x11), (5, .int x5), (6, .int (nI n6)), (7, .int x8), (8, .int x10)]) rfl ?_
                refine z_goto ok dX3_best_136 40 (by decide) ?_
                refine z_locs [2, 3, 4, 1, 0] (lv' := [(0, .ref (zad G 47)), (1, .int x1), (2, .int x11), (3, .int x12), (4, .int (nI (v3_4 + 1)))]) rfl ?_
                exact ih3 x11 x12 (v3_4 + 1) w9 (by omega) (by omega) (zback_b (by assumption) (by assumption) (by assumption) (by assumption) (by assumption)) hT3
              refine z_if_eq ok dX3_best_123 131 (by decide) (fun c13 => ?_) (fun c13 => ?_)
              · rw [if_pos c13] at hsx12
                refine z_iload_n ok dX3_best_131 3 rfl ?_
                rw [← hsx12] at hJx12
                refine z_locs [1, 2, 0, 3, 4, 5, 6, 7, 8] (lv' := [(0, .ref (zad G 47)), (1, .int x1), (2, .int x11), (3, .int v3_3), (4, .int (nI v3_4)), (5, .int x5), (6, .int (nI n6)), (7, .int x8), (8, .int x10)]) rfl ?_
                exact hJx12
              · rw [if_neg c13] at hsx12
                refine z_iload ok dX3_best_126 7 rfl ?_
                refine z_goto ok dX3_best_128 132 (by decide) ?_
                rw [← hsx12] at hJx12
                refine z_locs [1, 2, 0, 3, 4, 5, 6, 7, 8] (lv' := [(0, .ref (zad G 47)), (1, .int x1), (2, .int x11), (3, .int v3_3), (4, .int (nI v3_4)), (5, .int x5), (6, .int (nI n6)), (7, .int x8), (8, .int x10)]) rfl ?_
                exact hJx12
            refine z_if_eq ok dX3_best_111 119 (by decide) (fun c14 => ?_) (fun c14 => ?_)
            · rw [if_pos c14] at hsx11
              refine z_iload_n ok dX3_best_119 3 rfl ?_
              rw [← hsx11] at hJx11
              refine z_locs [1, 2, 3, 4, 5, 6, 7, 8, 0] (lv' := [(0, .ref (zad G 47)), (1, .int x1), (2, .int v3_2), (3, .int v3_3), (4, .int (nI v3_4)), (5, .int x5), (6, .int (nI n6)), (7, .int x8), (8, .int x10)]) rfl ?_
              exact hJx11
            · rw [if_neg c14] at hsx11
              refine z_iload ok dX3_best_114 7 rfl ?_
              refine z_goto ok dX3_best_116 120 (by decide) ?_
              rw [← hsx11] at hJx11
              refine z_locs [1, 2, 3, 4, 5, 6, 7, 8, 0] (lv' := [(0, .ref (zad G 47)), (1, .int x1), (2, .int v3_2), (3, .int v3_3), (4, .int (nI v3_4)), (5, .int x5), (6, .int (nI n6)), (7, .int x8), (8, .int x10)]) rfl ?_
              exact hJx11
          refine z_if_lt ok dX3_best_93 102 (by decide) (fun c15 => ?_) (fun c15 => ?_)
          · rw [if_pos c15] at hsx10
            refine z_iconst ok dX3_best_102 (x := 1) (by decide) ?_
            refine z_goto ok dX3_best_103 107 (by decide) ?_
            rw [← hsx10] at hJx10
            refine z_locs [3, 4, 5, 6, 7, 2, 1, 0] (lv' := [(0, .ref (zad G 47)), (1, .int x1), (2, .int v3_2), (3, .int v3_3), (4, .int (nI v3_4)), (5, .int x5), (6, .int (nI n6)), (7, .int x8)]) rfl ?_
            exact hJx10
          · rw [if_neg c15] at hsx10
            refine z_iload ok dX3_best_96 0 rfl ?_
            refine z_iload_n ok dX3_best_98 6 rfl ?_
            refine z_icmp_le ok dX3_best_99 106 (by decide) (fun c16 => ?_) (fun c16 => ?_)
            · rw [if_pos c16] at hsx10
              refine z_iconst ok dX3_best_106 (x := 0) (by decide) ?_
              rw [← hsx10] at hJx10
              refine z_locs [3, 4, 5, 6, 7, 2, 1, 0] (lv' := [(0, .ref (zad G 47)), (1, .int x1), (2, .int v3_2), (3, .int v3_3), (4, .int (nI v3_4)), (5, .int x5), (6, .int (nI n6)), (7, .int x8)]) rfl ?_
              exact hJx10
            · rw [if_neg c16] at hsx10
              refine z_iconst ok dX3_best_102 (x := 1) (by decide) ?_
              refine z_goto ok dX3_best_103 107 (by decide) ?_
              rw [← hsx10] at hJx10
              refine z_locs [3, 4, 5, 6, 7, 2, 1, 0] (lv' := [(0, .ref (zad G 47)), (1, .int x1), (2, .int v3_2), (3, .int v3_3), (4, .int (nI v3_4)), (5, .int x5), (6, .int (nI n6)), (7, .int x8)]) rfl ?_
              exact hJx10
    exact hl3 (x1.toNatClampNeg + 1) (-4) 0 0 w2 (by omega) (by omega) rfl hT
  refine z_if_le ok dX3_best_8 15 (by decide) (fun c17 => ?_) (fun c17 => ?_)
  · rw [if_pos c17] at hsx1
    refine z_aload_n ok dX3_best_15 0 rfl ?_
    refine z_aload_n ok dX3_best_16 0 rfl ?_
    refine z_get_X3_st ok dX3_best_17 hN zw_549 ?_
    refine z_sipush ok dX3_best_20 (x := 144) (by decide) ?_
    refine z_mld48 ok dX3_best_23 hN 144 rfl (by omega) ?_
    refine z_callVi ok old dX3_best_24 [] (c_X3_movesOf G N hN hg w (xg w 11 144)) zy_X3_movesOf zw_695 47 (by omega) (zE_47 G w) rfl rfl rfl rfl rfl (by decide) (Nat.le_of_ble_eq_true rfl) ?_
    rw [← hsx1] at hJx1
    refine z_locs [0] (lv' := [(0, .ref (zad G 47))]) rfl ?_
    exact hJx1
  · rw [if_neg c17] at hsx1
    refine z_iconst ok dX3_best_11 (x := 0) (by decide) ?_
    refine z_goto ok dX3_best_12 27 (by decide) ?_
    rw [← hsx1] at hJx1
    refine z_locs [0] (lv' := [(0, .ref (zad G 47))]) rfl ?_
    exact hJx1
