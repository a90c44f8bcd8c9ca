theorem zrange {v a b : Int32} {n : Nat} (ha : 0 ≤ a.toInt) (hb : b.toInt < n) (hn : n < 2147483648) (h1 : ¬ v < a) (h2 : ¬ b < v) : v = nI v.toNatClampNeg ∧ v.toNatClampNeg < n := zidxN hn (fun q => h1 (Int32.lt_iff_toInt_lt.mpr (by
  have := Int32.lt_iff_toInt_lt.mp q
  have e : (0 : Int32).toInt = 0 := rfl
  omega))) (fun q => h2 (Int32.lt_iff_toInt_lt.mpr (by
  have := Int32.le_iff_toInt_le.mp q
  rw [nI_toInt hn] at this
  omega)))
theorem zp4 {x : Int32} (h : ∃ p, p ≤ 4 ∧ x = nI p) : x = nI x.toNatClampNeg ∧ x.toNatClampNeg < 5 := by
  obtain ⟨p, h1, rfl⟩ := h
  rw [zcl (by omega)]
  exact ⟨rfl, by omega⟩
theorem zp4_keep {w : xW} {v j : Nat} {x : Int32} (hv : ¬ (17 = v ∧ 0 = j)) (h : ∃ p, p ≤ 4 ∧ xg w 17 0 = nI p) : ∃ p, p ≤ 4 ∧ xg (xs w v j x) 17 0 = nI p := by
  rw [xg_ne w x hv]
  exact h
theorem zundo0 {w w1 : xW} (h : ∃ p, p ≤ 5 ∧ xg w 17 0 = nI p) (h0 : ¬ xg w 17 0 = 0) (hw : w1 = xs w 17 0 (xg w 17 0 - 1)) : ∃ p, p ≤ 4 ∧ xg w1 17 0 = nI p := by
  obtain ⟨p, h1, e⟩ := h
  rw [hw, xg_same, e]
  have : p ≠ 0 := fun z => h0 (by rw [e, z]; rfl)
  exact ⟨p - 1, by omega, by rw [show (1 : Int32) = nI 1 from rfl, pk_sub (by omega)]⟩
theorem zidx_len {x : Int32} (h : ∃ n, n ≤ 80 ∧ x = nI n) (h2 : ¬ x = 80) : x = nI x.toNatClampNeg ∧ x.toNatClampNeg < 80 := by
  obtain ⟨n, h1, rfl⟩ := h
  rw [zcl (by omega)]
  have : n ≠ 80 := fun z => h2 (by rw [z]; rfl)
  exact ⟨rfl, by omega⟩
def d_X3_in (w : xW) (v : Int32) (least : Int32) (most : Int32) : Int32 :=
  if v < least then (0)
  else (if most < v then (0)
  else (1))
theorem zin_ok {w : xW} {v a b : Int32} (h : ¬ d_X3_in w v a b = 0) : ¬ v < a ∧ ¬ b < v := by
  unfold d_X3_in at h
  by_cases h1 : v < a
  · rw [if_pos h1] at h; exact absurd rfl h
  · by_cases h2 : b < v
    · rw [if_neg h1, if_pos h2] at h; exact absurd rfl h
    · exact ⟨h1, h2⟩
theorem zin12 {w : xW} {v : Int32} (h : ¬ d_X3_in w v 10 12 = 0) : v = nI v.toNatClampNeg ∧ v.toNatClampNeg < 13 := zrange (by decide) (by decide) (by decide) (zin_ok h).1 (zin_ok h).2
theorem zin26 {w : xW} {v : Int32} (h : ¬ d_X3_in w v 20 26 = 0) : v = nI v.toNatClampNeg ∧ v.toNatClampNeg < 27 := zrange (by decide) (by decide) (by decide) (zin_ok h).1 (zin_ok h).2
theorem zin0_12 {w : xW} {v : Int32} (h : ¬ d_X3_in w v 0 12 = 0) : v = nI v.toNatClampNeg ∧ v.toNatClampNeg < 13 := zrange (by decide) (by decide) (by decide) (zin_ok h).1 (zin_ok h).2
theorem zin_nar (w : xW) (v a b : Int32) : narrow .boolean (.int (d_X3_in w v a b)) = .int (d_X3_in w v a b) := by
  unfold d_X3_in
  by_cases h1 : v < a
  · rw [if_pos h1]; rfl
  · by_cases h2 : b < v
    · rw [if_neg h1, if_pos h2]; rfl
    · rw [if_neg h1, if_neg h2]; rfl

set_option maxRecDepth 100000 in
set_option maxHeartbeats 4000000 in
theorem c_X3_in (G : zG) (N : Nat) (hN : 54 ≤ N) (hg : zGeo G N) (w : xW) (v : Int32) (least : Int32) (most : Int32) : zM yX3_in cX3_in 3 (some .boolean) 0 0 G N [.int v, .int least, .int most] w (some (d_X3_in w v least most)) w := by
  generalize hT : d_X3_in w v least most = r
  unfold d_X3_in at hT
  refine zM_of zy_X3_in.2.2.2.2.2.2 hg ⟨Nat.le_of_ble_eq_true rfl, by decide⟩ rfl (fun k ok hE hI => ?_)
  have old := hE.old
  refine z_iload_n ok dX3_in_0 0 rfl ?_
  refine z_iload_n ok dX3_in_1 1 rfl ?_
  refine z_icmp_lt ok dX3_in_2 14 (by decide) (fun c1 => ?_) (fun c1 => ?_)
  · rw [if_pos c1] at hT
    refine z_iconst ok dX3_in_14 (x := 0) (by decide) ?_
    exact z_iret ok hE dX3_in_15 rfl ⟨hT, rfl⟩
  · rw [if_neg c1] at hT
    refine z_iload_n ok dX3_in_5 0 rfl ?_
    refine z_iload_n ok dX3_in_6 2 rfl ?_
    refine z_icmp_gt ok dX3_in_7 14 (by decide) (fun c2 => ?_) (fun c2 => ?_)
    · rw [if_pos c2] at hT
      refine z_iconst ok dX3_in_14 (x := 0) (by decide) ?_
      exact z_iret ok hE dX3_in_15 rfl ⟨hT, rfl⟩
    · rw [if_neg c2] at hT
      refine z_iconst ok dX3_in_10 (x := 1) (by decide) ?_
      refine z_goto ok dX3_in_11 15 (by decide) ?_
      exact z_iret ok hE dX3_in_15 rfl ⟨hT, rfl⟩

def d_X3_size (w : xW) (v : Int32) : Int32 :=
  if 0 ≤ v then (v)
  else ((-v))
set_option maxRecDepth 100000 in
set_option maxHeartbeats 4000000 in
theorem c_X3_size (G : zG) (N : Nat) (hN : 54 ≤ N) (hg : zGeo G N) (w : xW) (v : Int32) : zM yX3_size cX3_size 1 (some .int) 0 0 G N [.int v] w (some (d_X3_size w v)) w := by
  generalize hT : d_X3_size w v = r
  unfold d_X3_size at hT
  refine zM_of zy_X3_size.2.2.2.2.2.2 hg ⟨Nat.le_of_ble_eq_true rfl, by decide⟩ rfl (fun k ok hE hI => ?_)
  have old := hE.old
  refine z_iload_n ok dX3_size_0 0 rfl ?_
  refine z_if_ge ok dX3_size_1 9 (by decide) (fun c1 => ?_) (fun c1 => ?_)
  · rw [if_pos c1] at hT
    refine z_iload_n ok dX3_size_9 0 rfl ?_
    exact z_iret ok hE dX3_size_10 rfl ⟨hT, rfl⟩
  · rw [if_neg c1] at hT
    refine z_iload_n ok dX3_size_4 0 rfl ?_
    refine z_ineg ok dX3_size_5 ?_
    refine z_goto ok dX3_size_6 10 (by decide) ?_
    exact z_iret ok hE dX3_size_10 rfl ⟨hT, rfl⟩

def d_X3_lesser (w : xW) (a : Int32) (b : Int32) : Int32 :=
  if b ≤ a then (b)
  else (a)
set_option maxRecDepth 100000 in
set_option maxHeartbeats 4000000 in
theorem c_X3_lesser (G : zG) (N : Nat) (hN : 54 ≤ N) (hg : zGeo G N) (w : xW) (a : Int32) (b : Int32) : zM yX3_lesser cX3_lesser 2 (some .int) 0 0 G N [.int a, .int b] w (some (d_X3_lesser w a b)) w := by
  generalize hT : d_X3_lesser w a b = r
  unfold d_X3_lesser at hT
  refine zM_of zy_X3_lesser.2.2.2.2.2.2 hg ⟨Nat.le_of_ble_eq_true rfl, by decide⟩ rfl (fun k ok hE hI => ?_)
  have old := hE.old
  refine z_iload_n ok dX3_lesser_0 0 rfl ?_
  refine z_iload_n ok dX3_lesser_1 1 rfl ?_
  refine z_icmp_ge ok dX3_lesser_2 9 (by decide) (fun c1 => ?_) (fun c1 => ?_)
  · rw [if_pos c1] at hT
    refine z_iload_n ok dX3_lesser_9 1 rfl ?_
    exact z_iret ok hE dX3_lesser_10 rfl ⟨hT, rfl⟩
  · rw [if_neg c1] at hT
    refine z_iload_n ok dX3_lesser_5 0 rfl ?_
    refine z_goto ok dX3_lesser_6 10 (by decide) ?_
    exact z_iret ok hE dX3_lesser_10 rfl ⟨hT, rfl⟩

def d_X3_isCell (w : xW) (c : Int32) : Int32 :=
  (d_X3_in w c 0 35)
theorem zisCell3 {w : xW} {c : Int32} (h : ¬ d_X3_isCell w c = 0) : c = nI c.toNatClampNeg ∧ c.toNatClampNeg < 36 := zrange (by decide) (by decide) (by decide) (zin_ok h).1 (zin_ok h).2

set_option maxRecDepth 100000 in
set_option maxHeartbeats 4000000 in
theorem c_X3_isCell (G : zG) (N : Nat) (hN : 54 ≤ N) (hg : zGeo G N) (w : xW) (c : Int32) : zM yX3_isCell cX3_isCell 1 (some .boolean) 1 22 G N [.int c] w (some (d_X3_isCell w c)) w := by
  generalize hT : d_X3_isCell w c = r
  unfold d_X3_isCell at hT
  refine zM_of zy_X3_isCell.2.2.2.2.2.2 hg ⟨Nat.le_of_ble_eq_true rfl, by decide⟩ rfl (fun k ok hE hI => ?_)
  have old := hE.old
  refine z_iload_n ok dX3_isCell_0 0 rfl ?_
  refine z_iconst ok dX3_isCell_1 (x := 0) (by decide) ?_
  refine z_bipush ok dX3_isCell_2 (x := 35) (by decide) ?_
  refine z_callSi ok old dX3_isCell_4 [] (c_X3_in G N hN hg w c 0 35) zy_X3_in zw_608 rfl rfl (by decide) (Nat.le_of_ble_eq_true rfl) ?_
  exact z_iret ok hE dX3_isCell_7 (zin_nar _ _ _ _) ⟨hT, rfl⟩

def d_X3_isSide (w : xW) (s : Int32) : Int32 :=
  (d_X3_in w s 0 1)
set_option maxRecDepth 100000 in
set_option maxHeartbeats 4000000 in
theorem c_X3_isSide (G : zG) (N : Nat) (hN : 54 ≤ N) (hg : zGeo G N) (w : xW) (s : Int32) : zM yX3_isSide cX3_isSide 1 (some .boolean) 1 22 G N [.int s] w (some (d_X3_isSide w s)) w := by
  generalize hT : d_X3_isSide w s = r
  unfold d_X3_isSide at hT
  refine zM_of zy_X3_isSide.2.2.2.2.2.2 hg ⟨Nat.le_of_ble_eq_true rfl, by decide⟩ rfl (fun k ok hE hI => ?_)
  have old := hE.old
  refine z_iload_n ok dX3_isSide_0 0 rfl ?_
  refine z_iconst ok dX3_isSide_1 (x := 0) (by decide) ?_
  refine z_iconst ok dX3_isSide_2 (x := 1) (by decide) ?_
  refine z_callSi ok old dX3_isSide_3 [] (c_X3_in G N hN hg w s 0 1) zy_X3_in zw_608 rfl rfl (by decide) (Nat.le_of_ble_eq_true rfl) ?_
  exact z_iret ok hE dX3_isSide_6 (zin_nar _ _ _ _) ⟨hT, rfl⟩

def d_X3_records_51k  (e2_1 : Nat) (ew2 : xW) : xW :=
  zlet (xs ew2 17 0 ((xg ew2 17 0) + 1)) fun w3 =>
  w3
def d_X3_records_51  (kt2 : Nat → xW → xW) : Nat → Nat → xW → xW
  | 0, _, _ => default
  | n2 + 1, v2_1, vw2 => if 159 ≤ v2_1 then (kt2 v2_1 vw2)
  else (zlet (xg vw2 17 0).toNatClampNeg fun n5 =>
  zlet (xs vw2 12 ((159 * n5) + v2_1) (xg vw2 11 v2_1)) fun w6 =>
  d_X3_records_51  kt2 n2 (v2_1 + 1) w6)
def d_X3_records_10k  (e8_1 : Nat) (ew8 : xW) : xW :=
  zlet (xs ew8 17 0 ((xg ew8 17 0) - 1)) fun w9 =>
  w9
def d_X3_records_10  (kt8 : Nat → xW → xW) : Nat → Nat → xW → xW
  | 0, _, _ => default
  | n8 + 1, v8_1, vw8 => if 636 ≤ v8_1 then (kt8 v8_1 vw8)
  else (zlet (xs vw8 12 v8_1 (xg vw8 12 (v8_1 + 159))) fun w11 =>
  d_X3_records_10  kt8 n8 (v8_1 + 1) w11)
def d_X3_records (w : xW)  : xW :=
  zlet (if (xg w 17 0) = 5 then (d_X3_records_10  d_X3_records_10k 637 0 w)
  else (w) : xW) fun w1 =>
  d_X3_records_51  d_X3_records_51k 160 0 w1
/-- the past moved down by one state, from place k on -/
def xsh (w : xW) (k : Nat) : xW := (fun a b => if a = 12 ∧ k ≤ b ∧ b < 636 then xg w 12 (b + 159) else xg w a b, w.2)
theorem xg_xsh (w : xW) (k a b : Nat) : xg (xsh w k) a b = if a = 12 ∧ k ≤ b ∧ b < 636 then xg w 12 (b + 159) else xg w a b := rfl
theorem lp_X3_records_10 (kt : Nat → xW → xW) : ∀ (n k : Nat) (w : xW), 636 < k + n → k ≤ 636 → d_X3_records_10 kt n k w = kt 636 (xsh w k) := by
  intro n
  induction n with
  | zero => intro k w h1 h2; omega
  | succ n ih =>
    intro k w h1 h2
    rw [d_X3_records_10]
    by_cases h : 636 ≤ k
    · have e : k = 636 := by omega
      subst e
      rw [if_pos h]
      have : xsh w 636 = w := by
        unfold xsh
        have : (fun a b => if a = 12 ∧ 636 ≤ b ∧ b < 636 then xg w 12 (b + 159) else xg w a b) = w.1 := by
          funext a b
          rw [if_neg (by omega)]
          rfl
        rw [this]
      rw [this]
    · rw [if_neg h]
      simp only [zlet]
      rw [ih (k + 1) _ (by omega) (by omega)]
      congr 1
      unfold xsh
      refine Prod.ext ?_ rfl
      funext a b
      simp only [xg_xs]
      by_cases ha : a = 12
      · subst ha
        by_cases hb : b = k
        · subst hb
          rw [if_neg (by omega), if_pos (by omega), if_pos (by omega)]
        · by_cases hb2 : k + 1 ≤ b ∧ b < 636
          · rw [if_pos ⟨rfl, hb2⟩, if_neg (by omega), if_pos (by omega)]
          · rw [if_neg (by omega), if_neg (by omega), if_neg (by omega)]
      · rw [if_neg (by omega), if_neg (by omega), if_neg (by omega)]
theorem zrec49 {w w1 : xW} (h : ∃ p, p ≤ 5 ∧ xg w 17 0 = nI p) (hw : w1 = if xg w 17 0 = 5 then d_X3_records_10 d_X3_records_10k 637 0 w else w) : ∃ p, p ≤ 4 ∧ xg w1 17 0 = nI p := by
  obtain ⟨p, h1, e⟩ := h
  by_cases h5 : xg w 17 0 = 5
  · rw [if_pos h5, lp_X3_records_10 _ _ _ _ (by omega) (by omega)] at hw
    rw [hw, d_X3_records_10k]
    unfold zlet
    rw [xg_same]
    refine ⟨4, by omega, ?_⟩
    have : xg (xsh w 0) 17 0 = xg w 17 0 := by
      rw [xg_xsh, if_neg (by omega)]
    rw [this, h5]
    decide
  · rw [if_neg h5] at hw
    rw [hw]
    have : p ≠ 5 := fun z => h5 (by rw [e, z]; rfl)
    exact ⟨p, by omega, e⟩

set_option maxRecDepth 100000 in
set_option maxHeartbeats 4000000 in
theorem c_X3_records (G : zG) (N : Nat) (hN : 54 ≤ N) (hg : zGeo G N) (w : xW) (h_p : (∃ p, p ≤ 5 ∧ xg w 17 0 = nI p)) : zM yX3_records cX3_records 2 none 0 0 G N [.ref (zad G 47)] w none (d_X3_records w) := by
  generalize hT : d_X3_records w = u
  unfold d_X3_records at hT
  refine zM_of zy_X3_records.2.2.2.2.2.2.2 hg ⟨Nat.le_of_ble_eq_true rfl, by decide⟩ rfl (fun k ok hE hI => ?_)
  have old := hE.old
  refine z_aload_n ok dX3_records_0 0 rfl ?_
  refine z_get_X3_pasts ok dX3_records_1 hN zw_552 ?_
  refine z_iconst ok dX3_records_4 (x := 5) (by decide) ?_
  replace hT := zlet_open hT
  obtain ⟨w1, hw1, hT⟩ := hT
  have hsw1 := hw1.symm
  have hJw1 : zZ k G N w1 49 [(0, .ref (zad G 47))] [] := by
    refine z_iconst ok dX3_records_49 (x := 0) (by decide) ?_
    refine z_istore_n ok dX3_records_50 (hI 1 (by decide)) (lv' := [(1, .int 0), (0, .ref (zad G 47))]) rfl ?_
    refine z_locs [1, 0] (lv' := [(0, .ref (zad G 47)), (1, .int 0)]) rfl ?_
    obtain ⟨kt2, hkt2⟩ : ∃ z, z = d_X3_records_51k := ⟨_, rfl⟩
    rw [← hkt2] at hT
    have hk2 : ∀ (e2_1 : Nat) (ew2 : xW), e2_1 ≤ 159 → (∃ p, p ≤ 4 ∧ xg ew2 17 0 = nI p) → kt2 e2_1 ew2 = u → zZ k G N ew2 85 [(0, .ref (zad G 47)), (1, .int (nI e2_1))] [] := by
      intro e2_1 ew2 q2_0 q2_1 hT2
      rw [hkt2, d_X3_records_51k] at hT2
      refine z_aload_n ok dX3_records_85 0 rfl ?_
      refine z_dup ok dX3_records_86 rfl ?_
      refine z_get_X3_pasts ok dX3_records_87 hN zw_552 ?_
      refine z_iconst ok dX3_records_90 (x := 1) (by decide) ?_
      refine z_iadd ok dX3_records_91 ?_
      refine z_put_X3_pasts ok dX3_records_92 hN zw_552 ?_
      replace hT2 := zlet_open hT2
      obtain ⟨w3, hw3, hT2⟩ := hT2
      rw [← hw3]
      exact z_vret ok hE dX3_records_95 hT2
    have hl2 : ∀ (n2 : Nat) (v2_1 : Nat) (vw2 : xW), 159 < v2_1 + n2 → v2_1 ≤ 159 → (∃ p, p ≤ 4 ∧ xg vw2 17 0 = nI p) → d_X3_records_51  kt2 n2 v2_1 vw2 = u → zZ k G N vw2 51 [(0, .ref (zad G 47)), (1, .int (nI v2_1))] [] := by
      intro n2
      induction n2 with
      | zero =>
        intro v2_1 vw2 q2_0 q2_1 q2_2
        exact absurd q2_0 (by omega)
      | succ n2 ih2 =>
        intro v2_1 vw2 q2_0 q2_1 q2_2 hT2
        rw [d_X3_records_51] at hT2
        refine z_iload_n ok dX3_records_51 1 rfl ?_
        refine z_sipush ok dX3_records_52 (x := 159) (by decide) ?_
        refine z_icmp_ge_n ok dX3_records_55 85 (by decide) v2_1 159 rfl rfl (by omega) (fun c4 => ?_) (fun c4 => ?_)
        · rw [if_pos c4] at hT2
          refine z_locs [0, 1] (lv' := [(0, .ref (zad G 47)), (1, .int (nI v2_1))]) rfl ?_
          exact hk2 v2_1 vw2 (by omega) (by first | assumption | omega) hT2
        · rw [if_neg c4] at hT2
          refine z_aload_n ok dX3_records_58 0 rfl ?_
          refine z_get_X3_past ok dX3_records_59 hN zw_550 ?_
          refine z_sipush ok dX3_records_62 (x := 159) (by decide) ?_
          refine z_aload_n ok dX3_records_65 0 rfl ?_
          refine z_get_X3_pasts ok dX3_records_66 hN zw_552 ?_
          replace hT2 := zlet_open hT2
          obtain ⟨n5, hn5, hT2⟩ := hT2
          obtain ⟨ln5, en5⟩ := zcellx (x := (xg vw2 17 0)) (zp4 (by assumption)) hn5
          rw [en5]
          refine z_imul_n ok dX3_records_69 159 n5 rfl rfl ?_
          refine z_iload_n ok dX3_records_70 1 rfl ?_
          refine z_iadd_n ok dX3_records_71 (159 * n5) v2_1 rfl rfl ?_
          refine z_aload_n ok dX3_records_72 0 rfl ?_
          refine z_get_X3_st ok dX3_records_73 hN zw_549 ?_
          refine z_iload_n ok dX3_records_76 1 rfl ?_
          refine z_mld48 ok dX3_records_77 hN v2_1 rfl (by omega) ?_
          refine z_mst49 ok dX3_records_78 hN ((159 * n5) + v2_1) rfl (by omega) ?_
          replace hT2 := zlet_open hT2
          obtain ⟨w6, hw6, hT2⟩ := hT2
          rw [← hw6]
          refine z_iinc ok dX3_records_79 (hI 1 (by decide)) 1 rfl (y := (nI (v2_1 + 1))) (z_incn v2_1 1) (lv' := [(1, .int (nI (v2_1 + 1))), (0, .ref (zad G 47))]) rfl ?_
          refine z_goto ok dX3_records_82 51 (by decide) ?_
          refine z_locs [1, 0] (lv' := [(0, .ref (zad G 47)), (1, .int (nI (v2_1 + 1)))]) rfl ?_
          exact ih2 (v2_1 + 1) w6 (by omega) (by omega) (by subst_vars; exact zp4_keep (by omega) (by assumption)) hT2
    exact hl2 160 0 w1 (by omega) (by omega) (zrec49 h_p (by assumption)) hT
  refine z_icmp_ne ok dX3_records_5 49 (by decide) (fun c7 => ?_) (fun c7 => ?_)
  · rw [if_neg c7] at hsw1
    rw [← hsw1] at hJw1
    refine z_locs [0] (lv' := [(0, .ref (zad G 47))]) rfl ?_
    exact hJw1
  · rw [if_pos c7] at hsw1
    refine z_iconst ok dX3_records_8 (x := 0) (by decide) ?_
    refine z_istore_n ok dX3_records_9 (hI 1 (by decide)) (lv' := [(1, .int 0), (0, .ref (zad G 47))]) rfl ?_
    refine z_locs [1, 0] (lv' := [(0, .ref (zad G 47)), (1, .int 0)]) rfl ?_
    obtain ⟨kt8, hkt8⟩ : ∃ z, z = d_X3_records_10k := ⟨_, rfl⟩
    rw [← hkt8] at hsw1
    have hk8 : ∀ (e8_1 : Nat) (ew8 : xW), e8_1 ≤ 636 → kt8 e8_1 ew8 = w1 → zZ k G N ew8 39 [(0, .ref (zad G 47)), (1, .int (nI e8_1))] [] := by
      intro e8_1 ew8 q8_0 hT8
      rw [hkt8, d_X3_records_10k] at hT8
      refine z_aload_n ok dX3_records_39 0 rfl ?_
      refine z_dup ok dX3_records_40 rfl ?_
      refine z_get_X3_pasts ok dX3_records_41 hN zw_552 ?_
      refine z_iconst ok dX3_records_44 (x := 1) (by decide) ?_
      refine z_isub ok dX3_records_45 ?_
      refine z_put_X3_pasts ok dX3_records_46 hN zw_552 ?_
      replace hT8 := zlet_open hT8
      obtain ⟨w9, hw9, hT8⟩ := hT8
      rw [← hw9]
      rw [← hT8] at hJw1
      refine z_locs [0] (lv' := [(0, .ref (zad G 47))]) rfl ?_
      exact hJw1
    have hl8 : ∀ (n8 : Nat) (v8_1 : Nat) (vw8 : xW), 636 < v8_1 + n8 → v8_1 ≤ 636 → d_X3_records_10  kt8 n8 v8_1 vw8 = w1 → zZ k G N vw8 10 [(0, .ref (zad G 47)), (1, .int (nI v8_1))] [] := by
      intro n8
      induction n8 with
      | zero =>
        intro v8_1 vw8 q8_0 q8_1
        exact absurd q8_0 (by omega)
      | succ n8 ih8 =>
        intro v8_1 vw8 q8_0 q8_1 hT8
        rw [d_X3_records_10] at hT8
        refine z_iload_n ok dX3_records_10 1 rfl ?_
        refine z_sipush ok dX3_records_11 (x := 636) (by decide +kernel) ?_
        refine z_icmp_ge_n ok dX3_records_14 39 (by decide) v8_1 636 rfl rfl (by omega) (fun c10 => ?_) (fun c10 => ?_)
        · rw [if_pos c10] at hT8
          refine z_locs [0, 1] (lv' := [(0, .ref (zad G 47)), (1, .int (nI v8_1))]) rfl ?_
          exact hk8 v8_1 vw8 (by omega) hT8
        · rw [if_neg c10] at hT8
          refine z_aload_n ok dX3_records_17 0 rfl ?_
          refine z_get_X3_past ok dX3_records_18 hN zw_550 ?_
          refine z_iload_n ok dX3_records_21 1 rfl ?_
          refine z_aload_n ok dX3_records_22 0 rfl ?_
          refine z_get_X3_past ok dX3_records_23 hN zw_550 ?_
          refine z_iload_n ok dX3_records_26 1 rfl ?_
          refine z_sipush ok dX3_records_27 (x := 159) (by decide) ?_
          refine z_iadd_n ok dX3_records_30 v8_1 159 rfl rfl ?_
          refine z_mld49 ok dX3_records_31 hN (v8_1 + 159) rfl (by omega) ?_
          refine z_mst49 ok dX3_records_32 hN v8_1 rfl (by omega) ?_
          replace hT8 := zlet_open hT8
          obtain ⟨w11, hw11, hT8⟩ := hT8
          rw [← hw11]
          refine z_iinc ok dX3_records_33 (hI 1 (by decide)) 1 rfl (y := (nI (v8_1 + 1))) (z_incn v8_1 1) (lv' := [(1, .int (nI (v8_1 + 1))), (0, .ref (zad G 47))]) rfl ?_
          refine z_goto ok dX3_records_36 10 (by decide) ?_
          refine z_locs [1, 0] (lv' := [(0, .ref (zad G 47)), (1, .int (nI (v8_1 + 1)))]) rfl ?_
          exact ih8 (v8_1 + 1) w11 (by omega) (by omega) hT8
    exact hl8 637 0 w (by omega) (by omega) hsw1

def d_X3_undo_22k  (e3_1 : Nat) (ew3 : xW) : Int32 × xW :=
  ((xg ew3 17 0), ew3)
def d_X3_undo_22  (kt3 : Nat → xW → (Int32 × xW)) : Nat → Nat → xW → Int32 × xW
  | 0, _, _ => default
  | n3 + 1, v3_1, vw3 => if 159 ≤ v3_1 then (kt3 v3_1 vw3)
  else (zlet (xg vw3 17 0).toNatClampNeg fun n5 =>
  zlet (xs vw3 11 v3_1 (xg vw3 12 ((159 * n5) + v3_1))) fun w6 =>
  d_X3_undo_22  kt3 n3 (v3_1 + 1) w6)
def d_X3_undo (w : xW)  : Int32 × xW :=
  if (xg w 17 0) = 0 then (((-2), w))
  else (zlet (xs w 17 0 ((xg w 17 0) - 1)) fun w2 =>
  d_X3_undo_22  d_X3_undo_22k 160 0 w2)
set_option maxRecDepth 100000 in
set_option maxHeartbeats 4000000 in
theorem c_X3_undo (G : zG) (N : Nat) (hN : 54 ≤ N) (hg : zGeo G N) (w : xW) (h_p : (∃ p, p ≤ 5 ∧ xg w 17 0 = nI p)) : zM yX3_undo cX3_undo 2 (some .int) 0 0 G N [.ref (zad G 47)] w (some (d_X3_undo w).1) (d_X3_undo w).2 := by
  obtain ⟨r, u, hT⟩ := zpair (d_X3_undo w)
  rw [hT]
  dsimp only
  unfold d_X3_undo at hT
  refine zM_of zy_X3_undo.2.2.2.2.2.2.2 hg ⟨Nat.le_of_ble_eq_true rfl, by decide⟩ rfl (fun k ok hE hI => ?_)
  have old := hE.old
  refine z_aload_n ok dX3_undo_0 0 rfl ?_
  refine z_get_X3_pasts ok dX3_undo_1 hN zw_552 ?_
  refine z_if_ne ok dX3_undo_4 10 (by decide) (fun c1 => ?_) (fun c1 => ?_)
  · rw [if_neg c1] at hT
    refine z_aload_n ok dX3_undo_10 0 rfl ?_
    refine z_dup ok dX3_undo_11 rfl ?_
    refine z_get_X3_pasts ok dX3_undo_12 hN zw_552 ?_
    refine z_iconst ok dX3_undo_15 (x := 1) (by decide) ?_
    refine z_isub ok dX3_undo_16 ?_
    refine z_put_X3_pasts ok dX3_undo_17 hN zw_552 ?_
    replace hT := zlet_open hT
    obtain ⟨w2, hw2, hT⟩ := hT
    rw [← hw2]
    refine z_iconst ok dX3_undo_20 (x := 0) (by decide) ?_
    refine z_istore_n ok dX3_undo_21 (hI 1 (by decide)) (lv' := [(1, .int 0), (0, .ref (zad G 47))]) rfl ?_
    refine z_locs [1, 0] (lv' := [(0, .ref (zad G 47)), (1, .int 0)]) rfl ?_
    obtain ⟨kt3, hkt3⟩ : ∃ z, z = d_X3_undo_22k := ⟨_, rfl⟩
    rw [← hkt3] at hT
    have hk3 : ∀ (e3_1 : Nat) (ew3 : xW), e3_1 ≤ 159 → (∃ p, p ≤ 4 ∧ xg ew3 17 0 = nI p) → kt3 e3_1 ew3 = (r, u) → zZ k G N ew3 56 [(0, .ref (zad G 47)), (1, .int (nI e3_1))] [] := by
      intro e3_1 ew3 q3_0 q3_1 hT3
      rw [hkt3, d_X3_undo_22k] at hT3
      refine z_aload_n ok dX3_undo_56 0 rfl ?_
      refine z_get_X3_pasts ok dX3_undo_57 hN zw_552 ?_
      exact z_iret ok hE dX3_undo_60 rfl ⟨congrArg Prod.fst hT3, congrArg Prod.snd hT3⟩
    have hl3 : ∀ (n3 : Nat) (v3_1 : Nat) (vw3 : xW), 159 < v3_1 + n3 → v3_1 ≤ 159 → (∃ p, p ≤ 4 ∧ xg vw3 17 0 = nI p) → d_X3_undo_22  kt3 n3 v3_1 vw3 = (r, u) → zZ k G N vw3 22 [(0, .ref (zad G 47)), (1, .int (nI v3_1))] [] := by
      intro n3
      induction n3 with
      | zero =>
        intro v3_1 vw3 q3_0 q3_1 q3_2
        exact absurd q3_0 (by omega)
      | succ n3 ih3 =>
        intro v3_1 vw3 q3_0 q3_1 q3_2 hT3
        rw [d_X3_undo_22] at hT3
        refine z_iload_n ok dX3_undo_22 1 rfl ?_
        refine z_sipush ok dX3_undo_23 (x := 159) (by decide) ?_
        refine z_icmp_ge_n ok dX3_undo_26 56 (by decide) v3_1 159 rfl rfl (by omega) (fun c4 => ?_) (fun c4 => ?_)
        · rw [if_pos c4] at hT3
          refine z_locs [0, 1] (lv' := [(0, .ref (zad G 47)), (1, .int (nI v3_1))]) rfl ?_
          exact hk3 v3_1 vw3 (by omega) (by first | assumption | omega) hT3
        · rw [if_neg c4] at hT3
          refine z_aload_n ok dX3_undo_29 0 rfl ?_
          refine z_get_X3_st ok dX3_undo_30 hN zw_549 ?_
          refine z_iload_n ok dX3_undo_33 1 rfl ?_
          refine z_aload_n ok dX3_undo_34 0 rfl ?_
          refine z_get_X3_past ok dX3_undo_35 hN zw_550 ?_
          refine z_sipush ok dX3_undo_38 (x := 159) (by decide) ?_
          refine z_aload_n ok dX3_undo_41 0 rfl ?_
          refine z_get_X3_pasts ok dX3_undo_42 hN zw_552 ?_
          replace hT3 := zlet_open hT3
          obtain ⟨n5, hn5, hT3⟩ := hT3
          obtain ⟨ln5, en5⟩ := zcellx (x := (xg vw3 17 0)) (zp4 (by assumption)) hn5
          rw [en5]
          refine z_imul_n ok dX3_undo_45 159 n5 rfl rfl ?_
          refine z_iload_n ok dX3_undo_46 1 rfl ?_
          refine z_iadd_n ok dX3_undo_47 (159 * n5) v3_1 rfl rfl ?_
          refine z_mld49 ok dX3_undo_48 hN ((159 * n5) + v3_1) rfl (by omega) ?_
          refine z_mst48 ok dX3_undo_49 hN v3_1 rfl (by omega) ?_
          replace hT3 := zlet_open hT3
          obtain ⟨w6, hw6, hT3⟩ := hT3
          rw [← hw6]
          refine z_iinc ok dX3_undo_50 (hI 1 (by decide)) 1 rfl (y := (nI (v3_1 + 1))) (z_incn v3_1 1) (lv' := [(1, .int (nI (v3_1 + 1))), (0, .ref (zad G 47))]) rfl ?_
          refine z_goto ok dX3_undo_53 22 (by decide) ?_
          refine z_locs [1, 0] (lv' := [(0, .ref (zad G 47)), (1, .int (nI (v3_1 + 1)))]) rfl ?_
          exact ih3 (v3_1 + 1) w6 (by omega) (by omega) (by subst_vars; exact zp4_keep (by omega) (by assumption)) hT3
    exact hl3 160 0 w2 (by omega) (by omega) (zundo0 h_p (by assumption) (by assumption)) hT
  · rw [if_pos c1] at hT
    refine z_bipush ok dX3_undo_7 (x := (-2)) (by decide) ?_
    exact z_iret ok hE dX3_undo_9 rfl ⟨congrArg Prod.fst hT, congrArg Prod.snd hT⟩

def d_X3_laysAside_2k  (e1_1 : Nat) (ew1 : xW) : xW :=
  ew1
def d_X3_laysAside_2  (kt1 : Nat → xW → xW) : Nat → Nat → xW → xW
  | 0, _, _ => default
  | n1 + 1, v1_1, vw1 => if 159 ≤ v1_1 then (kt1 v1_1 vw1)
  else (zlet (xs vw1 13 v1_1 (xg vw1 11 v1_1)) fun w3 =>
  d_X3_laysAside_2  kt1 n1 (v1_1 + 1) w3)
def d_X3_laysAside (w : xW)  : xW :=
  d_X3_laysAside_2  d_X3_laysAside_2k 160 0 w
set_option maxRecDepth 100000 in
set_option maxHeartbeats 4000000 in
theorem c_X3_laysAside (G : zG) (N : Nat) (hN : 54 ≤ N) (hg : zGeo G N) (w : xW) : zM yX3_laysAside cX3_laysAside 2 none 0 0 G N [.ref (zad G 47)] w none (d_X3_laysAside w) := by
  generalize hT : d_X3_laysAside w = u
  unfold d_X3_laysAside at hT
  refine zM_of zy_X3_laysAside.2.2.2.2.2.2.2 hg ⟨Nat.le_of_ble_eq_true rfl, by decide⟩ rfl (fun k ok hE hI => ?_)
  have old := hE.old
  refine z_iconst ok dX3_laysAside_0 (x := 0) (by decide) ?_
  refine z_istore_n ok dX3_laysAside_1 (hI 1 (by decide)) (lv' := [(1, .int 0), (0, .ref (zad G 47))]) rfl ?_
  refine z_locs [1, 0] (lv' := [(0, .ref (zad G 47)), (1, .int 0)]) rfl ?_
  obtain ⟨kt1, hkt1⟩ : ∃ z, z = d_X3_laysAside_2k := ⟨_, rfl⟩
  rw [← hkt1] at hT
  have hk1 : ∀ (e1_1 : Nat) (ew1 : xW), e1_1 ≤ 159 → kt1 e1_1 ew1 = u → zZ k G N ew1 27 [(0, .ref (zad G 47)), (1, .int (nI e1_1))] [] := by
    intro e1_1 ew1 q1_0 hT1
    rw [hkt1, d_X3_laysAside_2k] at hT1
    exact z_vret ok hE dX3_laysAside_27 hT1
  have hl1 : ∀ (n1 : Nat) (v1_1 : Nat) (vw1 : xW), 159 < v1_1 + n1 → v1_1 ≤ 159 → d_X3_laysAside_2  kt1 n1 v1_1 vw1 = u → zZ k G N vw1 2 [(0, .ref (zad G 47)), (1, .int (nI v1_1))] [] := by
    intro n1
    induction n1 with
    | zero =>
      intro v1_1 vw1 q1_0 q1_1
      exact absurd q1_0 (by omega)
    | succ n1 ih1 =>
      intro v1_1 vw1 q1_0 q1_1 hT1
      rw [d_X3_laysAside_2] at hT1
      refine z_iload_n ok dX3_laysAside_2 1 rfl ?_
      refine z_sipush ok dX3_laysAside_3 (x := 159) (by decide) ?_
      refine z_icmp_ge_n ok dX3_laysAside_6 27 (by decide) v1_1 159 rfl rfl (by omega) (fun c2 => ?_) (fun c2 => ?_)
      · rw [if_pos c2] at hT1
        refine z_locs [0, 1] (lv' := [(0, .ref (zad G 47)), (1, .int (nI v1_1))]) rfl ?_
        exact hk1 v1_1 vw1 (by omega) hT1
      · rw [if_neg c2] at hT1
        refine z_aload_n ok dX3_laysAside_9 0 rfl ?_
        refine z_get_X3_aside ok dX3_laysAside_10 hN zw_551 ?_
        refine z_iload_n ok dX3_laysAside_13 1 rfl ?_
        refine z_aload_n ok dX3_laysAside_14 0 rfl ?_
        refine z_get_X3_st ok dX3_laysAside_15 hN zw_549 ?_
        refine z_iload_n ok dX3_laysAside_18 1 rfl ?_
        refine z_mld48 ok dX3_laysAside_19 hN v1_1 rfl (by omega) ?_
        refine z_mst50 ok dX3_laysAside_20 hN v1_1 rfl (by omega) ?_
        replace hT1 := zlet_open hT1
        obtain ⟨w3, hw3, hT1⟩ := hT1
        rw [← hw3]
        refine z_iinc ok dX3_laysAside_21 (hI 1 (by decide)) 1 rfl (y := (nI (v1_1 + 1))) (z_incn v1_1 1) (lv' := [(1, .int (nI (v1_1 + 1))), (0, .ref (zad G 47))]) rfl ?_
        refine z_goto ok dX3_laysAside_24 2 (by decide) ?_
        refine z_locs [1, 0] (lv' := [(0, .ref (zad G 47)), (1, .int (nI (v1_1 + 1)))]) rfl ?_
        exact ih1 (v1_1 + 1) w3 (by omega) (by omega) hT1
  exact hl1 160 0 w (by omega) (by omega) hT

def d_X3_bringsBack_2k  (e1_1 : Nat) (ew1 : xW) : xW :=
  ew1
def d_X3_bringsBack_2  (kt1 : Nat → xW → xW) : Nat → Nat → xW → xW
  | 0, _, _ => default
  | n1 + 1, v1_1, vw1 => if 159 ≤ v1_1 then (kt1 v1_1 vw1)
  else (zlet (xs vw1 11 v1_1 (xg vw1 13 v1_1)) fun w3 =>
  d_X3_bringsBack_2  kt1 n1 (v1_1 + 1) w3)
def d_X3_bringsBack (w : xW)  : xW :=
  d_X3_bringsBack_2  d_X3_bringsBack_2k 160 0 w
set_option maxRecDepth 100000 in
set_option maxHeartbeats 4000000 in
theorem c_X3_bringsBack (G : zG) (N : Nat) (hN : 54 ≤ N) (hg : zGeo G N) (w : xW) : zM yX3_bringsBack cX3_bringsBack 2 none 0 0 G N [.ref (zad G 47)] w none (d_X3_bringsBack w) := by
  generalize hT : d_X3_bringsBack w = u
  unfold d_X3_bringsBack at hT
  refine zM_of zy_X3_bringsBack.2.2.2.2.2.2.2 hg ⟨Nat.le_of_ble_eq_true rfl, by decide⟩ rfl (fun k ok hE hI => ?_)
  have old := hE.old
  refine z_iconst ok dX3_bringsBack_0 (x := 0) (by decide) ?_
  refine z_istore_n ok dX3_bringsBack_1 (hI 1 (by decide)) (lv' := [(1, .int 0), (0, .ref (zad G 47))]) rfl ?_
  refine z_locs [1, 0] (lv' := [(0, .ref (zad G 47)), (1, .int 0)]) rfl ?_
  obtain ⟨kt1, hkt1⟩ : ∃ z, z = d_X3_bringsBack_2k := ⟨_, rfl⟩
  rw [← hkt1] at hT
  have hk1 : ∀ (e1_1 : Nat) (ew1 : xW), e1_1 ≤ 159 → kt1 e1_1 ew1 = u → zZ k G N ew1 27 [(0, .ref (zad G 47)), (1, .int (nI e1_1))] [] := by
    intro e1_1 ew1 q1_0 hT1
    rw [hkt1, d_X3_bringsBack_2k] at hT1
    exact z_vret ok hE dX3_bringsBack_27 hT1
  have hl1 : ∀ (n1 : Nat) (v1_1 : Nat) (vw1 : xW), 159 < v1_1 + n1 → v1_1 ≤ 159 → d_X3_bringsBack_2  kt1 n1 v1_1 vw1 = u → zZ k G N vw1 2 [(0, .ref (zad G 47)), (1, .int (nI v1_1))] [] := by
    intro n1
    induction n1 with
    | zero =>
      intro v1_1 vw1 q1_0 q1_1
      exact absurd q1_0 (by omega)
    | succ n1 ih1 =>
      intro v1_1 vw1 q1_0 q1_1 hT1
      rw [d_X3_bringsBack_2] at hT1
      refine z_iload_n ok dX3_bringsBack_2 1 rfl ?_
      refine z_sipush ok dX3_bringsBack_3 (x := 159) (by decide) ?_
      refine z_icmp_ge_n ok dX3_bringsBack_6 27 (by decide) v1_1 159 rfl rfl (by omega) (fun c2 => ?_) (fun c2 => ?_)
      · rw [if_pos c2] at hT1
        refine z_locs [0, 1] (lv' := [(0, .ref (zad G 47)), (1, .int (nI v1_1))]) rfl ?_
        exact hk1 v1_1 vw1 (by omega) hT1
      · rw [if_neg c2] at hT1
        refine z_aload_n ok dX3_bringsBack_9 0 rfl ?_
        refine z_get_X3_st ok dX3_bringsBack_10 hN zw_549 ?_
        refine z_iload_n ok dX3_bringsBack_13 1 rfl ?_
        refine z_aload_n ok dX3_bringsBack_14 0 rfl ?_
        refine z_get_X3_aside ok dX3_bringsBack_15 hN zw_551 ?_
        refine z_iload_n ok dX3_bringsBack_18 1 rfl ?_
        refine z_mld50 ok dX3_bringsBack_19 hN v1_1 rfl (by omega) ?_
        refine z_mst48 ok dX3_bringsBack_20 hN v1_1 rfl (by omega) ?_
        replace hT1 := zlet_open hT1
        obtain ⟨w3, hw3, hT1⟩ := hT1
        rw [← hw3]
        refine z_iinc ok dX3_bringsBack_21 (hI 1 (by decide)) 1 rfl (y := (nI (v1_1 + 1))) (z_incn v1_1 1) (lv' := [(1, .int (nI (v1_1 + 1))), (0, .ref (zad G 47))]) rfl ?_
        refine z_goto ok dX3_bringsBack_24 2 (by decide) ?_
        refine z_locs [1, 0] (lv' := [(0, .ref (zad G 47)), (1, .int (nI (v1_1 + 1)))]) rfl ?_
        exact ih1 (v1_1 + 1) w3 (by omega) (by omega) hT1
  exact hl1 160 0 w (by omega) (by omega) hT

def d_X3_lays (w : xW) (c : Nat) (side : Int32) (kind : Int32) (spring : Int32) : xW :=
  zlet (xs w 11 c side) fun w1 =>
  zlet (xs w1 11 (36 + c) kind) fun w2 =>
  zlet (xs w2 11 (72 + c) spring) fun w3 =>
  w3
set_option maxRecDepth 100000 in
set_option maxHeartbeats 4000000 in
theorem c_X3_lays (G : zG) (N : Nat) (hN : 54 ≤ N) (hg : zGeo G N) (w : xW) (c : Nat) (h_c : c < 36) (side : Int32) (kind : Int32) (spring : Int32) : zM yX3_lays cX3_lays 5 none 0 0 G N [.ref (zad G 47), .int (nI c), .int side, .int kind, .int spring] w none (d_X3_lays w c side kind spring) := by
  generalize hT : d_X3_lays w c side kind spring = u
  unfold d_X3_lays at hT
  refine zM_of zy_X3_lays.2.2.2.2.2.2.2 hg ⟨Nat.le_of_ble_eq_true rfl, by decide⟩ rfl (fun k ok hE hI => ?_)
  have old := hE.old
  refine z_aload_n ok dX3_lays_0 0 rfl ?_
  refine z_get_X3_st ok dX3_lays_1 hN zw_549 ?_
  refine z_iconst ok dX3_lays_4 (x := 0) (by decide) ?_
  refine z_iload_n ok dX3_lays_5 1 rfl ?_
  refine z_iadd_0 ok dX3_lays_6 ?_
  refine z_iload_n ok dX3_lays_7 2 rfl ?_
  refine z_mst48 ok dX3_lays_8 hN c rfl (by omega) ?_
  replace hT := zlet_open hT
  obtain ⟨w1, hw1, hT⟩ := hT
  rw [← hw1]
  refine z_aload_n ok dX3_lays_9 0 rfl ?_
  refine z_get_X3_st ok dX3_lays_10 hN zw_549 ?_
  refine z_bipush ok dX3_lays_13 (x := 36) (by decide) ?_
  refine z_iload_n ok dX3_lays_15 1 rfl ?_
  refine z_iadd_n ok dX3_lays_16 36 c rfl rfl ?_
  refine z_iload_n ok dX3_lays_17 3 rfl ?_
  refine z_mst48 ok dX3_lays_18 hN (36 + c) rfl (by omega) ?_
  replace hT := zlet_open hT
  obtain ⟨w2, hw2, hT⟩ := hT
  rw [← hw2]
  refine z_aload_n ok dX3_lays_19 0 rfl ?_
  refine z_get_X3_st ok dX3_lays_20 hN zw_549 ?_
  refine z_bipush ok dX3_lays_23 (x := 72) (by decide) ?_
  refine z_iload_n ok dX3_lays_25 1 rfl ?_
  refine z_iadd_n ok dX3_lays_26 72 c rfl rfl ?_
  refine z_iload ok dX3_lays_27 4 rfl ?_
  refine z_mst48 ok dX3_lays_29 hN (72 + c) rfl (by omega) ?_
  replace hT := zlet_open hT
  obtain ⟨w3, hw3, hT⟩ := hT
  rw [← hw3]
  exact z_vret ok hE dX3_lays_30 hT

def d_X3_springs_4k  (e1_2 : Int32) (e1_3 : Nat) : Int32 :=
  e1_2
def d_X3_springs_4 (w : xW) (side : Int32) (kt1 : Int32 → Nat → Int32) : Nat → Int32 → Nat → Int32
  | 0, _, _ => default
  | n1 + 1, v1_2, v1_3 => if 36 ≤ v1_3 then (kt1 v1_2 v1_3)
  else (zlet (if (xg w 11 v1_3) = side then ((xg w 11 (72 + v1_3)))
  else (0) : Int32) fun x3 =>
  zlet ((v1_2 + x3)) fun x4 =>
  d_X3_springs_4 w side kt1 n1 x4 (v1_3 + 1))
def d_X3_springs (w : xW) (side : Int32) : Int32 :=
  d_X3_springs_4 w side d_X3_springs_4k 37 0 0
set_option maxRecDepth 100000 in
set_option maxHeartbeats 4000000 in
theorem c_X3_springs (G : zG) (N : Nat) (hN : 54 ≤ N) (hg : zGeo G N) (w : xW) (side : Int32) : zM yX3_springs cX3_springs 4 (some .int) 0 0 G N [.ref (zad G 47), .int side] w (some (d_X3_springs w side)) w := by
  generalize hT : d_X3_springs w side = r
  unfold d_X3_springs at hT
  refine zM_of zy_X3_springs.2.2.2.2.2.2.2 hg ⟨Nat.le_of_ble_eq_true rfl, by decide⟩ rfl (fun k ok hE hI => ?_)
  have old := hE.old
  refine z_iconst ok dX3_springs_0 (x := 0) (by decide) ?_
  refine z_istore_n ok dX3_springs_1 (hI 2 (by decide)) (lv' := [(2, .int 0), (0, .ref (zad G 47)), (1, .int side)]) rfl ?_
  refine z_iconst ok dX3_springs_2 (x := 0) (by decide) ?_
  refine z_istore_n ok dX3_springs_3 (hI 3 (by decide)) (lv' := [(3, .int 0), (2, .int 0), (0, .ref (zad G 47)), (1, .int side)]) rfl ?_
  refine z_locs [2, 3, 1, 0] (lv' := [(0, .ref (zad G 47)), (1, .int side), (2, .int 0), (3, .int 0)]) rfl ?_
  obtain ⟨kt1, hkt1⟩ : ∃ z, z = d_X3_springs_4k := ⟨_, rfl⟩
  rw [← hkt1] at hT
  have hk1 : ∀ (e1_2 : Int32) (e1_3 : Nat), e1_3 ≤ 36 → kt1 e1_2 e1_3 = r → zZ k G N w 44 [(0, .ref (zad G 47)), (1, .int side), (2, .int e1_2), (3, .int (nI e1_3))] [] := by
    intro e1_2 e1_3 q1_0 hT1
    rw [hkt1, d_X3_springs_4k] at hT1
    refine z_iload_n ok dX3_springs_44 2 rfl ?_
    exact z_iret ok hE dX3_springs_45 rfl ⟨hT1, rfl⟩
  have hl1 : ∀ (n1 : Nat) (v1_2 : Int32) (v1_3 : Nat), 36 < v1_3 + n1 → v1_3 ≤ 36 → d_X3_springs_4 w side kt1 n1 v1_2 v1_3 = r → zZ k G N w 4 [(0, .ref (zad G 47)), (1, .int side), (2, .int v1_2), (3, .int (nI v1_3))] [] := by
    intro n1
    induction n1 with
    | zero =>
      intro v1_2 v1_3 q1_0 q1_1
      exact absurd q1_0 (by omega)
    | succ n1 ih1 =>
      intro v1_2 v1_3 q1_0 q1_1 hT1
      rw [d_X3_springs_4] at hT1
      refine z_iload_n ok dX3_springs_4 3 rfl ?_
      refine z_bipush ok dX3_springs_5 (x := 36) (by decide) ?_
      refine z_icmp_ge_n ok dX3_springs_7 44 (by decide) v1_3 36 rfl rfl (by omega) (fun c2 => ?_) (fun c2 => ?_)
      · rw [if_pos c2] at hT1
        refine z_locs [0, 1, 2, 3] (lv' := [(0, .ref (zad G 47)), (1, .int side), (2, .int v1_2), (3, .int (nI v1_3))]) rfl ?_
        exact hk1 v1_2 v1_3 (by omega) hT1
      · rw [if_neg c2] at hT1
        refine z_iload_n ok dX3_springs_10 2 rfl ?_
        refine z_aload_n ok dX3_springs_11 0 rfl ?_
        refine z_get_X3_st ok dX3_springs_12 hN zw_549 ?_
        refine z_iconst ok dX3_springs_15 (x := 0) (by decide) ?_
        refine z_iload_n ok dX3_springs_16 3 rfl ?_
        refine z_iadd_0 ok dX3_springs_17 ?_
        refine z_mld48 ok dX3_springs_18 hN v1_3 rfl (by omega) ?_
        refine z_iload_n ok dX3_springs_19 1 rfl ?_
        replace hT1 := zlet_open hT1
        obtain ⟨x3, hx3, hT1⟩ := hT1
        have hsx3 := hx3.symm
        have hJx3 : zZ k G N w 36 [(0, .ref (zad G 47)), (1, .int side), (2, .int v1_2), (3, .int (nI v1_3))] [.int x3, .int v1_2] := by
          refine z_iadd ok dX3_springs_36 ?_
          replace hT1 := zlet_open hT1
          obtain ⟨x4, hx4, hT1⟩ := hT1
          rw [← hx4]
          refine z_istore_n ok dX3_springs_37 (hI 2 (by decide)) (lv' := [(2, .int x4), (0, .ref (zad G 47)), (1, .int side), (3, .int (nI v1_3))]) rfl ?_
          refine z_iinc ok dX3_springs_38 (hI 3 (by decide)) 3 rfl (y := (nI (v1_3 + 1))) (z_incn v1_3 1) (lv' := [(3, .int (nI (v1_3 + 1))), (2, .int x4), (0, .ref (zad G 47)), (1, .int side)]) rfl ?_
          refine z_goto ok dX3_springs_41 4 (by decide) ?_
          refine z_locs [2, 3, 1, 0] (lv' := [(0, .ref (zad G 47)), (1, .int side), (2, .int x4), (3, .int (nI (v1_3 + 1)))]) rfl ?_
          exact ih1 x4 (v1_3 + 1) (by omega) (by omega) hT1
        refine z_icmp_ne ok dX3_springs_20 35 (by decide) (fun c5 => ?_) (fun c5 => ?_)
        · rw [if_neg c5] at hsx3
          refine z_iconst ok dX3_springs_35 (x := 0) (by decide) ?_
          rw [← hsx3] at hJx3
          refine z_locs [0, 1, 2, 3] (lv' := [(0, .ref (zad G 47)), (1, .int side), (2, .int v1_2), (3, .int (nI v1_3))]) rfl ?_
          exact hJx3
        · rw [if_pos c5] at hsx3
          refine z_aload_n ok dX3_springs_23 0 rfl ?_
          refine z_get_X3_st ok dX3_springs_24 hN zw_549 ?_
          refine z_bipush ok dX3_springs_27 (x := 72) (by decide) ?_
          refine z_iload_n ok dX3_springs_29 3 rfl ?_
          refine z_iadd_n ok dX3_springs_30 72 v1_3 rfl rfl ?_
          refine z_mld48 ok dX3_springs_31 hN (72 + v1_3) rfl (by omega) ?_
          refine z_goto ok dX3_springs_32 36 (by decide) ?_
          rw [← hsx3] at hJx3
          refine z_locs [0, 1, 2, 3] (lv' := [(0, .ref (zad G 47)), (1, .int side), (2, .int v1_2), (3, .int (nI v1_3))]) rfl ?_
          exact hJx3
  exact hl1 37 0 0 (by omega) (by omega) hT

def d_X3_allSprings (w : xW)  : Int32 :=
  ((d_X3_springs w 0) + (d_X3_springs w 1))
set_option maxRecDepth 100000 in
set_option maxHeartbeats 4000000 in
theorem c_X3_allSprings (G : zG) (N : Nat) (hN : 54 ≤ N) (hg : zGeo G N) (w : xW) : zM yX3_allSprings cX3_allSprings 1 (some .int) 1 23 G N [.ref (zad G 47)] w (some (d_X3_allSprings w)) w := by
  generalize hT : d_X3_allSprings w = r
  unfold d_X3_allSprings at hT
  refine zM_of zy_X3_allSprings.2.2.2.2.2.2.2 hg ⟨Nat.le_of_ble_eq_true rfl, by decide⟩ rfl (fun k ok hE hI => ?_)
  have old := hE.old
  refine z_aload_n ok dX3_allSprings_0 0 rfl ?_
  refine z_iconst ok dX3_allSprings_1 (x := 0) (by decide) ?_
  refine z_callVi ok old dX3_allSprings_2 [] (c_X3_springs G N hN hg w 0) zy_X3_springs zw_545 47 (by omega) (zE_47 G w) rfl rfl rfl rfl rfl (by decide) (Nat.le_of_ble_eq_true rfl) ?_
  refine z_aload_n ok dX3_allSprings_5 0 rfl ?_
  refine z_iconst ok dX3_allSprings_6 (x := 1) (by decide) ?_
  refine z_callVi ok old dX3_allSprings_7 [.int (d_X3_springs w 0)] (c_X3_springs G N hN hg w 1) zy_X3_springs zw_545 47 (by omega) (zE_47 G w) rfl rfl rfl rfl rfl (by decide) (Nat.le_of_ble_eq_true rfl) ?_
  refine z_iadd ok dX3_allSprings_10 ?_
  exact z_iret ok hE dX3_allSprings_11 rfl ⟨hT, rfl⟩

def d_X3_begins_215k  (e9_2 : Nat) (ew9 : xW) : xW :=
  zlet (xs ew9 11 152 (d_X3_allSprings ew9)) fun w10 =>
  w10
def d_X3_begins_215  (kt9 : Nat → xW → xW) : Nat → Nat → xW → xW
  | 0, _, _ => default
  | n9 + 1, v9_2, vw9 => if 7 ≤ v9_2 then (kt9 v9_2 vw9)
  else (zlet (xs vw9 11 (152 + v9_2) 0) fun w12 =>
  d_X3_begins_215  kt9 n9 (v9_2 + 1) w12)
def d_X3_begins_82k  (e3_2 : Nat) (ew3 : xW) : xW :=
  zlet (xs ew3 11 144 0) fun w4 =>
  zlet (xs w4 11 145 0) fun w5 =>
  zlet (xs w5 11 146 (-1)) fun w6 =>
  zlet (xs w6 11 147 0) fun w7 =>
  zlet (xs w7 11 148 0) fun w8 =>
  d_X3_begins_215  d_X3_begins_215k 8 0 w8
def d_X3_begins_82 (x1 : Int32) (kt3 : Nat → xW → xW) : Nat → Nat → xW → xW
  | 0, _, _ => default
  | n3 + 1, v3_2, vw3 => if 6 ≤ v3_2 then (kt3 v3_2 vw3)
  else (zlet (if (nI v3_2) = 0 then (1)
  else (if v3_2 = 5 then (1)
  else (if v3_2 = 2 then (0)
  else (if v3_2 = 3 then (2)
  else (3)))) : Int32) fun x14 =>
  zlet (d_X3_lays vw3 v3_2 0 x14 x1) fun w15 =>
  zlet (d_X3_lays w15 (6 + v3_2) 0 4 x1) fun w16 =>
  zlet (d_X3_lays w16 (30 + v3_2) 1 x14 x1) fun w17 =>
  zlet (d_X3_lays w17 (24 + v3_2) 1 4 x1) fun w18 =>
  d_X3_begins_82 x1 kt3 n3 (v3_2 + 1) w18)
def d_X3_begins_13k (x1 : Int32) (e2_2 : Nat) (ew2 : xW) : xW :=
  d_X3_begins_82 x1 d_X3_begins_82k 7 0 ew2
def d_X3_begins_13  (kt2 : Nat → xW → xW) : Nat → Nat → xW → xW
  | 0, _, _ => default
  | n2 + 1, v2_2, vw2 => if 36 ≤ v2_2 then (kt2 v2_2 vw2)
  else (zlet (d_X3_lays vw2 v2_2 (-1) 0 0) fun w24 =>
  zlet (if (nI v2_2) = 0 then (1)
  else (if v2_2 = 5 then (1)
  else (if v2_2 = 14 then (1)
  else (if v2_2 = 21 then (1)
  else (if v2_2 = 30 then (1)
  else (if v2_2 = 35 then (1)
  else (0)))))) : Int32) fun x25 =>
  zlet (xs w24 11 (108 + v2_2) x25) fun w26 =>
  d_X3_begins_13  kt2 n2 (v2_2 + 1) w26)
def d_X3_begins (w : xW)  : xW :=
  zlet (((xg w 11 149) / 2)) fun x1 =>
  d_X3_begins_13  (d_X3_begins_13k x1) 37 0 w
set_option maxRecDepth 100000 in
set_option maxHeartbeats 4000000 in
theorem c_X3_begins (G : zG) (N : Nat) (hN : 54 ≤ N) (hg : zGeo G N) (w : xW) : zM yX3_begins cX3_begins 4 none 2 43 G N [.ref (zad G 47)] w none (d_X3_begins w) := by
  generalize hT : d_X3_begins w = u
  unfold d_X3_begins at hT
  refine zM_of zy_X3_begins.2.2.2.2.2.2.2 hg ⟨Nat.le_of_ble_eq_true rfl, by decide⟩ rfl (fun k ok hE hI => ?_)
  have old := hE.old
  refine z_aload_n ok dX3_begins_0 0 rfl ?_
  refine z_get_X3_st ok dX3_begins_1 hN zw_549 ?_
  refine z_sipush ok dX3_begins_4 (x := 149) (by decide) ?_
  refine z_mld48 ok dX3_begins_7 hN 149 rfl (by omega) ?_
  refine z_iconst ok dX3_begins_8 (x := 2) (by decide) ?_
  refine z_idiv ok dX3_begins_9 (by decide) ?_
  replace hT := zlet_open hT
  obtain ⟨x1, hx1, hT⟩ := hT
  rw [← hx1]
  refine z_istore_n ok dX3_begins_10 (hI 1 (by decide)) (lv' := [(1, .int x1), (0, .ref (zad G 47))]) rfl ?_
  refine z_iconst ok dX3_begins_11 (x := 0) (by decide) ?_
  refine z_istore_n ok dX3_begins_12 (hI 2 (by decide)) (lv' := [(2, .int 0), (1, .int x1), (0, .ref (zad G 47))]) rfl ?_
  refine z_locs [2, 1, 0] (lv' := [(0, .ref (zad G 47)), (1, .int x1), (2, .int 0)]) rfl ?_
  obtain ⟨kt2, hkt2⟩ : ∃ z, z = (d_X3_begins_13k x1) := ⟨_, rfl⟩
  rw [← hkt2] at hT
  have hk2 : ∀ (e2_2 : Nat) (ew2 : xW), e2_2 ≤ 36 → kt2 e2_2 ew2 = u → zZ k G N ew2 80 [(0, .ref (zad G 47)), (1, .int x1), (2, .int (nI e2_2))] [] := by
    intro e2_2 ew2 q2_0 hT2
    rw [hkt2, d_X3_begins_13k] at hT2
    refine z_iconst ok dX3_begins_80 (x := 0) (by decide) ?_
    refine z_istore_n ok dX3_begins_81 (hI 2 (by decide)) (lv' := [(2, .int 0), (0, .ref (zad G 47)), (1, .int x1)]) rfl ?_
    refine z_locs [1, 2, 0] (lv' := [(0, .ref (zad G 47)), (1, .int x1), (2, .int 0)]) rfl ?_
    obtain ⟨kt3, hkt3⟩ : ∃ z, z = d_X3_begins_82k := ⟨_, rfl⟩
    rw [← hkt3] at hT2
    have hk3 : ∀ (e3_2 : Nat) (ew3 : xW), e3_2 ≤ 6 → kt3 e3_2 ew3 = u → zZ k G N ew3 168 [(0, .ref (zad G 47)), (1, .int x1), (2, .int (nI e3_2))] [] := by
      intro e3_2 ew3 q3_0 hT3
      rw [hkt3, d_X3_begins_82k] at hT3
      refine z_aload_n ok dX3_begins_168 0 rfl ?_
      refine z_get_X3_st ok dX3_begins_169 hN zw_549 ?_
      refine z_sipush ok dX3_begins_172 (x := 144) (by decide) ?_
      refine z_iconst ok dX3_begins_175 (x := 0) (by decide) ?_
      refine z_mst48 ok dX3_begins_176 hN 144 rfl (by omega) ?_
      replace hT3 := zlet_open hT3
      obtain ⟨w4, hw4, hT3⟩ := hT3
      rw [← hw4]
      refine z_aload_n ok dX3_begins_177 0 rfl ?_
      refine z_get_X3_st ok dX3_begins_178 hN zw_549 ?_
      refine z_sipush ok dX3_begins_181 (x := 145) (by decide) ?_
      refine z_iconst ok dX3_begins_184 (x := 0) (by decide) ?_
      refine z_mst48 ok dX3_begins_185 hN 145 rfl (by omega) ?_
      replace hT3 := zlet_open hT3
      obtain ⟨w5, hw5, hT3⟩ := hT3
      rw [← hw5]
      refine z_aload_n ok dX3_begins_186 0 rfl ?_
      refine z_get_X3_st ok dX3_begins_187 hN zw_549 ?_
      refine z_sipush ok dX3_begins_190 (x := 146) (by decide) ?_
      refine z_iconst ok dX3_begins_193 (x := (-1)) (by decide) ?_
      refine z_mst48 ok dX3_begins_194 hN 146 rfl (by omega) ?_
      replace hT3 := zlet_open hT3
      obtain ⟨w6, hw6, hT3⟩ := hT3
      rw [← hw6]
      refine z_aload_n ok dX3_begins_195 0 rfl ?_
      refine z_get_X3_st ok dX3_begins_196 hN zw_549 ?_
      refine z_sipush ok dX3_begins_199 (x := 147) (by decide) ?_
      refine z_iconst ok dX3_begins_202 (x := 0) (by decide) ?_
      refine z_mst48 ok dX3_begins_203 hN 147 rfl (by omega) ?_
      replace hT3 := zlet_open hT3
      obtain ⟨w7, hw7, hT3⟩ := hT3
      rw [← hw7]
      refine z_aload_n ok dX3_begins_204 0 rfl ?_
      refine z_get_X3_st ok dX3_begins_205 hN zw_549 ?_
      refine z_sipush ok dX3_begins_208 (x := 148) (by decide) ?_
      refine z_iconst ok dX3_begins_211 (x := 0) (by decide) ?_
      refine z_mst48 ok dX3_begins_212 hN 148 rfl (by omega) ?_
      replace hT3 := zlet_open hT3
      obtain ⟨w8, hw8, hT3⟩ := hT3
      rw [← hw8]
      refine z_iconst ok dX3_begins_213 (x := 0) (by decide) ?_
      refine z_istore_n ok dX3_begins_214 (hI 2 (by decide)) (lv' := [(2, .int 0), (0, .ref (zad G 47)), (1, .int x1)]) rfl ?_
      refine z_locs [1, 2, 0] (lv' := [(0, .ref (zad G 47)), (1, .int x1), (2, .int 0)]) rfl ?_
      obtain ⟨kt9, hkt9⟩ : ∃ z, z = d_X3_begins_215k := ⟨_, rfl⟩
      rw [← hkt9] at hT3
      have hk9 : ∀ (e9_2 : Nat) (ew9 : xW), e9_2 ≤ 7 → kt9 e9_2 ew9 = u → zZ k G N ew9 238 [(0, .ref (zad G 47)), (1, .int x1), (2, .int (nI e9_2))] [] := by
        intro e9_2 ew9 q9_0 hT9
        rw [hkt9, d_X3_begins_215k] at hT9
        refine z_aload_n ok dX3_begins_238 0 rfl ?_
        refine z_get_X3_st ok dX3_begins_239 hN zw_549 ?_
        refine z_sipush ok dX3_begins_242 (x := 152) (by decide) ?_
        refine z_aload_n ok dX3_begins_245 0 rfl ?_
        refine z_callVi ok old dX3_begins_246 [.int 152, .ref (zad G 48)] (c_X3_allSprings G N hN hg ew9 ) zy_X3_allSprings zw_541 47 (by omega) (zE_47 G ew9) rfl rfl rfl rfl rfl (by decide) (Nat.le_of_ble_eq_true rfl) ?_
        refine z_mst48 ok dX3_begins_249 hN 152 rfl (by omega) ?_
        replace hT9 := zlet_open hT9
        obtain ⟨w10, hw10, hT9⟩ := hT9
        rw [← hw10]
        exact z_vret ok hE dX3_begins_250 hT9
      have hl9 : ∀ (n9 : Nat) (v9_2 : Nat) (vw9 : xW), 7 < v9_2 + n9 → v9_2 ≤ 7 → d_X3_begins_215  kt9 n9 v9_2 vw9 = u → zZ k G N vw9 215 [(0, .ref (zad G 47)), (1, .int x1), (2, .int (nI v9_2))] [] := by
        intro n9
        induction n9 with
        | zero =>
          intro v9_2 vw9 q9_0 q9_1
          exact absurd q9_0 (by omega)
        | succ n9 ih9 =>
          intro v9_2 vw9 q9_0 q9_1 hT9
          rw [d_X3_begins_215] at hT9
          refine z_iload_n ok dX3_begins_215 2 rfl ?_
          refine z_bipush ok dX3_begins_216 (x := 7) (by decide) ?_
          refine z_icmp_ge_n ok dX3_begins_218 238 (by decide) v9_2 7 rfl rfl (by omega) (fun c11 => ?_) (fun c11 => ?_)
          · rw [if_pos c11] at hT9
            refine z_locs [0, 1, 2] (lv' := [(0, .ref (zad G 47)), (1, .int x1), (2, .int (nI v9_2))]) rfl ?_
            exact hk9 v9_2 vw9 (by omega) hT9
          · rw [if_neg c11] at hT9
            refine z_aload_n ok dX3_begins_221 0 rfl ?_
            refine z_get_X3_st ok dX3_begins_222 hN zw_549 ?_
            refine z_sipush ok dX3_begins_225 (x := 152) (by decide) ?_
            refine z_iload_n ok dX3_begins_228 2 rfl ?_
            refine z_iadd_n ok dX3_begins_229 152 v9_2 rfl rfl ?_
            refine z_iconst ok dX3_begins_230 (x := 0) (by decide) ?_
            refine z_mst48 ok dX3_begins_231 hN (152 + v9_2) rfl (by omega) ?_
            replace hT9 := zlet_open hT9
            obtain ⟨w12, hw12, hT9⟩ := hT9
            rw [← hw12]
            refine z_iinc ok dX3_begins_232 (hI 2 (by decide)) 2 rfl (y := (nI (v9_2 + 1))) (z_incn v9_2 1) (lv' := [(2, .int (nI (v9_2 + 1))), (0, .ref (zad G 47)), (1, .int x1)]) rfl ?_
            refine z_goto ok dX3_begins_235 215 (by decide) ?_
            refine z_locs [1, 2, 0] (lv' := [(0, .ref (zad G 47)), (1, .int x1), (2, .int (nI (v9_2 + 1)))]) rfl ?_
            exact ih9 (v9_2 + 1) w12 (by omega) (by omega) hT9
      exact hl9 8 0 w8 (by omega) (by omega) hT3
    have hl3 : ∀ (n3 : Nat) (v3_2 : Nat) (vw3 : xW), 6 < v3_2 + n3 → v3_2 ≤ 6 → d_X3_begins_82 x1 kt3 n3 v3_2 vw3 = u → zZ k G N vw3 82 [(0, .ref (zad G 47)), (1, .int x1), (2, .int (nI v3_2))] [] := by
      intro n3
      induction n3 with
      | zero =>
        intro v3_2 vw3 q3_0 q3_1
        exact absurd q3_0 (by omega)
      | succ n3 ih3 =>
        intro v3_2 vw3 q3_0 q3_1 hT3
        rw [d_X3_begins_82] at hT3
        refine z_iload_n ok dX3_begins_82 2 rfl ?_
        refine z_bipush ok dX3_begins_83 (x := 6) (by decide) ?_
        refine z_icmp_ge_n ok dX3_begins_85 168 (by decide) v3_2 6 rfl rfl (by omega) (fun c13 => ?_) (fun c13 => ?_)
        · rw [if_pos c13] at hT3
          refine z_locs [0, 1, 2] (lv' := [(0, .ref (zad G 47)), (1, .int x1), (2, .int (nI v3_2))]) rfl ?_
          exact hk3 v3_2 vw3 (by omega) hT3
        · rw [if_neg c13] at hT3
          refine z_iload_n ok dX3_begins_88 2 rfl ?_
          replace hT3 := zlet_open hT3
          obtain ⟨x14, hx14, hT3⟩ := hT3
          have hsx14 := hx14.symm
          have hJx14 : zZ k G N vw3 120 [(0, .ref (zad G 47)), (1, .int x1), (2, .int (nI v3_2))] [.int x14] := by
            refine z_istore_n ok dX3_begins_120 (hI 3 (by decide)) (lv' := [(3, .int x14), (0, .ref (zad G 47)), (1, .int x1), (2, .int (nI v3_2))]) rfl ?_
            refine z_aload_n ok dX3_begins_121 1 rfl ?_
            refine z_iload_n ok dX3_begins_122 3 rfl ?_
            refine z_iconst ok dX3_begins_123 (x := 0) (by decide) ?_
            refine z_iload_n ok dX3_begins_124 0 rfl ?_
            refine z_iload_n ok dX3_begins_125 2 rfl ?_
            refine z_callVv ok old dX3_begins_126 [] (c_X3_lays G N hN hg vw3 v3_2 (by omega) 0 x14 x1) zy_X3_lays zw_537 47 (by omega) (zE_47 G vw3) rfl rfl rfl rfl rfl (by decide) (Nat.le_of_ble_eq_true rfl) ?_
            replace hT3 := zlet_open hT3
            obtain ⟨w15, hw15, hT3⟩ := hT3
            rw [← hw15]
            refine z_aload_n ok dX3_begins_129 1 rfl ?_
            refine z_bipush ok dX3_begins_130 (x := 6) (by decide) ?_
            refine z_iload_n ok dX3_begins_132 3 rfl ?_
            refine z_iadd_n ok dX3_begins_133 6 v3_2 rfl rfl ?_
            refine z_iconst ok dX3_begins_134 (x := 0) (by decide) ?_
            refine z_iconst ok dX3_begins_135 (x := 4) (by decide) ?_
            refine z_iload_n ok dX3_begins_136 2 rfl ?_
            refine z_callVv ok old dX3_begins_137 [] (c_X3_lays G N hN hg w15 (6 + v3_2) (by omega) 0 4 x1) zy_X3_lays zw_537 47 (by omega) (zE_47 G w15) rfl rfl rfl rfl rfl (by decide) (Nat.le_of_ble_eq_true rfl) ?_
            replace hT3 := zlet_open hT3
            obtain ⟨w16, hw16, hT3⟩ := hT3
            rw [← hw16]
            refine z_aload_n ok dX3_begins_140 1 rfl ?_
            refine z_bipush ok dX3_begins_141 (x := 30) (by decide) ?_
            refine z_iload_n ok dX3_begins_143 3 rfl ?_
            refine z_iadd_n ok dX3_begins_144 30 v3_2 rfl rfl ?_
            refine z_iconst ok dX3_begins_145 (x := 1) (by decide) ?_
            refine z_iload_n ok dX3_begins_146 0 rfl ?_
            refine z_iload_n ok dX3_begins_147 2 rfl ?_
            refine z_callVv ok old dX3_begins_148 [] (c_X3_lays G N hN hg w16 (30 + v3_2) (by omega) 1 x14 x1) zy_X3_lays zw_537 47 (by omega) (zE_47 G w16) rfl rfl rfl rfl rfl (by decide) (Nat.le_of_ble_eq_true rfl) ?_
            replace hT3 := zlet_open hT3
            obtain ⟨w17, hw17, hT3⟩ := hT3
            rw [← hw17]
            refine z_aload_n ok dX3_begins_151 1 rfl ?_
            refine z_bipush ok dX3_begins_152 (x := 24) (by decide) ?_
            refine z_iload_n ok dX3_begins_154 3 rfl ?_
            refine z_iadd_n ok dX3_begins_155 24 v3_2 rfl rfl ?_
            refine z_iconst ok dX3_begins_156 (x := 1) (by decide) ?_
            refine z_iconst ok dX3_begins_157 (x := 4) (by decide) ?_
            refine z_iload_n ok dX3_begins_158 2 rfl ?_
            refine z_callVv ok old dX3_begins_159 [] (c_X3_lays G N hN hg w17 (24 + v3_2) (by omega) 1 4 x1) zy_X3_lays zw_537 47 (by omega) (zE_47 G w17) rfl rfl rfl rfl rfl (by decide) (Nat.le_of_ble_eq_true rfl) ?_
            replace hT3 := zlet_open hT3
            obtain ⟨w18, hw18, hT3⟩ := hT3
            rw [← hw18]
            refine z_iinc ok dX3_begins_162 (hI 2 (by decide)) 3 rfl (y := (nI (v3_2 + 1))) (z_incn v3_2 1) (lv' := [(2, .int (nI (v3_2 + 1))), (3, .int x14), (0, .ref (zad G 47)), (1, .int x1)]) rfl ?_
            refine z_goto ok dX3_begins_165 82 (by decide) ?_
            refine z_locs [2, 3, 0] (lv' := [(0, .ref (zad G 47)), (1, .int x1), (2, .int (nI (v3_2 + 1)))]) rfl ?_
            exact ih3 (v3_2 + 1) w18 (by omega) (by omega) hT3
          refine z_if_eq ok dX3_begins_89 97 (by decide) (fun c19 => ?_) (fun c19 => ?_)
          · rw [if_pos c19] at hsx14
            refine z_iconst ok dX3_begins_97 (x := 1) (by decide) ?_
            refine z_goto ok dX3_begins_98 120 (by decide) ?_
            rw [← hsx14] at hJx14
            refine z_locs [0, 1, 2] (lv' := [(0, .ref (zad G 47)), (1, .int x1), (2, .int (nI v3_2))]) rfl ?_
            exact hJx14
          · rw [if_neg c19] at hsx14
            refine z_iload_n ok dX3_begins_92 2 rfl ?_
            refine z_iconst ok dX3_begins_93 (x := 5) (by decide) ?_
            refine z_icmp_ne_n ok dX3_begins_94 101 (by decide) v3_2 5 rfl rfl (by omega) (fun c20 => ?_) (fun c20 => ?_)
            · rw [if_neg c20] at hsx14
              refine z_iload_n ok dX3_begins_101 2 rfl ?_
              refine z_iconst ok dX3_begins_102 (x := 2) (by decide) ?_
              refine z_icmp_ne_n ok dX3_begins_103 110 (by decide) v3_2 2 rfl rfl (by omega) (fun c21 => ?_) (fun c21 => ?_)
              · rw [if_neg c21] at hsx14
                refine z_iload_n ok dX3_begins_110 2 rfl ?_
                refine z_iconst ok dX3_begins_111 (x := 3) (by decide) ?_
                refine z_icmp_ne_n ok dX3_begins_112 119 (by decide) v3_2 3 rfl rfl (by omega) (fun c22 => ?_) (fun c22 => ?_)
                · rw [if_neg c22] at hsx14
                  refine z_iconst ok dX3_begins_119 (x := 3) (by decide) ?_
                  rw [← hsx14] at hJx14
                  refine z_locs [0, 1, 2] (lv' := [(0, .ref (zad G 47)), (1, .int x1), (2, .int (nI v3_2))]) rfl ?_
                  exact hJx14
                · rw [if_pos c22] at hsx14
                  refine z_iconst ok dX3_begins_115 (x := 2) (by decide) ?_
                  refine z_goto ok dX3_begins_116 120 (by decide) ?_
                  rw [← hsx14] at hJx14
                  refine z_locs [0, 1, 2] (lv' := [(0, .ref (zad G 47)), (1, .int x1), (2, .int (nI v3_2))]) rfl ?_
                  exact hJx14
              · rw [if_pos c21] at hsx14
                refine z_iconst ok dX3_begins_106 (x := 0) (by decide) ?_
                refine z_goto ok dX3_begins_107 120 (by decide) ?_
                rw [← hsx14] at hJx14
                refine z_locs [0, 1, 2] (lv' := [(0, .ref (zad G 47)), (1, .int x1), (2, .int (nI v3_2))]) rfl ?_
                exact hJx14
            · rw [if_pos c20] at hsx14
              refine z_iconst ok dX3_begins_97 (x := 1) (by decide) ?_
              refine z_goto ok dX3_begins_98 120 (by decide) ?_
              rw [← hsx14] at hJx14
              refine z_locs [0, 1, 2] (lv' := [(0, .ref (zad G 47)), (1, .int x1), (2, .int (nI v3_2))]) rfl ?_
              exact hJx14
    exact hl3 7 0 ew2 (by omega) (by omega) hT2
  have hl2 : ∀ (n2 : Nat) (v2_2 : Nat) (vw2 : xW), 36 < v2_2 + n2 → v2_2 ≤ 36 → d_X3_begins_13  kt2 n2 v2_2 vw2 = u → zZ k G N vw2 13 [(0, .ref (zad G 47)), (1, .int x1), (2, .int (nI v2_2))] [] := by
    intro n2
    induction n2 with
    | zero =>
      intro v2_2 vw2 q2_0 q2_1
      exact absurd q2_0 (by omega)
    | succ n2 ih2 =>
      intro v2_2 vw2 q2_0 q2_1 hT2
      rw [d_X3_begins_13] at hT2
      refine z_iload_n ok dX3_begins_13 2 rfl ?_
      refine z_bipush ok dX3_begins_14 (x := 36) (by decide) ?_
      refine z_icmp_ge_n ok dX3_begins_16 80 (by decide) v2_2 36 rfl rfl (by omega) (fun c23 => ?_) (fun c23 => ?_)
      · rw [if_pos c23] at hT2
        refine z_locs [0, 1, 2] (lv' := [(0, .ref (zad G 47)), (1, .int x1), (2, .int (nI v2_2))]) rfl ?_
        exact hk2 v2_2 vw2 (by omega) hT2
      · rw [if_neg c23] at hT2
        refine z_aload_n ok dX3_begins_19 0 rfl ?_
        refine z_iload_n ok dX3_begins_20 2 rfl ?_
        refine z_iconst ok dX3_begins_21 (x := (-1)) (by decide) ?_
        refine z_iconst ok dX3_begins_22 (x := 0) (by decide) ?_
        refine z_iconst ok dX3_begins_23 (x := 0) (by decide) ?_
        refine z_callVv ok old dX3_begins_24 [] (c_X3_lays G N hN hg vw2 v2_2 (by omega) (-1) 0 0) zy_X3_lays zw_537 47 (by omega) (zE_47 G vw2) rfl rfl rfl rfl rfl (by decide) (Nat.le_of_ble_eq_true rfl) ?_
        replace hT2 := zlet_open hT2
        obtain ⟨w24, hw24, hT2⟩ := hT2
        rw [← hw24]
        refine z_aload_n ok dX3_begins_27 0 rfl ?_
        refine z_get_X3_st ok dX3_begins_28 hN zw_549 ?_
        refine z_bipush ok dX3_begins_31 (x := 108) (by decide) ?_
        refine z_iload_n ok dX3_begins_33 2 rfl ?_
        refine z_iadd_n ok dX3_begins_34 108 v2_2 rfl rfl ?_
        refine z_iload_n ok dX3_begins_35 2 rfl ?_
        replace hT2 := zlet_open hT2
        obtain ⟨x25, hx25, hT2⟩ := hT2
        have hsx25 := hx25.symm
        have hJx25 : zZ k G N w24 73 [(0, .ref (zad G 47)), (1, .int x1), (2, .int (nI v2_2))] [.int x25, .int (nI (108 + v2_2)), .ref (zad G 48)] := by
          refine z_mst48 ok dX3_begins_73 hN (108 + v2_2) rfl (by omega) ?_
          replace hT2 := zlet_open hT2
          obtain ⟨w26, hw26, hT2⟩ := hT2
          rw [← hw26]
          refine z_iinc ok dX3_begins_74 (hI 2 (by decide)) 2 rfl (y := (nI (v2_2 + 1))) (z_incn v2_2 1) (lv' := [(2, .int (nI (v2_2 + 1))), (0, .ref (zad G 47)), (1, .int x1)]) rfl ?_
          refine z_goto ok dX3_begins_77 13 (by decide) ?_
          refine z_locs [1, 2, 0] (lv' := [(0, .ref (zad G 47)), (1, .int x1), (2, .int (nI (v2_2 + 1)))]) rfl ?_
          exact ih2 (v2_2 + 1) w26 (by omega) (by omega) hT2
        refine z_if_eq ok dX3_begins_36 68 (by decide) (fun c27 => ?_) (fun c27 => ?_)
        · rw [if_pos c27] at hsx25
          refine z_iconst ok dX3_begins_68 (x := 1) (by decide) ?_
          refine z_goto ok dX3_begins_69 73 (by decide) ?_
          rw [← hsx25] at hJx25
          refine z_locs [0, 1, 2] (lv' := [(0, .ref (zad G 47)), (1, .int x1), (2, .int (nI v2_2))]) rfl ?_
          exact hJx25
        · rw [if_neg c27] at hsx25
          refine z_iload_n ok dX3_begins_39 2 rfl ?_
          refine z_iconst ok dX3_begins_40 (x := 5) (by decide) ?_
          refine z_icmp_eq_n ok dX3_begins_41 68 (by decide) v2_2 5 rfl rfl (by omega) (fun c28 => ?_) (fun c28 => ?_)
          · rw [if_pos c28] at hsx25
            refine z_iconst ok dX3_begins_68 (x := 1) (by decide) ?_
            refine z_goto ok dX3_begins_69 73 (by decide) ?_
            rw [← hsx25] at hJx25
            refine z_locs [0, 1, 2] (lv' := [(0, .ref (zad G 47)), (1, .int x1), (2, .int (nI v2_2))]) rfl ?_
            exact hJx25
          · rw [if_neg c28] at hsx25
            refine z_iload_n ok dX3_begins_44 2 rfl ?_
            refine z_bipush ok dX3_begins_45 (x := 14) (by decide) ?_
            refine z_icmp_eq_n ok dX3_begins_47 68 (by decide) v2_2 14 rfl rfl (by omega) (fun c29 => ?_) (fun c29 => ?_)
            · rw [if_pos c29] at hsx25
              refine z_iconst ok dX3_begins_68 (x := 1) (by decide) ?_
              refine z_goto ok dX3_begins_69 73 (by decide) ?_
              rw [← hsx25] at hJx25
              refine z_locs [0, 1, 2] (lv' := [(0, .ref (zad G 47)), (1, .int x1), (2, .int (nI v2_2))]) rfl ?_
              exact hJx25
            · rw [if_neg c29] at hsx25
              refine z_iload_n ok dX3_begins_50 2 rfl ?_
              refine z_bipush ok dX3_begins_51 (x := 21) (by decide) ?_
              refine z_icmp_eq_n ok dX3_begins_53 68 (by decide) v2_2 21 rfl rfl (by omega) (fun c30 => ?_) (fun c30 => ?_)
              · rw [if_pos c30] at hsx25
                refine z_iconst ok dX3_begins_68 (x := 1) (by decide) ?_
                refine z_goto ok dX3_begins_69 73 (by decide) ?_
                rw [← hsx25] at hJx25
                refine z_locs [0, 1, 2] (lv' := [(0, .ref (zad G 47)), (1, .int x1), (2, .int (nI v2_2))]) rfl ?_
                exact hJx25
              · rw [if_neg c30] at hsx25
                refine z_iload_n ok dX3_begins_56 2 rfl ?_
                refine z_bipush ok dX3_begins_57 (x := 30) (by decide) ?_
                refine z_icmp_eq_n ok dX3_begins_59 68 (by decide) v2_2 30 rfl rfl (by omega) (fun c31 => ?_) (fun c31 => ?_)
                · rw [if_pos c31] at hsx25
                  refine z_iconst ok dX3_begins_68 (x := 1) (by decide) ?_
                  refine z_goto ok dX3_begins_69 73 (by decide) ?_
                  rw [← hsx25] at hJx25
                  refine z_locs [0, 1, 2] (lv' := [(0, .ref (zad G 47)), (1, .int x1), (2, .int (nI v2_2))]) rfl ?_
                  exact hJx25
                · rw [if_neg c31] at hsx25
                  refine z_iload_n ok dX3_begins_62 2 rfl ?_
                  refine z_bipush ok dX3_begins_63 (x := 35) (by decide) ?_
                  refine z_icmp_ne_n ok dX3_begins_65 72 (by decide) v2_2 35 rfl rfl (by omega) (fun c32 => ?_) (fun c32 => ?_)
                  · rw [if_neg c32] at hsx25
                    refine z_iconst ok dX3_begins_72 (x := 0) (by decide) ?_
                    rw [← hsx25] at hJx25
                    refine z_locs [0, 1, 2] (lv' := [(0, .ref (zad G 47)), (1, .int x1), (2, .int (nI v2_2))]) rfl ?_
                    exact hJx25
                  · rw [if_pos c32] at hsx25
                    refine z_iconst ok dX3_begins_68 (x := 1) (by decide) ?_
                    refine z_goto ok dX3_begins_69 73 (by decide) ?_
                    rw [← hsx25] at hJx25
                    refine z_locs [0, 1, 2] (lv' := [(0, .ref (zad G 47)), (1, .int x1), (2, .int (nI v2_2))]) rfl ?_
                    exact hJx25
  exact hl2 37 0 w (by omega) (by omega) hT

def d_X3_setUp (w : xW)  : Int32 × xW :=
  zlet (d_X3_records w) fun w1 =>
  zlet (d_X3_begins w1) fun w2 =>
  ((d_X3_allSprings w2), w2)
set_option maxRecDepth 100000 in
set_option maxHeartbeats 4000000 in
theorem c_X3_setUp (G : zG) (N : Nat) (hN : 54 ≤ N) (hg : zGeo G N) (w : xW) (h_p : (∃ p, p ≤ 5 ∧ xg w 17 0 = nI p)) : zM yX3_setUp cX3_setUp 1 (some .int) 3 66 G N [.ref (zad G 47)] w (some (d_X3_setUp w).1) (d_X3_setUp w).2 := by
  obtain ⟨r, u, hT⟩ := zpair (d_X3_setUp w)
  rw [hT]
  dsimp only
  unfold d_X3_setUp at hT
  refine zM_of zy_X3_setUp.2.2.2.2.2.2.2 hg ⟨Nat.le_of_ble_eq_true rfl, by decide⟩ rfl (fun k ok hE hI => ?_)
  have old := hE.old
  refine z_aload_n ok dX3_setUp_0 0 rfl ?_
  refine z_callVv ok old dX3_setUp_1 [] (c_X3_records G N hN hg w (by first | assumption | omega)) zy_X3_records zw_597 47 (by omega) (zE_47 G w) rfl rfl rfl rfl rfl (by decide) (Nat.le_of_ble_eq_true rfl) ?_
  replace hT := zlet_open hT
  obtain ⟨w1, hw1, hT⟩ := hT
  rw [← hw1]
  refine z_aload_n ok dX3_setUp_4 0 rfl ?_
  refine z_callVv ok old dX3_setUp_5 [] (c_X3_begins G N hN hg w1 ) zy_X3_begins zw_533 47 (by omega) (zE_47 G w1) rfl rfl rfl rfl rfl (by decide) (Nat.le_of_ble_eq_true rfl) ?_
  replace hT := zlet_open hT
  obtain ⟨w2, hw2, hT⟩ := hT
  rw [← hw2]
  refine z_aload_n ok dX3_setUp_8 0 rfl ?_
  refine z_callVi ok old dX3_setUp_9 [] (c_X3_allSprings G N hN hg w2 ) zy_X3_allSprings zw_541 47 (by omega) (zE_47 G w2) rfl rfl rfl rfl rfl (by decide) (Nat.le_of_ble_eq_true rfl) ?_
  exact z_iret ok hE dX3_setUp_12 rfl ⟨congrArg Prod.fst hT, congrArg Prod.snd hT⟩

def d_X3_canBe (w : xW) (what : Int32) (v : Int32) : Int32 :=
  if what = 0 then ((d_X3_in w v 1 12))
  else (if (d_X3_in w what 1 2) = 0 then (0)
  else (if (d_X3_in w v 0 5) = 0 then (0)
  else (1)))
theorem zcanBe {w : xW} {what v : Int32} (h : ¬ d_X3_canBe w what v = 0) : what = nI what.toNatClampNeg ∧ what.toNatClampNeg < 3 := by
  unfold d_X3_canBe at h
  by_cases h0 : what = 0
  · subst h0; exact ⟨rfl, by decide⟩
  · rw [if_neg h0] at h
    by_cases h1 : d_X3_in w what 1 2 = 0
    · rw [if_pos h1] at h; exact absurd rfl h
    · exact zrange (by decide) (by decide) (by decide) (zin_ok h1).1 (zin_ok h1).2

set_option maxRecDepth 100000 in
set_option maxHeartbeats 4000000 in
theorem c_X3_canBe (G : zG) (N : Nat) (hN : 54 ≤ N) (hg : zGeo G N) (w : xW) (what : Int32) (v : Int32) : zM yX3_canBe cX3_canBe 2 (some .boolean) 1 22 G N [.int what, .int v] w (some (d_X3_canBe w what v)) w := by
  generalize hT : d_X3_canBe w what v = r
  unfold d_X3_canBe at hT
  refine zM_of zy_X3_canBe.2.2.2.2.2.2 hg ⟨Nat.le_of_ble_eq_true rfl, by decide⟩ rfl (fun k ok hE hI => ?_)
  have old := hE.old
  refine z_iload_n ok dX3_canBe_0 0 rfl ?_
  refine z_if_ne ok dX3_canBe_1 14 (by decide) (fun c1 => ?_) (fun c1 => ?_)
  · rw [if_neg c1] at hT
    refine z_iload_n ok dX3_canBe_14 0 rfl ?_
    refine z_iconst ok dX3_canBe_15 (x := 1) (by decide) ?_
    refine z_iconst ok dX3_canBe_16 (x := 2) (by decide) ?_
    refine z_callSi ok old dX3_canBe_17 [] (c_X3_in G N hN hg w what 1 2) zy_X3_in zw_608 rfl rfl (by decide) (Nat.le_of_ble_eq_true rfl) ?_
    refine z_if_eq ok dX3_canBe_20 36 (by decide) (fun c2 => ?_) (fun c2 => ?_)
    · rw [if_pos c2] at hT
      refine z_iconst ok dX3_canBe_36 (x := 0) (by decide) ?_
      exact z_iret ok hE dX3_canBe_37 rfl ⟨hT, rfl⟩
    · rw [if_neg c2] at hT
      refine z_iload_n ok dX3_canBe_23 1 rfl ?_
      refine z_iconst ok dX3_canBe_24 (x := 0) (by decide) ?_
      refine z_iconst ok dX3_canBe_25 (x := 5) (by decide) ?_
      refine z_callSi ok old dX3_canBe_26 [] (c_X3_in G N hN hg w v 0 5) zy_X3_in zw_608 rfl rfl (by decide) (Nat.le_of_ble_eq_true rfl) ?_
      refine z_if_eq ok dX3_canBe_29 36 (by decide) (fun c3 => ?_) (fun c3 => ?_)
      · rw [if_pos c3] at hT
        refine z_iconst ok dX3_canBe_36 (x := 0) (by decide) ?_
        exact z_iret ok hE dX3_canBe_37 rfl ⟨hT, rfl⟩
      · rw [if_neg c3] at hT
        refine z_iconst ok dX3_canBe_32 (x := 1) (by decide) ?_
        refine z_goto ok dX3_canBe_33 37 (by decide) ?_
        exact z_iret ok hE dX3_canBe_37 rfl ⟨hT, rfl⟩
  · rw [if_pos c1] at hT
    refine z_iload_n ok dX3_canBe_4 1 rfl ?_
    refine z_iconst ok dX3_canBe_5 (x := 1) (by decide) ?_
    refine z_bipush ok dX3_canBe_6 (x := 12) (by decide) ?_
    refine z_callSi ok old dX3_canBe_8 [] (c_X3_in G N hN hg w v 1 12) zy_X3_in zw_608 rfl rfl (by decide) (Nat.le_of_ble_eq_true rfl) ?_
    refine z_goto ok dX3_canBe_11 37 (by decide) ?_
    exact z_iret ok hE dX3_canBe_37 (zin_nar _ _ _ _) ⟨hT, rfl⟩

def d_X3_set_39k (x3 : Int32) (e5_4 : Nat) (ew5 : xW) : Int32 × xW :=
  (x3, ew5)
def d_X3_set_39  (kt5 : Nat → xW → (Int32 × xW)) : Nat → Nat → xW → Int32 × xW
  | 0, _, _ => default
  | n5 + 1, v5_4, vw5 => if 36 ≤ v5_4 then (kt5 v5_4 vw5)
  else (zlet (((xg vw5 11 (72 + v5_4)) - (xg vw5 11 149))) fun x7 =>
  if x7 ≤ 0 then (d_X3_set_39  kt5 n5 (v5_4 + 1) vw5)
  else (zlet (xs vw5 11 (72 + v5_4) ((xg vw5 11 (72 + v5_4)) - x7)) fun w9 =>
  zlet (xs w9 11 158 ((xg w9 11 158) - x7)) fun w10 =>
  d_X3_set_39  kt5 n5 (v5_4 + 1) w10))
def d_X3_set (w : xW) (what : Int32) (value : Int32) : Int32 × xW :=
  if (d_X3_canBe w what value) = 0 then (((-1), w))
  else (zlet what.toNatClampNeg fun c_what =>
  zlet (d_X3_records w) fun w2 =>
  zlet ((xg w2 11 (149 + c_what))) fun x3 =>
  zlet (xs w2 11 (149 + c_what) value) fun w4 =>
  d_X3_set_39  (d_X3_set_39k x3) 37 0 w4)
set_option maxRecDepth 100000 in
set_option maxHeartbeats 4000000 in
theorem c_X3_set (G : zG) (N : Nat) (hN : 54 ≤ N) (hg : zGeo G N) (w : xW) (what : Int32) (value : Int32) (h_p : (∃ p, p ≤ 5 ∧ xg w 17 0 = nI p)) : zM yX3_set cX3_set 6 (some .int) 2 43 G N [.ref (zad G 47), .int what, .int value] w (some (d_X3_set w what value).1) (d_X3_set w what value).2 := by
  obtain ⟨r, u, hT⟩ := zpair (d_X3_set w what value)
  rw [hT]
  dsimp only
  unfold d_X3_set at hT
  refine zM_of zy_X3_set.2.2.2.2.2.2.2 hg ⟨Nat.le_of_ble_eq_true rfl, by decide⟩ rfl (fun k ok hE hI => ?_)
  have old := hE.old
  refine z_iload_n ok dX3_set_0 1 rfl ?_
  refine z_iload_n ok dX3_set_1 2 rfl ?_
  refine z_callSi ok old dX3_set_2 [] (c_X3_canBe G N hN hg w what value) zy_X3_canBe zw_605 rfl rfl (by decide) (Nat.le_of_ble_eq_true rfl) ?_
  refine z_if_ne ok dX3_set_5 10 (by decide) (fun c1 => ?_) (fun c1 => ?_)
  · rw [if_neg c1] at hT
    replace hT := zlet_open hT
    obtain ⟨c_what, hc_what, hT⟩ := hT
    obtain ⟨lc_what, ec_what⟩ := zcellx (zcanBe (by assumption)) hc_what
    subst ec_what
    refine z_aload_n ok dX3_set_10 0 rfl ?_
    refine z_callVv ok old dX3_set_11 [] (c_X3_records G N hN hg w (by first | assumption | omega)) zy_X3_records zw_597 47 (by omega) (zE_47 G w) rfl rfl rfl rfl rfl (by decide) (Nat.le_of_ble_eq_true rfl) ?_
    replace hT := zlet_open hT
    obtain ⟨w2, hw2, hT⟩ := hT
    rw [← hw2]
    refine z_aload_n ok dX3_set_14 0 rfl ?_
    refine z_get_X3_st ok dX3_set_15 hN zw_549 ?_
    refine z_sipush ok dX3_set_18 (x := 149) (by decide) ?_
    refine z_iload_n ok dX3_set_21 1 rfl ?_
    refine z_iadd_n ok dX3_set_22 149 c_what rfl rfl ?_
    refine z_mld48 ok dX3_set_23 hN (149 + c_what) rfl (by omega) ?_
    replace hT := zlet_open hT
    obtain ⟨x3, hx3, hT⟩ := hT
    rw [← hx3]
    refine z_istore_n ok dX3_set_24 (hI 3 (by decide)) (lv' := [(3, .int x3), (0, .ref (zad G 47)), (1, .int (nI c_what)), (2, .int value)]) rfl ?_
    refine z_aload_n ok dX3_set_25 1 rfl ?_
    refine z_get_X3_st ok dX3_set_26 hN zw_549 ?_
    refine z_sipush ok dX3_set_29 (x := 149) (by decide) ?_
    refine z_iload_n ok dX3_set_32 2 rfl ?_
    refine z_iadd_n ok dX3_set_33 149 c_what rfl rfl ?_
    refine z_iload_n ok dX3_set_34 3 rfl ?_
    refine z_mst48 ok dX3_set_35 hN (149 + c_what) rfl (by omega) ?_
    replace hT := zlet_open hT
    obtain ⟨w4, hw4, hT⟩ := hT
    rw [← hw4]
    refine z_iconst ok dX3_set_36 (x := 0) (by decide) ?_
    refine z_istore ok dX3_set_37 (hI 4 (by decide)) (lv' := [(4, .int 0), (3, .int x3), (0, .ref (zad G 47)), (1, .int (nI c_what)), (2, .int value)]) rfl ?_
    refine z_locs [2, 3, 4, 1, 0] (lv' := [(0, .ref (zad G 47)), (1, .int (nI c_what)), (2, .int value), (3, .int x3), (4, .int 0)]) rfl ?_
    obtain ⟨kt5, hkt5⟩ : ∃ z, z = (d_X3_set_39k x3) := ⟨_, rfl⟩
    rw [← hkt5] at hT
    have hk5 : ∀ (e5_4 : Nat) (ew5 : xW), e5_4 ≤ 36 → kt5 e5_4 ew5 = (r, u) → zZ k G N ew5 106 [(0, .ref (zad G 47)), (1, .int (nI c_what)), (2, .int value), (3, .int x3), (4, .int (nI e5_4))] [] := by
      intro e5_4 ew5 q5_0 hT5
      rw [hkt5, d_X3_set_39k] at hT5
      refine z_iload_n ok dX3_set_106 3 rfl ?_
      exact z_iret ok hE dX3_set_107 rfl ⟨congrArg Prod.fst hT5, congrArg Prod.snd hT5⟩
    have hl5 : ∀ (n5 : Nat) (v5_4 : Nat) (vw5 : xW), 36 < v5_4 + n5 → v5_4 ≤ 36 → d_X3_set_39  kt5 n5 v5_4 vw5 = (r, u) → zZ k G N vw5 39 [(0, .ref (zad G 47)), (1, .int (nI c_what)), (2, .int value), (3, .int x3), (4, .int (nI v5_4))] [] := by
      intro n5
      induction n5 with
      | zero =>
        intro v5_4 vw5 q5_0 q5_1
        exact absurd q5_0 (by omega)
      | succ n5 ih5 =>
        intro v5_4 vw5 q5_0 q5_1 hT5
        rw [d_X3_set_39] at hT5
        refine z_iload ok dX3_set_39 4 rfl ?_
        refine z_bipush ok dX3_set_41 (x := 36) (by decide) ?_
        refine z_icmp_ge_n ok dX3_set_43 106 (by decide) v5_4 36 rfl rfl (by omega) (fun c6 => ?_) (fun c6 => ?_)
        · rw [if_pos c6] at hT5
          refine z_locs [0, 1, 2, 3, 4] (lv' := [(0, .ref (zad G 47)), (1, .int (nI c_what)), (2, .int value), (3, .int x3), (4, .int (nI v5_4))]) rfl ?_
          exact hk5 v5_4 vw5 (by omega) hT5
        · rw [if_neg c6] at hT5
          refine z_aload_n ok dX3_set_46 0 rfl ?_
          refine z_get_X3_st ok dX3_set_47 hN zw_549 ?_
          refine z_bipush ok dX3_set_50 (x := 72) (by decide) ?_
          refine z_iload ok dX3_set_52 4 rfl ?_
          refine z_iadd_n ok dX3_set_54 72 v5_4 rfl rfl ?_
          refine z_mld48 ok dX3_set_55 hN (72 + v5_4) rfl (by omega) ?_
          refine z_aload_n ok dX3_set_56 0 rfl ?_
          refine z_get_X3_st ok dX3_set_57 hN zw_549 ?_
          refine z_sipush ok dX3_set_60 (x := 149) (by decide) ?_
          refine z_mld48 ok dX3_set_63 hN 149 rfl (by omega) ?_
          refine z_isub ok dX3_set_64 ?_
          replace hT5 := zlet_open hT5
          obtain ⟨x7, hx7, hT5⟩ := hT5
          rw [← hx7]
          refine z_istore ok dX3_set_65 (hI 5 (by decide)) (lv' := [(5, .int x7), (0, .ref (zad G 47)), (1, .int (nI c_what)), (2, .int value), (3, .int x3), (4, .int (nI v5_4))]) rfl ?_
          refine z_iload ok dX3_set_67 0 rfl ?_
          refine z_if_le ok dX3_set_69 100 (by decide) (fun c8 => ?_) (fun c8 => ?_)
          · rw [if_pos c8] at hT5
            refine z_iinc ok dX3_set_100 (hI 4 (by decide)) 5 rfl (y := (nI (v5_4 + 1))) (z_incn v5_4 1) (lv' := [(4, .int (nI (v5_4 + 1))), (5, .int x7), (0, .ref (zad G 47)), (1, .int (nI c_what)), (2, .int value), (3, .int x3)]) rfl ?_
            refine z_goto ok dX3_set_103 39 (by decide) ?_
            refine z_locs [2, 3, 4, 5, 0] (lv' := [(0, .ref (zad G 47)), (1, .int (nI c_what)), (2, .int value), (3, .int x3), (4, .int (nI (v5_4 + 1)))]) rfl ?_
            exact ih5 (v5_4 + 1) vw5 (by omega) (by omega) hT5
          · rw [if_neg c8] at hT5
            refine z_aload_n ok dX3_set_72 1 rfl ?_
            refine z_get_X3_st ok dX3_set_73 hN zw_549 ?_
            refine z_bipush ok dX3_set_76 (x := 72) (by decide) ?_
            refine z_iload ok dX3_set_78 5 rfl ?_
            refine z_iadd_n ok dX3_set_80 72 v5_4 rfl rfl ?_
            refine z_dup2 ok dX3_set_81 rfl rfl ?_
            refine z_mld48 ok dX3_set_82 hN (72 + v5_4) rfl (by omega) ?_
            refine z_iload ok dX3_set_83 0 rfl ?_
            refine z_isub ok dX3_set_85 ?_
            refine z_mst48 ok dX3_set_86 hN (72 + v5_4) rfl (by omega) ?_
            replace hT5 := zlet_open hT5
            obtain ⟨w9, hw9, hT5⟩ := hT5
            rw [← hw9]
            refine z_aload_n ok dX3_set_87 1 rfl ?_
            refine z_get_X3_st ok dX3_set_88 hN zw_549 ?_
            refine z_sipush ok dX3_set_91 (x := 158) (by decide) ?_
            refine z_dup2 ok dX3_set_94 rfl rfl ?_
            refine z_mld48 ok dX3_set_95 hN 158 rfl (by omega) ?_
            refine z_iload ok dX3_set_96 0 rfl ?_
            refine z_isub ok dX3_set_98 ?_
            refine z_mst48 ok dX3_set_99 hN 158 rfl (by omega) ?_
            replace hT5 := zlet_open hT5
            obtain ⟨w10, hw10, hT5⟩ := hT5
            rw [← hw10]
            refine z_iinc ok dX3_set_100 (hI 4 (by decide)) 5 rfl (y := (nI (v5_4 + 1))) (z_incn v5_4 1) (lv' := [(4, .int (nI (v5_4 + 1))), (5, .int x7), (0, .ref (zad G 47)), (1, .int (nI c_what)), (2, .int value), (3, .int x3)]) rfl ?_
            refine z_goto ok dX3_set_103 39 (by decide) ?_
            refine z_locs [2, 3, 4, 5, 0] (lv' := [(0, .ref (zad G 47)), (1, .int (nI c_what)), (2, .int value), (3, .int x3), (4, .int (nI (v5_4 + 1)))]) rfl ?_
            exact ih5 (v5_4 + 1) w10 (by omega) (by omega) hT5
    exact hl5 37 0 w4 (by omega) (by omega) hT
  · rw [if_pos c1] at hT
    refine z_iconst ok dX3_set_8 (x := (-1)) (by decide) ?_
    exact z_iret ok hE dX3_set_9 rfl ⟨congrArg Prod.fst hT, congrArg Prod.snd hT⟩

def d_X3_put (w : xW) (cell : Int32) (side : Int32) (kind : Int32) (spring : Int32) : Int32 × xW :=
  if (d_X3_isCell w cell) = 0 then (((-1), w))
  else (if (d_X3_in w side (-1) 1) = 0 then (((-1), w))
  else (if (d_X3_in w kind 0 4) = 0 then (((-1), w))
  else (if (d_X3_in w spring 0 (xg w 11 149)) = 0 then (((-1), w))
  else (zlet cell.toNatClampNeg fun c_cell =>
  if (xg w 11 145) ≤ 0 then (zlet (d_X3_records w) fun w6 =>
  zlet (if (xg w6 11 c_cell) = (-1) then (0)
  else (1) : Int32) fun x7 =>
  zlet ((xg w6 11 (72 + c_cell))) fun x8 =>
  zlet (if side = (-1) then (zlet (d_X3_lays w6 c_cell (-1) 0 0) fun w13 =>
  w13)
  else (zlet (d_X3_lays w6 c_cell side kind spring) fun w12 =>
  w12) : xW) fun w9 =>
  zlet (xs w9 11 158 ((xg w9 11 158) + ((xg w9 11 (72 + c_cell)) - x8))) fun w10 =>
  (x7, w10))
  else (((-2), w))))))
set_option maxRecDepth 100000 in
set_option maxHeartbeats 4000000 in
theorem c_X3_put (G : zG) (N : Nat) (hN : 54 ≤ N) (hg : zGeo G N) (w : xW) (cell : Int32) (side : Int32) (kind : Int32) (spring : Int32) (h_p : (∃ p, p ≤ 5 ∧ xg w 17 0 = nI p)) : zM yX3_put cX3_put 7 (some .int) 2 42 G N [.ref (zad G 47), .int cell, .int side, .int kind, .int spring] w (some (d_X3_put w cell side kind spring).1) (d_X3_put w cell side kind spring).2 := by
  obtain ⟨r, u, hT⟩ := zpair (d_X3_put w cell side kind spring)
  rw [hT]
  dsimp only
  unfold d_X3_put at hT
  refine zM_of zy_X3_put.2.2.2.2.2.2.2 hg ⟨Nat.le_of_ble_eq_true rfl, by decide⟩ rfl (fun k ok hE hI => ?_)
  have old := hE.old
  refine z_iload_n ok dX3_put_0 1 rfl ?_
  refine z_callSi ok old dX3_put_1 [] (c_X3_isCell G N hN hg w cell) zy_X3_isCell zw_615 rfl rfl (by decide) (Nat.le_of_ble_eq_true rfl) ?_
  refine z_if_eq ok dX3_put_4 42 (by decide) (fun c1 => ?_) (fun c1 => ?_)
  · rw [if_pos c1] at hT
    refine z_iconst ok dX3_put_42 (x := (-1)) (by decide) ?_
    exact z_iret ok hE dX3_put_43 rfl ⟨congrArg Prod.fst hT, congrArg Prod.snd hT⟩
  · rw [if_neg c1] at hT
    refine z_iload_n ok dX3_put_7 2 rfl ?_
    refine z_iconst ok dX3_put_8 (x := (-1)) (by decide) ?_
    refine z_iconst ok dX3_put_9 (x := 1) (by decide) ?_
    refine z_callSi ok old dX3_put_10 [] (c_X3_in G N hN hg w side (-1) 1) zy_X3_in zw_608 rfl rfl (by decide) (Nat.le_of_ble_eq_true rfl) ?_
    refine z_if_eq ok dX3_put_13 42 (by decide) (fun c2 => ?_) (fun c2 => ?_)
    · rw [if_pos c2] at hT
      refine z_iconst ok dX3_put_42 (x := (-1)) (by decide) ?_
      exact z_iret ok hE dX3_put_43 rfl ⟨congrArg Prod.fst hT, congrArg Prod.snd hT⟩
    · rw [if_neg c2] at hT
      refine z_iload_n ok dX3_put_16 3 rfl ?_
      refine z_iconst ok dX3_put_17 (x := 0) (by decide) ?_
      refine z_iconst ok dX3_put_18 (x := 4) (by decide) ?_
      refine z_callSi ok old dX3_put_19 [] (c_X3_in G N hN hg w kind 0 4) zy_X3_in zw_608 rfl rfl (by decide) (Nat.le_of_ble_eq_true rfl) ?_
      refine z_if_eq ok dX3_put_22 42 (by decide) (fun c3 => ?_) (fun c3 => ?_)
      · rw [if_pos c3] at hT
        refine z_iconst ok dX3_put_42 (x := (-1)) (by decide) ?_
        exact z_iret ok hE dX3_put_43 rfl ⟨congrArg Prod.fst hT, congrArg Prod.snd hT⟩
      · rw [if_neg c3] at hT
        refine z_iload ok dX3_put_25 4 rfl ?_
        refine z_iconst ok dX3_put_27 (x := 0) (by decide) ?_
        refine z_aload_n ok dX3_put_28 0 rfl ?_
        refine z_get_X3_st ok dX3_put_29 hN zw_549 ?_
        refine z_sipush ok dX3_put_32 (x := 149) (by decide) ?_
        refine z_mld48 ok dX3_put_35 hN 149 rfl (by omega) ?_
        refine z_callSi ok old dX3_put_36 [] (c_X3_in G N hN hg w spring 0 (xg w 11 149)) zy_X3_in zw_608 rfl rfl (by decide) (Nat.le_of_ble_eq_true rfl) ?_
        refine z_if_ne ok dX3_put_39 44 (by decide) (fun c4 => ?_) (fun c4 => ?_)
        · rw [if_neg c4] at hT
          replace hT := zlet_open hT
          obtain ⟨c_cell, hc_cell, hT⟩ := hT
          obtain ⟨lc_cell, ec_cell⟩ := zcellx (zisCell3 (by assumption)) hc_cell
          subst ec_cell
          refine z_aload_n ok dX3_put_44 0 rfl ?_
          refine z_get_X3_st ok dX3_put_45 hN zw_549 ?_
          refine z_sipush ok dX3_put_48 (x := 145) (by decide) ?_
          refine z_mld48 ok dX3_put_51 hN 145 rfl (by omega) ?_
          refine z_if_le ok dX3_put_52 58 (by decide) (fun c5 => ?_) (fun c5 => ?_)
          · rw [if_pos c5] at hT
            refine z_aload_n ok dX3_put_58 0 rfl ?_
            refine z_callVv ok old dX3_put_59 [] (c_X3_records G N hN hg w (by first | assumption | omega)) zy_X3_records zw_597 47 (by omega) (zE_47 G w) rfl rfl rfl rfl rfl (by decide) (Nat.le_of_ble_eq_true rfl) ?_
            replace hT := zlet_open hT
            obtain ⟨w6, hw6, hT⟩ := hT
            rw [← hw6]
            refine z_aload_n ok dX3_put_62 0 rfl ?_
            refine z_get_X3_st ok dX3_put_63 hN zw_549 ?_
            refine z_iconst ok dX3_put_66 (x := 0) (by decide) ?_
            refine z_iload_n ok dX3_put_67 1 rfl ?_
            refine z_iadd_0 ok dX3_put_68 ?_
            refine z_mld48 ok dX3_put_69 hN c_cell rfl (by omega) ?_
            refine z_iconst ok dX3_put_70 (x := (-1)) (by decide) ?_
            replace hT := zlet_open hT
            obtain ⟨x7, hx7, hT⟩ := hT
            have hsx7 := hx7.symm
            have hJx7 : zZ k G N w6 79 [(0, .ref (zad G 47)), (1, .int (nI c_cell)), (2, .int side), (3, .int kind), (4, .int spring)] [.int x7] := by
              refine z_istore ok dX3_put_79 (hI 5 (by decide)) (lv' := [(5, .int x7), (0, .ref (zad G 47)), (1, .int (nI c_cell)), (2, .int side), (3, .int kind), (4, .int spring)]) rfl ?_
              refine z_aload_n ok dX3_put_81 1 rfl ?_
              refine z_get_X3_st ok dX3_put_82 hN zw_549 ?_
              refine z_bipush ok dX3_put_85 (x := 72) (by decide) ?_
              refine z_iload_n ok dX3_put_87 2 rfl ?_
              refine z_iadd_n ok dX3_put_88 72 c_cell rfl rfl ?_
              refine z_mld48 ok dX3_put_89 hN (72 + c_cell) rfl (by omega) ?_
              replace hT := zlet_open hT
              obtain ⟨x8, hx8, hT⟩ := hT
              rw [← hx8]
              refine z_istore ok dX3_put_90 (hI 6 (by decide)) (lv' := [(6, .int x8), (5, .int x7), (0, .ref (zad G 47)), (1, .int (nI c_cell)), (2, .int side), (3, .int kind), (4, .int spring)]) rfl ?_
              refine z_iload_n ok dX3_put_92 4 rfl ?_
              refine z_iconst ok dX3_put_93 (x := (-1)) (by decide) ?_
              replace hT := zlet_open hT
              obtain ⟨w9, hw9, hT⟩ := hT
              have hsw9 := hw9.symm
              have hJw9 : zZ k G N w9 117 [(0, .ref (zad G 47)), (1, .int (nI c_cell)), (2, .int side), (3, .int kind), (4, .int spring), (5, .int x7), (6, .int x8)] [] := by
                refine z_aload_n ok dX3_put_117 0 rfl ?_
                refine z_get_X3_st ok dX3_put_118 hN zw_549 ?_
                refine z_sipush ok dX3_put_121 (x := 158) (by decide) ?_
                refine z_dup2 ok dX3_put_124 rfl rfl ?_
                refine z_mld48 ok dX3_put_125 hN 158 rfl (by omega) ?_
                refine z_aload_n ok dX3_put_126 0 rfl ?_
                refine z_get_X3_st ok dX3_put_127 hN zw_549 ?_
                refine z_bipush ok dX3_put_130 (x := 72) (by decide) ?_
                refine z_iload_n ok dX3_put_132 1 rfl ?_
                refine z_iadd_n ok dX3_put_133 72 c_cell rfl rfl ?_
                refine z_mld48 ok dX3_put_134 hN (72 + c_cell) rfl (by omega) ?_
                refine z_iload ok dX3_put_135 6 rfl ?_
                refine z_isub ok dX3_put_137 ?_
                refine z_iadd ok dX3_put_138 ?_
                refine z_mst48 ok dX3_put_139 hN 158 rfl (by omega) ?_
                replace hT := zlet_open hT
                obtain ⟨w10, hw10, hT⟩ := hT
                rw [← hw10]
                refine z_iload ok dX3_put_140 5 rfl ?_
                exact z_iret ok hE dX3_put_142 rfl ⟨congrArg Prod.fst hT, congrArg Prod.snd hT⟩
              refine z_icmp_ne ok dX3_put_94 108 (by decide) (fun c11 => ?_) (fun c11 => ?_)
              · rw [if_neg c11] at hsw9
                refine z_aload_n ok dX3_put_108 2 rfl ?_
                refine z_iload_n ok dX3_put_109 3 rfl ?_
                refine z_iload_n ok dX3_put_110 4 rfl ?_
                refine z_iload_n ok dX3_put_111 5 rfl ?_
                refine z_iload ok dX3_put_112 6 rfl ?_
                refine z_callVv ok old dX3_put_114 [] (c_X3_lays G N hN hg w6 c_cell (by omega) side kind spring) zy_X3_lays zw_537 47 (by omega) (zE_47 G w6) rfl rfl rfl rfl rfl (by decide) (Nat.le_of_ble_eq_true rfl) ?_
                replace hsw9 := zlet_open hsw9
                obtain ⟨w12, hw12, hsw9⟩ := hsw9
                rw [← hw12]
                rw [← hsw9] at hJw9
                refine z_locs [2, 3, 4, 5, 6, 1, 0] (lv' := [(0, .ref (zad G 47)), (1, .int (nI c_cell)), (2, .int side), (3, .int kind), (4, .int spring), (5, .int x7), (6, .int x8)]) rfl ?_
                exact hJw9
              · rw [if_pos c11] at hsw9
                refine z_aload_n ok dX3_put_97 2 rfl ?_
                refine z_iload_n ok dX3_put_98 3 rfl ?_
                refine z_iconst ok dX3_put_99 (x := (-1)) (by decide) ?_
                refine z_iconst ok dX3_put_100 (x := 0) (by decide) ?_
                refine z_iconst ok dX3_put_101 (x := 0) (by decide) ?_
                refine z_callVv ok old dX3_put_102 [] (c_X3_lays G N hN hg w6 c_cell (by omega) (-1) 0 0) zy_X3_lays zw_537 47 (by omega) (zE_47 G w6) rfl rfl rfl rfl rfl (by decide) (Nat.le_of_ble_eq_true rfl) ?_
                replace hsw9 := zlet_open hsw9
                obtain ⟨w13, hw13, hsw9⟩ := hsw9
                rw [← hw13]
                refine z_goto ok dX3_put_105 117 (by decide) ?_
                rw [← hsw9] at hJw9
                refine z_locs [2, 3, 4, 5, 6, 1, 0] (lv' := [(0, .ref (zad G 47)), (1, .int (nI c_cell)), (2, .int side), (3, .int kind), (4, .int spring), (5, .int x7), (6, .int x8)]) rfl ?_
                exact hJw9
            refine z_icmp_ne ok dX3_put_71 78 (by decide) (fun c14 => ?_) (fun c14 => ?_)
            · rw [if_neg c14] at hsx7
              refine z_iconst ok dX3_put_78 (x := 1) (by decide) ?_
              rw [← hsx7] at hJx7
              refine z_locs [0, 1, 2, 3, 4] (lv' := [(0, .ref (zad G 47)), (1, .int (nI c_cell)), (2, .int side), (3, .int kind), (4, .int spring)]) rfl ?_
              exact hJx7
            · rw [if_pos c14] at hsx7
              refine z_iconst ok dX3_put_74 (x := 0) (by decide) ?_
              refine z_goto ok dX3_put_75 79 (by decide) ?_
              rw [← hsx7] at hJx7
              refine z_locs [0, 1, 2, 3, 4] (lv' := [(0, .ref (zad G 47)), (1, .int (nI c_cell)), (2, .int side), (3, .int kind), (4, .int spring)]) rfl ?_
              exact hJx7
          · rw [if_neg c5] at hT
            refine z_bipush ok dX3_put_55 (x := (-2)) (by decide) ?_
            exact z_iret ok hE dX3_put_57 rfl ⟨congrArg Prod.fst hT, congrArg Prod.snd hT⟩
        · rw [if_pos c4] at hT
          refine z_iconst ok dX3_put_42 (x := (-1)) (by decide) ?_
          exact z_iret ok hE dX3_put_43 rfl ⟨congrArg Prod.fst hT, congrArg Prod.snd hT⟩

def d_X3_towers_4k  (e1_1 : Int32) (e1_2 : Nat) : Int32 :=
  e1_1
def d_X3_towers_4 (w : xW) (kt1 : Int32 → Nat → Int32) : Nat → Int32 → Nat → Int32
  | 0, _, _ => default
  | n1 + 1, v1_1, v1_2 => if 36 ≤ v1_2 then (kt1 v1_1 v1_2)
  else (zlet ((v1_1 + (xg w 11 (108 + v1_2)))) fun x3 =>
  d_X3_towers_4 w kt1 n1 x3 (v1_2 + 1))
def d_X3_towers (w : xW)  : Int32 :=
  d_X3_towers_4 w d_X3_towers_4k 37 0 0
set_option maxRecDepth 100000 in
set_option maxHeartbeats 4000000 in
theorem c_X3_towers (G : zG) (N : Nat) (hN : 54 ≤ N) (hg : zGeo G N) (w : xW) : zM yX3_towers cX3_towers 3 (some .int) 0 0 G N [.ref (zad G 47)] w (some (d_X3_towers w)) w := by
  generalize hT : d_X3_towers w = r
  unfold d_X3_towers at hT
  refine zM_of zy_X3_towers.2.2.2.2.2.2.2 hg ⟨Nat.le_of_ble_eq_true rfl, by decide⟩ rfl (fun k ok hE hI => ?_)
  have old := hE.old
  refine z_iconst ok dX3_towers_0 (x := 0) (by decide) ?_
  refine z_istore_n ok dX3_towers_1 (hI 1 (by decide)) (lv' := [(1, .int 0), (0, .ref (zad G 47))]) rfl ?_
  refine z_iconst ok dX3_towers_2 (x := 0) (by decide) ?_
  refine z_istore_n ok dX3_towers_3 (hI 2 (by decide)) (lv' := [(2, .int 0), (1, .int 0), (0, .ref (zad G 47))]) rfl ?_
  refine z_locs [2, 1, 0] (lv' := [(0, .ref (zad G 47)), (1, .int 0), (2, .int 0)]) rfl ?_
  obtain ⟨kt1, hkt1⟩ : ∃ z, z = d_X3_towers_4k := ⟨_, rfl⟩
  rw [← hkt1] at hT
  have hk1 : ∀ (e1_1 : Int32) (e1_2 : Nat), e1_2 ≤ 36 → kt1 e1_1 e1_2 = r → zZ k G N w 28 [(0, .ref (zad G 47)), (1, .int e1_1), (2, .int (nI e1_2))] [] := by
    intro e1_1 e1_2 q1_0 hT1
    rw [hkt1, d_X3_towers_4k] at hT1
    refine z_iload_n ok dX3_towers_28 1 rfl ?_
    exact z_iret ok hE dX3_towers_29 rfl ⟨hT1, rfl⟩
  have hl1 : ∀ (n1 : Nat) (v1_1 : Int32) (v1_2 : Nat), 36 < v1_2 + n1 → v1_2 ≤ 36 → d_X3_towers_4 w kt1 n1 v1_1 v1_2 = r → zZ k G N w 4 [(0, .ref (zad G 47)), (1, .int v1_1), (2, .int (nI v1_2))] [] := by
    intro n1
    induction n1 with
    | zero =>
      intro v1_1 v1_2 q1_0 q1_1
      exact absurd q1_0 (by omega)
    | succ n1 ih1 =>
      intro v1_1 v1_2 q1_0 q1_1 hT1
      rw [d_X3_towers_4] at hT1
      refine z_iload_n ok dX3_towers_4 2 rfl ?_
      refine z_bipush ok dX3_towers_5 (x := 36) (by decide) ?_
      refine z_icmp_ge_n ok dX3_towers_7 28 (by decide) v1_2 36 rfl rfl (by omega) (fun c2 => ?_) (fun c2 => ?_)
      · rw [if_pos c2] at hT1
        refine z_locs [0, 1, 2] (lv' := [(0, .ref (zad G 47)), (1, .int v1_1), (2, .int (nI v1_2))]) rfl ?_
        exact hk1 v1_1 v1_2 (by omega) hT1
      · rw [if_neg c2] at hT1
        refine z_iload_n ok dX3_towers_10 1 rfl ?_
        refine z_aload_n ok dX3_towers_11 0 rfl ?_
        refine z_get_X3_st ok dX3_towers_12 hN zw_549 ?_
        refine z_bipush ok dX3_towers_15 (x := 108) (by decide) ?_
        refine z_iload_n ok dX3_towers_17 2 rfl ?_
        refine z_iadd_n ok dX3_towers_18 108 v1_2 rfl rfl ?_
        refine z_mld48 ok dX3_towers_19 hN (108 + v1_2) rfl (by omega) ?_
        refine z_iadd ok dX3_towers_20 ?_
        replace hT1 := zlet_open hT1
        obtain ⟨x3, hx3, hT1⟩ := hT1
        rw [← hx3]
        refine z_istore_n ok dX3_towers_21 (hI 1 (by decide)) (lv' := [(1, .int x3), (0, .ref (zad G 47)), (2, .int (nI v1_2))]) rfl ?_
        refine z_iinc ok dX3_towers_22 (hI 2 (by decide)) 2 rfl (y := (nI (v1_2 + 1))) (z_incn v1_2 1) (lv' := [(2, .int (nI (v1_2 + 1))), (1, .int x3), (0, .ref (zad G 47))]) rfl ?_
        refine z_goto ok dX3_towers_25 4 (by decide) ?_
        refine z_locs [2, 1, 0] (lv' := [(0, .ref (zad G 47)), (1, .int x3), (2, .int (nI (v1_2 + 1)))]) rfl ?_
        exact ih1 x3 (v1_2 + 1) (by omega) (by omega) hT1
  exact hl1 37 0 0 (by omega) (by omega) hT

def d_X3_tower (w : xW) (cell : Int32) : Int32 × xW :=
  if (d_X3_isCell w cell) = 0 then (((-1), w))
  else (zlet cell.toNatClampNeg fun c_cell =>
  if (xg w 11 (108 + c_cell)) = 0 then (if (d_X3_towers w) = 6 then (((-3), w))
  else (zlet (d_X3_records w) fun w6 =>
  zlet (xs w6 11 (108 + c_cell) (1 - (xg w6 11 (108 + c_cell)))) fun w7 =>
  ((d_X3_towers w7), w7)))
  else (zlet (d_X3_records w) fun w3 =>
  zlet (xs w3 11 (108 + c_cell) (1 - (xg w3 11 (108 + c_cell)))) fun w4 =>
  ((d_X3_towers w4), w4)))
set_option maxRecDepth 100000 in
set_option maxHeartbeats 4000000 in
theorem c_X3_tower (G : zG) (N : Nat) (hN : 54 ≤ N) (hg : zGeo G N) (w : xW) (cell : Int32) (h_p : (∃ p, p ≤ 5 ∧ xg w 17 0 = nI p)) : zM yX3_tower cX3_tower 2 (some .int) 2 42 G N [.ref (zad G 47), .int cell] w (some (d_X3_tower w cell).1) (d_X3_tower w cell).2 := by
  obtain ⟨r, u, hT⟩ := zpair (d_X3_tower w cell)
  rw [hT]
  dsimp only
  unfold d_X3_tower at hT
  refine zM_of zy_X3_tower.2.2.2.2.2.2.2 hg ⟨Nat.le_of_ble_eq_true rfl, by decide⟩ rfl (fun k ok hE hI => ?_)
  have old := hE.old
  refine z_iload_n ok dX3_tower_0 1 rfl ?_
  refine z_callSi ok old dX3_tower_1 [] (c_X3_isCell G N hN hg w cell) zy_X3_isCell zw_615 rfl rfl (by decide) (Nat.le_of_ble_eq_true rfl) ?_
  refine z_if_ne ok dX3_tower_4 9 (by decide) (fun c1 => ?_) (fun c1 => ?_)
  · rw [if_neg c1] at hT
    replace hT := zlet_open hT
    obtain ⟨c_cell, hc_cell, hT⟩ := hT
    obtain ⟨lc_cell, ec_cell⟩ := zcellx (zisCell3 (by assumption)) hc_cell
    subst ec_cell
    refine z_aload_n ok dX3_tower_9 0 rfl ?_
    refine z_get_X3_st ok dX3_tower_10 hN zw_549 ?_
    refine z_bipush ok dX3_tower_13 (x := 108) (by decide) ?_
    refine z_iload_n ok dX3_tower_15 1 rfl ?_
    refine z_iadd_n ok dX3_tower_16 108 c_cell rfl rfl ?_
    refine z_mld48 ok dX3_tower_17 hN (108 + c_cell) rfl (by omega) ?_
    refine z_if_ne ok dX3_tower_18 33 (by decide) (fun c2 => ?_) (fun c2 => ?_)
    · rw [if_neg c2] at hT
      refine z_aload_n ok dX3_tower_33 0 rfl ?_
      refine z_callVv ok old dX3_tower_34 [] (c_X3_records G N hN hg w (by first | assumption | omega)) zy_X3_records zw_597 47 (by omega) (zE_47 G w) rfl rfl rfl rfl rfl (by decide) (Nat.le_of_ble_eq_true rfl) ?_
      replace hT := zlet_open hT
      obtain ⟨w3, hw3, hT⟩ := hT
      rw [← hw3]
      refine z_aload_n ok dX3_tower_37 0 rfl ?_
      refine z_get_X3_st ok dX3_tower_38 hN zw_549 ?_
      refine z_bipush ok dX3_tower_41 (x := 108) (by decide) ?_
      refine z_iload_n ok dX3_tower_43 1 rfl ?_
      refine z_iadd_n ok dX3_tower_44 108 c_cell rfl rfl ?_
      refine z_iconst ok dX3_tower_45 (x := 1) (by decide) ?_
      refine z_aload_n ok dX3_tower_46 0 rfl ?_
      refine z_get_X3_st ok dX3_tower_47 hN zw_549 ?_
      refine z_bipush ok dX3_tower_50 (x := 108) (by decide) ?_
      refine z_iload_n ok dX3_tower_52 1 rfl ?_
      refine z_iadd_n ok dX3_tower_53 108 c_cell rfl rfl ?_
      refine z_mld48 ok dX3_tower_54 hN (108 + c_cell) rfl (by omega) ?_
      refine z_isub ok dX3_tower_55 ?_
      refine z_mst48 ok dX3_tower_56 hN (108 + c_cell) rfl (by omega) ?_
      replace hT := zlet_open hT
      obtain ⟨w4, hw4, hT⟩ := hT
      rw [← hw4]
      refine z_aload_n ok dX3_tower_57 0 rfl ?_
      refine z_callVi ok old dX3_tower_58 [] (c_X3_towers G N hN hg w4 ) zy_X3_towers zw_622 47 (by omega) (zE_47 G w4) rfl rfl rfl rfl rfl (by decide) (Nat.le_of_ble_eq_true rfl) ?_
      exact z_iret ok hE dX3_tower_61 rfl ⟨congrArg Prod.fst hT, congrArg Prod.snd hT⟩
    · rw [if_pos c2] at hT
      refine z_aload_n ok dX3_tower_21 0 rfl ?_
      refine z_callVi ok old dX3_tower_22 [] (c_X3_towers G N hN hg w ) zy_X3_towers zw_622 47 (by omega) (zE_47 G w) rfl rfl rfl rfl rfl (by decide) (Nat.le_of_ble_eq_true rfl) ?_
      refine z_bipush ok dX3_tower_25 (x := 6) (by decide) ?_
      refine z_icmp_ne ok dX3_tower_27 33 (by decide) (fun c5 => ?_) (fun c5 => ?_)
      · rw [if_neg c5] at hT
        refine z_aload_n ok dX3_tower_33 0 rfl ?_
        refine z_callVv ok old dX3_tower_34 [] (c_X3_records G N hN hg w (by first | assumption | omega)) zy_X3_records zw_597 47 (by omega) (zE_47 G w) rfl rfl rfl rfl rfl (by decide) (Nat.le_of_ble_eq_true rfl) ?_
        replace hT := zlet_open hT
        obtain ⟨w6, hw6, hT⟩ := hT
        rw [← hw6]
        refine z_aload_n ok dX3_tower_37 0 rfl ?_
        refine z_get_X3_st ok dX3_tower_38 hN zw_549 ?_
        refine z_bipush ok dX3_tower_41 (x := 108) (by decide) ?_
        refine z_iload_n ok dX3_tower_43 1 rfl ?_
        refine z_iadd_n ok dX3_tower_44 108 c_cell rfl rfl ?_
        refine z_iconst ok dX3_tower_45 (x := 1) (by decide) ?_
        refine z_aload_n ok dX3_tower_46 0 rfl ?_
        refine z_get_X3_st ok dX3_tower_47 hN zw_549 ?_
        refine z_bipush ok dX3_tower_50 (x := 108) (by decide) ?_
        refine z_iload_n ok dX3_tower_52 1 rfl ?_
        refine z_iadd_n ok dX3_tower_53 108 c_cell rfl rfl ?_
        refine z_mld48 ok dX3_tower_54 hN (108 + c_cell) rfl (by omega) ?_
        refine z_isub ok dX3_tower_55 ?_
        refine z_mst48 ok dX3_tower_56 hN (108 + c_cell) rfl (by omega) ?_
        replace hT := zlet_open hT
        obtain ⟨w7, hw7, hT⟩ := hT
        rw [← hw7]
        refine z_aload_n ok dX3_tower_57 0 rfl ?_
        refine z_callVi ok old dX3_tower_58 [] (c_X3_towers G N hN hg w7 ) zy_X3_towers zw_622 47 (by omega) (zE_47 G w7) rfl rfl rfl rfl rfl (by decide) (Nat.le_of_ble_eq_true rfl) ?_
        exact z_iret ok hE dX3_tower_61 rfl ⟨congrArg Prod.fst hT, congrArg Prod.snd hT⟩
      · rw [if_pos c5] at hT
        refine z_bipush ok dX3_tower_30 (x := (-3)) (by decide) ?_
        exact z_iret ok hE dX3_tower_32 rfl ⟨congrArg Prod.fst hT, congrArg Prod.snd hT⟩
  · rw [if_pos c1] at hT
    refine z_iconst ok dX3_tower_7 (x := (-1)) (by decide) ?_
    exact z_iret ok hE dX3_tower_8 rfl ⟨congrArg Prod.fst hT, congrArg Prod.snd hT⟩

def d_X3_pieces_4k  (e1_1 : Int32) (e1_2 : Nat) : Int32 :=
  e1_1
def d_X3_pieces_4 (w : xW) (kt1 : Int32 → Nat → Int32) : Nat → Int32 → Nat → Int32
  | 0, _, _ => default
  | n1 + 1, v1_1, v1_2 => if 36 ≤ v1_2 then (kt1 v1_1 v1_2)
  else (zlet (if (xg w 11 v1_2) = (-1) then (0)
  else (1) : Int32) fun x3 =>
  zlet ((v1_1 + x3)) fun x4 =>
  d_X3_pieces_4 w kt1 n1 x4 (v1_2 + 1))
def d_X3_pieces (w : xW)  : Int32 :=
  d_X3_pieces_4 w d_X3_pieces_4k 37 0 0
set_option maxRecDepth 100000 in
set_option maxHeartbeats 4000000 in
theorem c_X3_pieces (G : zG) (N : Nat) (hN : 54 ≤ N) (hg : zGeo G N) (w : xW) : zM yX3_pieces cX3_pieces 3 (some .int) 0 0 G N [.ref (zad G 47)] w (some (d_X3_pieces w)) w := by
  generalize hT : d_X3_pieces w = r
  unfold d_X3_pieces at hT
  refine zM_of zy_X3_pieces.2.2.2.2.2.2.2 hg ⟨Nat.le_of_ble_eq_true rfl, by decide⟩ rfl (fun k ok hE hI => ?_)
  have old := hE.old
  refine z_iconst ok dX3_pieces_0 (x := 0) (by decide) ?_
  refine z_istore_n ok dX3_pieces_1 (hI 1 (by decide)) (lv' := [(1, .int 0), (0, .ref (zad G 47))]) rfl ?_
  refine z_iconst ok dX3_pieces_2 (x := 0) (by decide) ?_
  refine z_istore_n ok dX3_pieces_3 (hI 2 (by decide)) (lv' := [(2, .int 0), (1, .int 0), (0, .ref (zad G 47))]) rfl ?_
  refine z_locs [2, 1, 0] (lv' := [(0, .ref (zad G 47)), (1, .int 0), (2, .int 0)]) rfl ?_
  obtain ⟨kt1, hkt1⟩ : ∃ z, z = d_X3_pieces_4k := ⟨_, rfl⟩
  rw [← hkt1] at hT
  have hk1 : ∀ (e1_1 : Int32) (e1_2 : Nat), e1_2 ≤ 36 → kt1 e1_1 e1_2 = r → zZ k G N w 36 [(0, .ref (zad G 47)), (1, .int e1_1), (2, .int (nI e1_2))] [] := by
    intro e1_1 e1_2 q1_0 hT1
    rw [hkt1, d_X3_pieces_4k] at hT1
    refine z_iload_n ok dX3_pieces_36 1 rfl ?_
    exact z_iret ok hE dX3_pieces_37 rfl ⟨hT1, rfl⟩
  have hl1 : ∀ (n1 : Nat) (v1_1 : Int32) (v1_2 : Nat), 36 < v1_2 + n1 → v1_2 ≤ 36 → d_X3_pieces_4 w kt1 n1 v1_1 v1_2 = r → zZ k G N w 4 [(0, .ref (zad G 47)), (1, .int v1_1), (2, .int (nI v1_2))] [] := by
    intro n1
    induction n1 with
    | zero =>
      intro v1_1 v1_2 q1_0 q1_1
      exact absurd q1_0 (by omega)
    | succ n1 ih1 =>
      intro v1_1 v1_2 q1_0 q1_1 hT1
      rw [d_X3_pieces_4] at hT1
      refine z_iload_n ok dX3_pieces_4 2 rfl ?_
      refine z_bipush ok dX3_pieces_5 (x := 36) (by decide) ?_
      refine z_icmp_ge_n ok dX3_pieces_7 36 (by decide) v1_2 36 rfl rfl (by omega) (fun c2 => ?_) (fun c2 => ?_)
      · rw [if_pos c2] at hT1
        refine z_locs [0, 1, 2] (lv' := [(0, .ref (zad G 47)), (1, .int v1_1), (2, .int (nI v1_2))]) rfl ?_
        exact hk1 v1_1 v1_2 (by omega) hT1
      · rw [if_neg c2] at hT1
        refine z_iload_n ok dX3_pieces_10 1 rfl ?_
        refine z_aload_n ok dX3_pieces_11 0 rfl ?_
        refine z_get_X3_st ok dX3_pieces_12 hN zw_549 ?_
        refine z_iconst ok dX3_pieces_15 (x := 0) (by decide) ?_
        refine z_iload_n ok dX3_pieces_16 2 rfl ?_
        refine z_iadd_0 ok dX3_pieces_17 ?_
        refine z_mld48 ok dX3_pieces_18 hN v1_2 rfl (by omega) ?_
        refine z_iconst ok dX3_pieces_19 (x := (-1)) (by decide) ?_
        replace hT1 := zlet_open hT1
        obtain ⟨x3, hx3, hT1⟩ := hT1
        have hsx3 := hx3.symm
        have hJx3 : zZ k G N w 28 [(0, .ref (zad G 47)), (1, .int v1_1), (2, .int (nI v1_2))] [.int x3, .int v1_1] := by
          refine z_iadd ok dX3_pieces_28 ?_
          replace hT1 := zlet_open hT1
          obtain ⟨x4, hx4, hT1⟩ := hT1
          rw [← hx4]
          refine z_istore_n ok dX3_pieces_29 (hI 1 (by decide)) (lv' := [(1, .int x4), (0, .ref (zad G 47)), (2, .int (nI v1_2))]) rfl ?_
          refine z_iinc ok dX3_pieces_30 (hI 2 (by decide)) 2 rfl (y := (nI (v1_2 + 1))) (z_incn v1_2 1) (lv' := [(2, .int (nI (v1_2 + 1))), (1, .int x4), (0, .ref (zad G 47))]) rfl ?_
          refine z_goto ok dX3_pieces_33 4 (by decide) ?_
          refine z_locs [2, 1, 0] (lv' := [(0, .ref (zad G 47)), (1, .int x4), (2, .int (nI (v1_2 + 1)))]) rfl ?_
          exact ih1 x4 (v1_2 + 1) (by omega) (by omega) hT1
        refine z_icmp_ne ok dX3_pieces_20 27 (by decide) (fun c5 => ?_) (fun c5 => ?_)
        · rw [if_neg c5] at hsx3
          refine z_iconst ok dX3_pieces_27 (x := 1) (by decide) ?_
          rw [← hsx3] at hJx3
          refine z_locs [0, 1, 2] (lv' := [(0, .ref (zad G 47)), (1, .int v1_1), (2, .int (nI v1_2))]) rfl ?_
          exact hJx3
        · rw [if_pos c5] at hsx3
          refine z_iconst ok dX3_pieces_23 (x := 0) (by decide) ?_
          refine z_goto ok dX3_pieces_24 28 (by decide) ?_
          rw [← hsx3] at hJx3
          refine z_locs [0, 1, 2] (lv' := [(0, .ref (zad G 47)), (1, .int v1_1), (2, .int (nI v1_2))]) rfl ?_
          exact hJx3
  exact hl1 37 0 0 (by omega) (by omega) hT
