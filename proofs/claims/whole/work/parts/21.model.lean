/-! lines over the board: from f to t in steps -/
def zdx (f t : Nat) : Nat := (t % 6 - f % 6) + (f % 6 - t % 6)
def zdy (f t : Nat) : Nat := (t / 6 - f / 6) + (f / 6 - t / 6)
def zL (f t : Nat) : Nat := if zdx f t < zdy f t then zdy f t else zdx f t
def zAl (f t : Nat) : Prop := ¬ f = t ∧ (zdx f t = 0 ∨ zdy f t = 0 ∨ zdx f t = zdy f t)
def zAlb (f t : Nat) : Bool := !(f == t) && (zdx f t == 0 || (zdy f t == 0 || zdx f t == zdy f t))
theorem zAl_b {f t : Nat} : zAl f t ↔ zAlb f t = true := by
  simp [zAl, zAlb]
/-- the cell k steps on the way from f to t -/
def zl (f t k : Nat) : Nat := 6 * (if f / 6 < t / 6 then f / 6 + k else if t / 6 < f / 6 then f / 6 - k else f / 6) + (if f % 6 < t % 6 then f % 6 + k else if t % 6 < f % 6 then f % 6 - k else f % 6)
theorem zL_le (f t : Nat) (hf : f < 36) (ht : t < 36) : zL f t ≤ 5 := by
  unfold zL zdx zdy
  split <;> omega
def d_X3_sign (w : xW) (v : Int32) : Int32 :=
  if v ≤ 0 then (if 0 ≤ v then (0)
  else ((-1)))
  else (1)
def zsg (v : Int32) : Int32 := if v ≤ 0 then (if 0 ≤ v then 0 else -1) else 1
theorem zsg_eq (w : xW) (v : Int32) : d_X3_sign w v = zsg v := rfl
def zst (f t : Nat) : Int32 := 6 * zsg (nI (t / 6) - nI (f / 6)) + zsg (nI (t % 6) - nI (f % 6))
def zl_c (f t k : Nat) : Bool := !(zAlb f t) || (!(Nat.ble k (zL f t)) || (Nat.blt (zl f t k) 36 && (if k = zL f t then zl f t k == t else !(zl f t k == t) && decide (nI (zl f t k) + zst f t = nI (zl f t (k + 1))))))
theorem zl_all : ∀ f, f < 36 → ∀ t, t < 36 → ∀ k, k < 6 → zl_c f t k = true := by decide +kernel
theorem zl_f {f t k : Nat} (hf : f < 36) (ht : t < 36) (ha : zAl f t) (hk : k ≤ zL f t) : zl f t k < 36 ∧ (k = zL f t → zl f t k = t) ∧ (k < zL f t → ¬ zl f t k = t ∧ nI (zl f t k) + zst f t = nI (zl f t (k + 1))) := by
  have h5 := zL_le f t hf ht
  have h := zl_all f hf t ht k (by omega)
  unfold zl_c at h
  rw [zAl_b.mp ha] at h
  have hb : Nat.ble k (zL f t) = true := Nat.ble_eq.mpr hk
  rw [hb] at h
  simp only [Bool.not_true, Bool.false_or, Bool.and_eq_true] at h
  refine ⟨?_, fun e => ?_, fun e => ?_⟩
  · have := h.1
    have q : zl f t k ≤ 35 := by simpa [Nat.blt] using this
    omega
  · have := h.2
    rw [if_pos e] at this
    simpa using this
  · have := h.2
    rw [if_neg (by omega)] at this
    simpa using this
theorem zl_lt (f t : Nat) {k : Nat} (hf : f < 36) (ht : t < 36) (ha : zAl f t) (hk : k ≤ zL f t) : zl f t k < 36 := (zl_f hf ht ha hk).1
theorem zl_n {f t k : Nat} (hf : f < 36) (ht : t < 36) (ha : zAl f t) (hk : k ≤ zL f t) (hne : ¬ zl f t k = t) : k + 1 ≤ zL f t := by
  rcases Nat.lt_or_ge k (zL f t) with h | h
  · exact h
  · exact absurd ((zl_f hf ht ha hk).2.1 (by omega)) hne
theorem zl_1 {f t : Nat} (hf : f < 36) (ht : t < 36) (ha : zAl f t) : 1 ≤ zL f t := by
  rcases Nat.lt_or_ge 0 (zL f t) with h | h
  · exact h
  · have e : zL f t = 0 := by omega
    have := (zl_f hf ht ha (k := 0) (by omega)).2.1 e.symm
    have z : zl f t 0 = f := by
      unfold zl
      split <;> split <;> (try split) <;> (try split) <;> omega
    exact absurd (z.symm.trans this) ha.1
theorem zl_z (f t : Nat) : zl f t 0 = f := by
  unfold zl
  split <;> split <;> (try split) <;> (try split) <;> omega
theorem zl_0 {w : xW} {f t : Nat} {x1 x2 : Int32} (hf : f < 36) (ht : t < 36) (ha : zAl f t) (h1 : x1 = 6 * d_X3_sign w (nI (t / 6) - nI (f / 6)) + d_X3_sign w (nI (t % 6) - nI (f % 6))) (h2 : x2 = nI f + x1) : x2 = nI (zl f t 1) := by
  have h := ((zl_f hf ht ha (k := 0) (Nat.zero_le _)).2.2 (zl_1 hf ht ha)).2
  rw [zl_z] at h
  rw [h2, h1]
  exact h
theorem zl_s {w : xW} {f t k : Nat} {x1 x6 : Int32} (hf : f < 36) (ht : t < 36) (ha : zAl f t) (hk : k ≤ zL f t) (hne : ¬ zl f t k = t) (h1 : x1 = 6 * d_X3_sign w (nI (t / 6) - nI (f / 6)) + d_X3_sign w (nI (t % 6) - nI (f % 6))) (h6 : x6 = nI (zl f t k) + x1) : x6 = nI (zl f t (k + 1)) := by
  have h := ((zl_f hf ht ha hk).2.2 (zl_n hf ht ha hk hne)).2
  rw [h6, h1]
  exact h
def zsz (v : Int32) : Int32 := if 0 ≤ v then v else -v
theorem zsz_eq (w : xW) (v : Int32) : d_X3_size w v = zsz v := rfl
theorem zsz_dx : ∀ f, f < 36 → ∀ t, t < 36 → zsz (nI (t % 6) - nI (f % 6)) = nI (zdx f t) ∧ zsz (nI (t / 6) - nI (f / 6)) = nI (zdy f t) := by decide +kernel
theorem zdx_lt {f t : Nat} : zdx f t < 6 := by unfold zdx; omega
theorem zdy_lt {f t : Nat} (hf : f < 36) (ht : t < 36) : zdy f t < 6 := by unfold zdy; omega
theorem znz {a b : Nat} (ha : a < 6) (hb : b < 6) (h : ¬ nI a + nI b = 0) : ¬ (a = 0 ∧ b = 0) := by
  intro q
  rw [q.1, q.2] at h
  exact h rfl
theorem zdd {f t : Nat} (hf : f < 36) (ht : t < 36) (h : f = t) : zdx f t = 0 ∧ zdy f t = 0 := by
  subst h
  unfold zdx zdy
  omega
theorem zal_k {w : xW} {f t : Nat} {x1 x2 : Int32} (hf : f < 36) (ht : t < 36) (h1 : x1 = d_X3_size w (nI (t % 6) - nI (f % 6))) (h2 : x2 = d_X3_size w (nI (t / 6) - nI (f / 6))) (h0 : ¬ x1 + x2 = 0) : x1 = nI (zdx f t) ∧ x2 = nI (zdy f t) ∧ ¬ f = t := by
  rw [zsz_eq, (zsz_dx f hf t ht).1] at h1
  rw [zsz_eq, (zsz_dx f hf t ht).2] at h2
  refine ⟨h1, h2, fun q => ?_⟩
  rw [h1, h2] at h0
  exact znz zdx_lt (zdy_lt hf ht) h0 (zdd hf ht q)
theorem zal_r {w : xW} {f t : Nat} {x1 x2 : Int32} (hf : f < 36) (ht : t < 36) (h1 : x1 = d_X3_size w (nI (t % 6) - nI (f % 6))) (h2 : x2 = d_X3_size w (nI (t / 6) - nI (f / 6))) (h0 : ¬ x1 + x2 = 0) (h : x1 = 0) : zAl f t := by
  obtain ⟨e1, e2, e3⟩ := zal_k hf ht h1 h2 h0
  rw [e1, show (0 : Int32) = nI 0 from rfl, nI_eq (by have := @zdx_lt f t; omega) (by decide)] at h
  exact ⟨e3, Or.inl h⟩
theorem zal_c {w : xW} {f t : Nat} {x1 x2 : Int32} (hf : f < 36) (ht : t < 36) (h1 : x1 = d_X3_size w (nI (t % 6) - nI (f % 6))) (h2 : x2 = d_X3_size w (nI (t / 6) - nI (f / 6))) (h0 : ¬ x1 + x2 = 0) (h : x2 = 0) : zAl f t := by
  obtain ⟨e1, e2, e3⟩ := zal_k hf ht h1 h2 h0
  rw [e2, show (0 : Int32) = nI 0 from rfl, nI_eq (by have := zdy_lt hf ht; omega) (by decide)] at h
  exact ⟨e3, Or.inr (Or.inl h)⟩
theorem zal_d {w : xW} {f t : Nat} {x1 x2 : Int32} (hf : f < 36) (ht : t < 36) (h1 : x1 = d_X3_size w (nI (t % 6) - nI (f % 6))) (h2 : x2 = d_X3_size w (nI (t / 6) - nI (f / 6))) (h0 : ¬ x1 + x2 = 0) (h : x1 = x2) : zAl f t := by
  obtain ⟨e1, e2, e3⟩ := zal_k hf ht h1 h2 h0
  rw [e1, e2, nI_eq (by have := @zdx_lt f t; omega) (by have := zdy_lt hf ht; omega)] at h
  exact ⟨e3, Or.inr (Or.inr h)⟩

set_option maxRecDepth 100000 in
set_option maxHeartbeats 4000000 in
theorem c_X3_sign (G : zG) (N : Nat) (hN : 54 ≤ N) (hg : zGeo G N) (w : xW) (v : Int32) : zM yX3_sign cX3_sign 1 (some .int) 0 0 G N [.int v] w (some (d_X3_sign w v)) w := by
  generalize hT : d_X3_sign w v = r
  unfold d_X3_sign at hT
  refine zM_of zy_X3_sign.2.2.2.2.2.2 hg ⟨Nat.le_of_ble_eq_true rfl, by decide⟩ rfl (fun k ok hE hI => ?_)
  have old := hE.old
  refine z_iload_n ok dX3_sign_0 0 rfl ?_
  refine z_if_le ok dX3_sign_1 8 (by decide) (fun c1 => ?_) (fun c1 => ?_)
  · rw [if_pos c1] at hT
    refine z_iload_n ok dX3_sign_8 0 rfl ?_
    refine z_if_ge ok dX3_sign_9 16 (by decide) (fun c2 => ?_) (fun c2 => ?_)
    · rw [if_pos c2] at hT
      refine z_iconst ok dX3_sign_16 (x := 0) (by decide) ?_
      exact z_iret ok hE dX3_sign_17 rfl ⟨hT, rfl⟩
    · rw [if_neg c2] at hT
      refine z_iconst ok dX3_sign_12 (x := (-1)) (by decide) ?_
      refine z_goto ok dX3_sign_13 17 (by decide) ?_
      exact z_iret ok hE dX3_sign_17 rfl ⟨hT, rfl⟩
  · rw [if_neg c1] at hT
    refine z_iconst ok dX3_sign_4 (x := 1) (by decide) ?_
    refine z_goto ok dX3_sign_5 17 (by decide) ?_
    exact z_iret ok hE dX3_sign_17 rfl ⟨hT, rfl⟩

def d_X3_isFree_34k  (e3_4 : Nat) : Int32 :=
  1
def d_X3_isFree_34 (w : xW) (f : Nat) (t : Nat) (x1 : Int32) (kt3 : Nat → Int32) : Nat → Nat → Int32
  | 0, _ => default
  | n3 + 1, v3_4 => if (zl f t v3_4) = t then (kt3 v3_4)
  else (if (xg w 11 (zl f t v3_4)) = (-1) then (zlet (((nI (zl f t v3_4)) + x1)) fun x6 =>
  d_X3_isFree_34 w f t x1 kt3 n3 (v3_4 + 1))
  else (0))
def d_X3_isFree (w : xW) (f : Nat) (t : Nat) : Int32 :=
  zlet (((6 * (d_X3_sign w ((nI (t / 6)) - (nI (f / 6))))) + (d_X3_sign w ((nI (t % 6)) - (nI (f % 6)))))) fun x1 =>
  zlet (((nI f) + x1)) fun x2 =>
  d_X3_isFree_34 w f t x1 d_X3_isFree_34k 7 1
set_option maxRecDepth 100000 in
set_option maxHeartbeats 4000000 in
theorem c_X3_isFree (G : zG) (N : Nat) (hN : 54 ≤ N) (hg : zGeo G N) (w : xW) (f : Nat) (h_f : f < 36) (t : Nat) (h_t : t < 36) (h_al : zAl f t) : zM yX3_isFree cX3_isFree 5 (some .boolean) 1 20 G N [.ref (zad G 47), .int (nI f), .int (nI t)] w (some (d_X3_isFree w f t)) w := by
  generalize hT : d_X3_isFree w f t = r
  unfold d_X3_isFree at hT
  refine zM_of zy_X3_isFree.2.2.2.2.2.2.2 hg ⟨Nat.le_of_ble_eq_true rfl, by decide⟩ rfl (fun k ok hE hI => ?_)
  have old := hE.old
  refine z_bipush ok dX3_isFree_0 (x := 6) (by decide) ?_
  refine z_iload_n ok dX3_isFree_2 2 rfl ?_
  refine z_bipush ok dX3_isFree_3 (x := 6) (by decide) ?_
  refine z_idiv_n ok dX3_isFree_5 t 6 rfl rfl (by omega) (by omega) (by omega) ?_
  refine z_iload_n ok dX3_isFree_6 1 rfl ?_
  refine z_bipush ok dX3_isFree_7 (x := 6) (by decide) ?_
  refine z_idiv_n ok dX3_isFree_9 f 6 rfl rfl (by omega) (by omega) (by omega) ?_
  refine z_isub ok dX3_isFree_10 ?_
  refine z_callSi ok old dX3_isFree_11 [.int 6] (c_X3_sign G N hN hg w ((nI (t / 6)) - (nI (f / 6)))) zy_X3_sign zw_653 rfl rfl (by decide) (Nat.le_of_ble_eq_true rfl) ?_
  refine z_imul ok dX3_isFree_14 ?_
  refine z_iload_n ok dX3_isFree_15 2 rfl ?_
  refine z_bipush ok dX3_isFree_16 (x := 6) (by decide) ?_
  refine z_irem_n ok dX3_isFree_18 t 6 rfl rfl (by omega) (by omega) (by omega) ?_
  refine z_iload_n ok dX3_isFree_19 1 rfl ?_
  refine z_bipush ok dX3_isFree_20 (x := 6) (by decide) ?_
  refine z_irem_n ok dX3_isFree_22 f 6 rfl rfl (by omega) (by omega) (by omega) ?_
  refine z_isub ok dX3_isFree_23 ?_
  refine z_callSi ok old dX3_isFree_24 [.int (6 * (d_X3_sign w ((nI (t / 6)) - (nI (f / 6)))))] (c_X3_sign G N hN hg w ((nI (t % 6)) - (nI (f % 6)))) zy_X3_sign zw_653 rfl rfl (by decide) (Nat.le_of_ble_eq_true rfl) ?_
  refine z_iadd ok dX3_isFree_27 ?_
  replace hT := zlet_open hT
  obtain ⟨x1, hx1, hT⟩ := hT
  rw [← hx1]
  refine z_istore_n ok dX3_isFree_28 (hI 3 (by decide)) (lv' := [(3, .int x1), (0, .ref (zad G 47)), (1, .int (nI f)), (2, .int (nI t))]) rfl ?_
  refine z_iload_n ok dX3_isFree_29 2 rfl ?_
  refine z_iload_n ok dX3_isFree_30 0 rfl ?_
  refine z_iadd ok dX3_isFree_31 ?_
  replace hT := zlet_open hT
  obtain ⟨x2, hx2, hT⟩ := hT
  rw [← hx2]
  refine z_istore ok dX3_isFree_32 (hI 4 (by decide)) (lv' := [(4, .int x2), (3, .int x1), (0, .ref (zad G 47)), (1, .int (nI f)), (2, .int (nI t))]) rfl ?_
  rw [show x2 = (nI (zl f t 1)) from (zl_0 h_f h_t h_al (by assumption) (by assumption))]
  refine z_locs [2, 3, 4, 1, 0] (lv' := [(0, .ref (zad G 47)), (1, .int (nI f)), (2, .int (nI t)), (3, .int x1), (4, .int (nI (zl f t 1)))]) rfl ?_
  obtain ⟨kt3, hkt3⟩ : ∃ z, z = d_X3_isFree_34k := ⟨_, rfl⟩
  rw [← hkt3] at hT
  have hk3 : ∀ (e3_4 : Nat), e3_4 ≤ 6 → e3_4 ≤ zL f t → kt3 e3_4 = r → zZ k G N w 64 [(0, .ref (zad G 47)), (1, .int (nI f)), (2, .int (nI t)), (3, .int x1), (4, .int (nI (zl f t e3_4)))] [] := by
    intro e3_4 q3_0 q3_1 hT3
    rw [hkt3, d_X3_isFree_34k] at hT3
    refine z_iconst ok dX3_isFree_64 (x := 1) (by decide) ?_
    exact z_iret ok hE dX3_isFree_65 rfl ⟨hT3, rfl⟩
  have hl3 : ∀ (n3 : Nat) (v3_4 : Nat), 6 < v3_4 + n3 → v3_4 ≤ 6 → v3_4 ≤ zL f t → d_X3_isFree_34 w f t x1 kt3 n3 v3_4 = r → zZ k G N w 34 [(0, .ref (zad G 47)), (1, .int (nI f)), (2, .int (nI t)), (3, .int x1), (4, .int (nI (zl f t v3_4)))] [] := by
    intro n3
    induction n3 with
    | zero =>
      intro v3_4 q3_0 q3_1 q3_2
      exact absurd q3_0 (by omega)
    | succ n3 ih3 =>
      intro v3_4 q3_0 q3_1 q3_2 hT3
      rw [d_X3_isFree_34] at hT3
      have := zl_lt f t h_f h_t h_al (by assumption)
      refine z_iload ok dX3_isFree_34 4 rfl ?_
      refine z_iload_n ok dX3_isFree_36 2 rfl ?_
      refine z_icmp_eq_n ok dX3_isFree_37 64 (by decide) (zl f t v3_4) t rfl rfl (by omega) (fun c4 => ?_) (fun c4 => ?_)
      · rw [if_pos c4] at hT3
        refine z_locs [0, 1, 2, 3, 4] (lv' := [(0, .ref (zad G 47)), (1, .int (nI f)), (2, .int (nI t)), (3, .int x1), (4, .int (nI (zl f t v3_4)))]) rfl ?_
        exact hk3 v3_4 (by omega) (by first | assumption | omega) hT3
      · rw [if_neg c4] at hT3
        have := zl_lt f t h_f h_t h_al (by assumption)
        have := zl_n h_f h_t h_al (by assumption) (by assumption)
        have := zL_le f t h_f h_t
        refine z_aload_n ok dX3_isFree_40 0 rfl ?_
        refine z_get_X3_st ok dX3_isFree_41 hN zw_549 ?_
        refine z_iconst ok dX3_isFree_44 (x := 0) (by decide) ?_
        refine z_iload ok dX3_isFree_45 4 rfl ?_
        refine z_iadd_0 ok dX3_isFree_47 ?_
        refine z_mld48 ok dX3_isFree_48 hN (zl f t v3_4) rfl (by omega) ?_
        refine z_iconst ok dX3_isFree_49 (x := (-1)) (by decide) ?_
        refine z_icmp_eq ok dX3_isFree_50 55 (by decide) (fun c5 => ?_) (fun c5 => ?_)
        · rw [if_pos c5] at hT3
          refine z_iload ok dX3_isFree_55 4 rfl ?_
          refine z_iload_n ok dX3_isFree_57 3 rfl ?_
          refine z_iadd ok dX3_isFree_58 ?_
          replace hT3 := zlet_open hT3
          obtain ⟨x6, hx6, hT3⟩ := hT3
          rw [← hx6]
          refine z_istore ok dX3_isFree_59 (hI 4 (by decide)) (lv' := [(4, .int x6), (0, .ref (zad G 47)), (1, .int (nI f)), (2, .int (nI t)), (3, .int x1)]) rfl ?_
          refine z_goto ok dX3_isFree_61 34 (by decide) ?_
          rw [show x6 = (nI (zl f t (v3_4 + 1))) from (zl_s h_f h_t h_al (by assumption) (by assumption) (by assumption) (by assumption))]
          refine z_locs [1, 2, 3, 4, 0] (lv' := [(0, .ref (zad G 47)), (1, .int (nI f)), (2, .int (nI t)), (3, .int x1), (4, .int (nI (zl f t (v3_4 + 1))))]) rfl ?_
          exact ih3 (v3_4 + 1) (by omega) (by omega) (zl_n h_f h_t h_al (by assumption) (by assumption)) hT3
        · rw [if_neg c5] at hT3
          refine z_iconst ok dX3_isFree_53 (x := 0) (by decide) ?_
          exact z_iret ok hE dX3_isFree_54 rfl ⟨hT3, rfl⟩
  exact hl3 7 1 (by omega) (by omega) (zl_1 h_f h_t h_al) hT

def d_X3_costBy (w : xW) (side : Int32) (kind : Int32) (f : Nat) (t : Nat) : Int32 :=
  zlet ((d_X3_size w ((nI (t % 6)) - (nI (f % 6))))) fun x1 =>
  zlet ((d_X3_size w ((nI (t / 6)) - (nI (f / 6))))) fun x2 =>
  if (x1 + x2) = 0 then ((-1))
  else (if (xg w 11 t) = side then ((-1))
  else (if kind = 0 then (if 2 ≤ x1 then ((-1))
  else (if 2 ≤ x2 then ((-1))
  else (1)))
  else (if kind = 1 then (if x1 = 0 then (if (d_X3_isFree w f t) = 0 then ((-1))
  else ((x1 + x2)))
  else (if x2 = 0 then (if (d_X3_isFree w f t) = 0 then ((-1))
  else ((x1 + x2)))
  else ((-1))))
  else (if kind = 2 then (if x1 = x2 then (if (d_X3_isFree w f t) = 0 then ((-1))
  else (x1))
  else ((-1)))
  else (if kind = 3 then (if (x1 * x2) = 2 then (2)
  else ((-1)))
  else (zlet (if ((nI (t / 6)) - (nI (f / 6))) = (1 - (2 * side)) then (1)
  else (0) : Int32) fun x18 =>
  zlet (if x1 = 0 then (if (xg w 11 t) = (-1) then (1)
  else (0))
  else (if x1 = 1 then (if (xg w 11 t) = (1 - side) then (1)
  else (0))
  else (0)) : Int32) fun x19 =>
  if x18 = 0 then ((-1))
  else (if x19 = 0 then ((-1))
  else (1))))))))
set_option maxRecDepth 100000 in
set_option maxHeartbeats 4000000 in
theorem c_X3_costBy (G : zG) (N : Nat) (hN : 54 ≤ N) (hg : zGeo G N) (w : xW) (side : Int32) (kind : Int32) (f : Nat) (h_f : f < 36) (t : Nat) (h_t : t < 36) : zM yX3_costBy cX3_costBy 9 (some .int) 2 44 G N [.ref (zad G 47), .int side, .int kind, .int (nI f), .int (nI t)] w (some (d_X3_costBy w side kind f t)) w := by
  generalize hT : d_X3_costBy w side kind f t = r
  unfold d_X3_costBy at hT
  refine zM_of zy_X3_costBy.2.2.2.2.2.2.2 hg ⟨Nat.le_of_ble_eq_true rfl, by decide⟩ rfl (fun k ok hE hI => ?_)
  have old := hE.old
  refine z_iload ok dX3_costBy_0 4 rfl ?_
  refine z_bipush ok dX3_costBy_2 (x := 6) (by decide) ?_
  refine z_irem_n ok dX3_costBy_4 t 6 rfl rfl (by omega) (by omega) (by omega) ?_
  refine z_iload_n ok dX3_costBy_5 3 rfl ?_
  refine z_bipush ok dX3_costBy_6 (x := 6) (by decide) ?_
  refine z_irem_n ok dX3_costBy_8 f 6 rfl rfl (by omega) (by omega) (by omega) ?_
  refine z_isub ok dX3_costBy_9 ?_
  refine z_callSi ok old dX3_costBy_10 [] (c_X3_size G N hN hg w ((nI (t % 6)) - (nI (f % 6)))) zy_X3_size zw_646 rfl rfl (by decide) (Nat.le_of_ble_eq_true rfl) ?_
  replace hT := zlet_open hT
  obtain ⟨x1, hx1, hT⟩ := hT
  rw [← hx1]
  refine z_istore ok dX3_costBy_13 (hI 5 (by decide)) (lv' := [(5, .int x1), (0, .ref (zad G 47)), (1, .int side), (2, .int kind), (3, .int (nI f)), (4, .int (nI t))]) rfl ?_
  refine z_iload ok dX3_costBy_15 5 rfl ?_
  refine z_bipush ok dX3_costBy_17 (x := 6) (by decide) ?_
  refine z_idiv_n ok dX3_costBy_19 t 6 rfl rfl (by omega) (by omega) (by omega) ?_
  refine z_iload_n ok dX3_costBy_20 4 rfl ?_
  refine z_bipush ok dX3_costBy_21 (x := 6) (by decide) ?_
  refine z_idiv_n ok dX3_costBy_23 f 6 rfl rfl (by omega) (by omega) (by omega) ?_
  refine z_isub ok dX3_costBy_24 ?_
  refine z_callSi ok old dX3_costBy_25 [] (c_X3_size G N hN hg w ((nI (t / 6)) - (nI (f / 6)))) zy_X3_size zw_646 rfl rfl (by decide) (Nat.le_of_ble_eq_true rfl) ?_
  replace hT := zlet_open hT
  obtain ⟨x2, hx2, hT⟩ := hT
  rw [← hx2]
  refine z_istore ok dX3_costBy_28 (hI 6 (by decide)) (lv' := [(6, .int x2), (5, .int x1), (0, .ref (zad G 47)), (1, .int side), (2, .int kind), (3, .int (nI f)), (4, .int (nI t))]) rfl ?_
  refine z_iload ok dX3_costBy_30 1 rfl ?_
  refine z_iload ok dX3_costBy_32 0 rfl ?_
  refine z_iadd ok dX3_costBy_34 ?_
  refine z_if_eq ok dX3_costBy_35 51 (by decide) (fun c3 => ?_) (fun c3 => ?_)
  · rw [if_pos c3] at hT
    refine z_iconst ok dX3_costBy_51 (x := (-1)) (by decide) ?_
    exact z_iret ok hE dX3_costBy_52 rfl ⟨hT, rfl⟩
  · rw [if_neg c3] at hT
    refine z_aload_n ok dX3_costBy_38 2 rfl ?_
    refine z_get_X3_st ok dX3_costBy_39 hN zw_549 ?_
    refine z_iconst ok dX3_costBy_42 (x := 0) (by decide) ?_
    refine z_iload ok dX3_costBy_43 6 rfl ?_
    refine z_iadd_0 ok dX3_costBy_45 ?_
    refine z_mld48 ok dX3_costBy_46 hN t rfl (by omega) ?_
    refine z_iload_n ok dX3_costBy_47 3 rfl ?_
    refine z_icmp_ne ok dX3_costBy_48 53 (by decide) (fun c4 => ?_) (fun c4 => ?_)
    · rw [if_neg c4] at hT
      refine z_iload_n ok dX3_costBy_53 4 rfl ?_
      by_cases c5 : kind = 0
      · rw [if_pos c5] at hT
        refine z_tableIn ok dX3_costBy_54 84 30 (by rw [c5]; decide) ?_
        refine z_iload ok dX3_costBy_84 1 rfl ?_
        refine z_iconst ok dX3_costBy_86 (x := 2) (by decide) ?_
        refine z_icmp_ge ok dX3_costBy_87 100 (by decide) (fun c6 => ?_) (fun c6 => ?_)
        · rw [if_pos c6] at hT
          refine z_iconst ok dX3_costBy_100 (x := (-1)) (by decide) ?_
          exact z_iret ok hE dX3_costBy_101 rfl ⟨hT, rfl⟩
        · rw [if_neg c6] at hT
          refine z_iload ok dX3_costBy_90 0 rfl ?_
          refine z_iconst ok dX3_costBy_92 (x := 2) (by decide) ?_
          refine z_icmp_ge ok dX3_costBy_93 100 (by decide) (fun c7 => ?_) (fun c7 => ?_)
          · rw [if_pos c7] at hT
            refine z_iconst ok dX3_costBy_100 (x := (-1)) (by decide) ?_
            exact z_iret ok hE dX3_costBy_101 rfl ⟨hT, rfl⟩
          · rw [if_neg c7] at hT
            refine z_iconst ok dX3_costBy_96 (x := 1) (by decide) ?_
            refine z_goto ok dX3_costBy_97 101 (by decide) ?_
            exact z_iret ok hE dX3_costBy_101 rfl ⟨hT, rfl⟩
      · rw [if_neg c5] at hT
        by_cases c8 : kind = 1
        · rw [if_pos c8] at hT
          refine z_tableIn ok dX3_costBy_54 102 48 (by rw [c8]; decide) ?_
          refine z_iload ok dX3_costBy_102 1 rfl ?_
          refine z_if_eq ok dX3_costBy_104 112 (by decide) (fun c9 => ?_) (fun c9 => ?_)
          · rw [if_pos c9] at hT
            refine z_aload_n ok dX3_costBy_112 2 rfl ?_
            refine z_iload_n ok dX3_costBy_113 5 rfl ?_
            refine z_iload ok dX3_costBy_114 6 rfl ?_
            refine z_callVi ok old dX3_costBy_116 [] (c_X3_isFree G N hN hg w f (by omega) t (by omega) (by first | exact zal_r h_f h_t (by assumption) (by assumption) (by assumption) (by assumption) | exact zal_c h_f h_t (by assumption) (by assumption) (by assumption) (by assumption))) zy_X3_isFree zw_649 47 (by omega) (zE_47 G w) rfl rfl rfl rfl rfl (by decide) (Nat.le_of_ble_eq_true rfl) ?_
            refine z_if_eq ok dX3_costBy_119 130 (by decide) (fun c10 => ?_) (fun c10 => ?_)
            · rw [if_pos c10] at hT
              refine z_iconst ok dX3_costBy_130 (x := (-1)) (by decide) ?_
              exact z_iret ok hE dX3_costBy_131 rfl ⟨hT, rfl⟩
            · rw [if_neg c10] at hT
              refine z_iload ok dX3_costBy_122 1 rfl ?_
              refine z_iload ok dX3_costBy_124 0 rfl ?_
              refine z_iadd ok dX3_costBy_126 ?_
              refine z_goto ok dX3_costBy_127 131 (by decide) ?_
              exact z_iret ok hE dX3_costBy_131 rfl ⟨hT, rfl⟩
          · rw [if_neg c9] at hT
            refine z_iload ok dX3_costBy_107 0 rfl ?_
            refine z_if_ne ok dX3_costBy_109 130 (by decide) (fun c11 => ?_) (fun c11 => ?_)
            · rw [if_neg c11] at hT
              refine z_iconst ok dX3_costBy_130 (x := (-1)) (by decide) ?_
              exact z_iret ok hE dX3_costBy_131 rfl ⟨hT, rfl⟩
            · rw [if_pos c11] at hT
              refine z_aload_n ok dX3_costBy_112 2 rfl ?_
              refine z_iload_n ok dX3_costBy_113 5 rfl ?_
              refine z_iload ok dX3_costBy_114 6 rfl ?_
              refine z_callVi ok old dX3_costBy_116 [] (c_X3_isFree G N hN hg w f (by omega) t (by omega) (by first | exact zal_r h_f h_t (by assumption) (by assumption) (by assumption) (by assumption) | exact zal_c h_f h_t (by assumption) (by assumption) (by assumption) (by assumption))) zy_X3_isFree zw_649 47 (by omega) (zE_47 G w) rfl rfl rfl rfl rfl (by decide) (Nat.le_of_ble_eq_true rfl) ?_
              refine z_if_eq ok dX3_costBy_119 130 (by decide) (fun c12 => ?_) (fun c12 => ?_)
              · rw [if_pos c12] at hT
                refine z_iconst ok dX3_costBy_130 (x := (-1)) (by decide) ?_
                exact z_iret ok hE dX3_costBy_131 rfl ⟨hT, rfl⟩
              · rw [if_neg c12] at hT
                refine z_iload ok dX3_costBy_122 1 rfl ?_
                refine z_iload ok dX3_costBy_124 0 rfl ?_
                refine z_iadd ok dX3_costBy_126 ?_
                refine z_goto ok dX3_costBy_127 131 (by decide) ?_
                exact z_iret ok hE dX3_costBy_131 rfl ⟨hT, rfl⟩
        · rw [if_neg c8] at hT
          by_cases c13 : kind = 2
          · rw [if_pos c13] at hT
            refine z_tableIn ok dX3_costBy_54 132 78 (by rw [c13]; decide) ?_
            refine z_iload ok dX3_costBy_132 1 rfl ?_
            refine z_iload ok dX3_costBy_134 0 rfl ?_
            refine z_icmp_ne ok dX3_costBy_136 154 (by decide) (fun c14 => ?_) (fun c14 => ?_)
            · rw [if_neg c14] at hT
              refine z_iconst ok dX3_costBy_154 (x := (-1)) (by decide) ?_
              exact z_iret ok hE dX3_costBy_155 rfl ⟨hT, rfl⟩
            · rw [if_pos c14] at hT
              refine z_aload_n ok dX3_costBy_139 2 rfl ?_
              refine z_iload_n ok dX3_costBy_140 5 rfl ?_
              refine z_iload ok dX3_costBy_141 6 rfl ?_
              refine z_callVi ok old dX3_costBy_143 [] (c_X3_isFree G N hN hg w f (by omega) t (by omega) (zal_d h_f h_t (by assumption) (by assumption) (by assumption) (by assumption))) zy_X3_isFree zw_649 47 (by omega) (zE_47 G w) rfl rfl rfl rfl rfl (by decide) (Nat.le_of_ble_eq_true rfl) ?_
              refine z_if_eq ok dX3_costBy_146 154 (by decide) (fun c15 => ?_) (fun c15 => ?_)
              · rw [if_pos c15] at hT
                refine z_iconst ok dX3_costBy_154 (x := (-1)) (by decide) ?_
                exact z_iret ok hE dX3_costBy_155 rfl ⟨hT, rfl⟩
              · rw [if_neg c15] at hT
                refine z_iload ok dX3_costBy_149 1 rfl ?_
                refine z_goto ok dX3_costBy_151 155 (by decide) ?_
                exact z_iret ok hE dX3_costBy_155 rfl ⟨hT, rfl⟩
          · rw [if_neg c13] at hT
            by_cases c16 : kind = 3
            · rw [if_pos c16] at hT
              refine z_tableIn ok dX3_costBy_54 156 102 (by rw [c16]; decide) ?_
              refine z_iload ok dX3_costBy_156 1 rfl ?_
              refine z_iload ok dX3_costBy_158 0 rfl ?_
              refine z_imul ok dX3_costBy_160 ?_
              refine z_iconst ok dX3_costBy_161 (x := 2) (by decide) ?_
              refine z_icmp_ne ok dX3_costBy_162 169 (by decide) (fun c17 => ?_) (fun c17 => ?_)
              · rw [if_neg c17] at hT
                refine z_iconst ok dX3_costBy_169 (x := (-1)) (by decide) ?_
                exact z_iret ok hE dX3_costBy_170 rfl ⟨hT, rfl⟩
              · rw [if_pos c17] at hT
                refine z_iconst ok dX3_costBy_165 (x := 2) (by decide) ?_
                refine z_goto ok dX3_costBy_166 170 (by decide) ?_
                exact z_iret ok hE dX3_costBy_170 rfl ⟨hT, rfl⟩
            · rw [if_neg c16] at hT
              refine z_tableOut ok dX3_costBy_54 171 (ztab_out4 c5 c8 c13 c16) (by decide) ?_
              refine z_iload ok dX3_costBy_171 6 rfl ?_
              refine z_bipush ok dX3_costBy_173 (x := 6) (by decide) ?_
              refine z_idiv_n ok dX3_costBy_175 t 6 rfl rfl (by omega) (by omega) (by omega) ?_
              refine z_iload_n ok dX3_costBy_176 5 rfl ?_
              refine z_bipush ok dX3_costBy_177 (x := 6) (by decide) ?_
              refine z_idiv_n ok dX3_costBy_179 f 6 rfl rfl (by omega) (by omega) (by omega) ?_
              refine z_isub ok dX3_costBy_180 ?_
              refine z_iconst ok dX3_costBy_181 (x := 1) (by decide) ?_
              refine z_iconst ok dX3_costBy_182 (x := 2) (by decide) ?_
              refine z_iload_n ok dX3_costBy_183 3 rfl ?_
              refine z_imul ok dX3_costBy_184 ?_
              refine z_isub ok dX3_costBy_185 ?_
              replace hT := zlet_open hT
              obtain ⟨x18, hx18, hT⟩ := hT
              have hsx18 := hx18.symm
              have hJx18 : zZ k G N w 194 [(0, .ref (zad G 47)), (1, .int side), (2, .int kind), (3, .int (nI f)), (4, .int (nI t)), (5, .int x1), (6, .int x2)] [.int x18] := by
                refine z_istore ok dX3_costBy_194 (hI 7 (by decide)) (lv' := [(7, .int x18), (0, .ref (zad G 47)), (1, .int side), (2, .int kind), (3, .int (nI f)), (4, .int (nI t)), (5, .int x1), (6, .int x2)]) rfl ?_
                refine z_iload ok dX3_costBy_196 6 rfl ?_
                replace hT := zlet_open hT
                obtain ⟨x19, hx19, hT⟩ := hT
                have hsx19 := hx19.symm
                have hJx19 : zZ k G N w 248 [(0, .ref (zad G 47)), (1, .int side), (2, .int kind), (3, .int (nI f)), (4, .int (nI t)), (5, .int x1), (6, .int x2), (7, .int x18)] [.int x19] := by
                  refine z_istore ok dX3_costBy_248 (hI 8 (by decide)) (lv' := [(8, .int x19), (0, .ref (zad G 47)), (1, .int side), (2, .int kind), (3, .int (nI f)), (4, .int (nI t)), (5, .int x1), (6, .int x2), (7, .int x18)]) rfl ?_
                  refine z_iload ok dX3_costBy_250 8 rfl ?_
                  refine z_if_eq ok dX3_costBy_252 264 (by decide) (fun c20 => ?_) (fun c20 => ?_)
                  · rw [if_pos c20] at hT
                    refine z_iconst ok dX3_costBy_264 (x := (-1)) (by decide) ?_
                    exact z_iret ok hE dX3_costBy_265 rfl ⟨hT, rfl⟩
                  · rw [if_neg c20] at hT
                    refine z_iload ok dX3_costBy_255 0 rfl ?_
                    refine z_if_eq ok dX3_costBy_257 264 (by decide) (fun c21 => ?_) (fun c21 => ?_)
                    · rw [if_pos c21] at hT
                      refine z_iconst ok dX3_costBy_264 (x := (-1)) (by decide) ?_
                      exact z_iret ok hE dX3_costBy_265 rfl ⟨hT, rfl⟩
                    · rw [if_neg c21] at hT
                      refine z_iconst ok dX3_costBy_260 (x := 1) (by decide) ?_
                      refine z_goto ok dX3_costBy_261 265 (by decide) ?_
                      exact z_iret ok hE dX3_costBy_265 rfl ⟨hT, rfl⟩
                refine z_if_ne ok dX3_costBy_198 222 (by decide) (fun c22 => ?_) (fun c22 => ?_)
                · rw [if_neg c22] at hsx19
                  refine z_iload ok dX3_costBy_222 6 rfl ?_
                  refine z_iconst ok dX3_costBy_224 (x := 1) (by decide) ?_
                  refine z_icmp_ne ok dX3_costBy_225 247 (by decide) (fun c23 => ?_) (fun c23 => ?_)
                  · rw [if_neg c23] at hsx19
                    refine z_iconst ok dX3_costBy_247 (x := 0) (by decide) ?_
                    rw [← hsx19] at hJx19
                    refine z_locs [1, 2, 3, 4, 5, 6, 7, 0] (lv' := [(0, .ref (zad G 47)), (1, .int side), (2, .int kind), (3, .int (nI f)), (4, .int (nI t)), (5, .int x1), (6, .int x2), (7, .int x18)]) rfl ?_
                    exact hJx19
                  · rw [if_pos c23] at hsx19
                    refine z_aload_n ok dX3_costBy_228 1 rfl ?_
                    refine z_get_X3_st ok dX3_costBy_229 hN zw_549 ?_
                    refine z_iconst ok dX3_costBy_232 (x := 0) (by decide) ?_
                    refine z_iload ok dX3_costBy_233 5 rfl ?_
                    refine z_iadd_0 ok dX3_costBy_235 ?_
                    refine z_mld48 ok dX3_costBy_236 hN t rfl (by omega) ?_
                    refine z_iconst ok dX3_costBy_237 (x := 1) (by decide) ?_
                    refine z_iload_n ok dX3_costBy_238 2 rfl ?_
                    refine z_isub ok dX3_costBy_239 ?_
                    refine z_icmp_ne ok dX3_costBy_240 247 (by decide) (fun c24 => ?_) (fun c24 => ?_)
                    · rw [if_neg c24] at hsx19
                      refine z_iconst ok dX3_costBy_247 (x := 0) (by decide) ?_
                      rw [← hsx19] at hJx19
                      refine z_locs [1, 2, 3, 4, 5, 6, 7, 0] (lv' := [(0, .ref (zad G 47)), (1, .int side), (2, .int kind), (3, .int (nI f)), (4, .int (nI t)), (5, .int x1), (6, .int x2), (7, .int x18)]) rfl ?_
                      exact hJx19
                    · rw [if_pos c24] at hsx19
                      refine z_iconst ok dX3_costBy_243 (x := 1) (by decide) ?_
                      refine z_goto ok dX3_costBy_244 248 (by decide) ?_
                      rw [← hsx19] at hJx19
                      refine z_locs [1, 2, 3, 4, 5, 6, 7, 0] (lv' := [(0, .ref (zad G 47)), (1, .int side), (2, .int kind), (3, .int (nI f)), (4, .int (nI t)), (5, .int x1), (6, .int x2), (7, .int x18)]) rfl ?_
                      exact hJx19
                · rw [if_pos c22] at hsx19
                  refine z_aload_n ok dX3_costBy_201 1 rfl ?_
                  refine z_get_X3_st ok dX3_costBy_202 hN zw_549 ?_
                  refine z_iconst ok dX3_costBy_205 (x := 0) (by decide) ?_
                  refine z_iload ok dX3_costBy_206 5 rfl ?_
                  refine z_iadd_0 ok dX3_costBy_208 ?_
                  refine z_mld48 ok dX3_costBy_209 hN t rfl (by omega) ?_
                  refine z_iconst ok dX3_costBy_210 (x := (-1)) (by decide) ?_
                  refine z_icmp_ne ok dX3_costBy_211 218 (by decide) (fun c25 => ?_) (fun c25 => ?_)
                  · rw [if_neg c25] at hsx19
                    refine z_iconst ok dX3_costBy_218 (x := 0) (by decide) ?_
                    refine z_goto ok dX3_costBy_219 248 (by decide) ?_
                    rw [← hsx19] at hJx19
                    refine z_locs [1, 2, 3, 4, 5, 6, 7, 0] (lv' := [(0, .ref (zad G 47)), (1, .int side), (2, .int kind), (3, .int (nI f)), (4, .int (nI t)), (5, .int x1), (6, .int x2), (7, .int x18)]) rfl ?_
                    exact hJx19
                  · rw [if_pos c25] at hsx19
                    refine z_iconst ok dX3_costBy_214 (x := 1) (by decide) ?_
                    refine z_goto ok dX3_costBy_215 248 (by decide) ?_
                    rw [← hsx19] at hJx19
                    refine z_locs [1, 2, 3, 4, 5, 6, 7, 0] (lv' := [(0, .ref (zad G 47)), (1, .int side), (2, .int kind), (3, .int (nI f)), (4, .int (nI t)), (5, .int x1), (6, .int x2), (7, .int x18)]) rfl ?_
                    exact hJx19
              refine z_icmp_ne ok dX3_costBy_186 193 (by decide) (fun c26 => ?_) (fun c26 => ?_)
              · rw [if_neg c26] at hsx18
                refine z_iconst ok dX3_costBy_193 (x := 0) (by decide) ?_
                rw [← hsx18] at hJx18
                refine z_locs [2, 3, 4, 5, 6, 1, 0] (lv' := [(0, .ref (zad G 47)), (1, .int side), (2, .int kind), (3, .int (nI f)), (4, .int (nI t)), (5, .int x1), (6, .int x2)]) rfl ?_
                exact hJx18
              · rw [if_pos c26] at hsx18
                refine z_iconst ok dX3_costBy_189 (x := 1) (by decide) ?_
                refine z_goto ok dX3_costBy_190 194 (by decide) ?_
                rw [← hsx18] at hJx18
                refine z_locs [2, 3, 4, 5, 6, 1, 0] (lv' := [(0, .ref (zad G 47)), (1, .int side), (2, .int kind), (3, .int (nI f)), (4, .int (nI t)), (5, .int x1), (6, .int x2)]) rfl ?_
                exact hJx18
    · rw [if_pos c4] at hT
      refine z_iconst ok dX3_costBy_51 (x := (-1)) (by decide) ?_
      exact z_iret ok hE dX3_costBy_52 rfl ⟨hT, rfl⟩

def d_X3_costOf (w : xW) (f : Nat) (t : Nat) : Int32 :=
  (d_X3_costBy w (xg w 11 f) (xg w 11 (36 + f)) f t)
set_option maxRecDepth 100000 in
set_option maxHeartbeats 4000000 in
theorem c_X3_costOf (G : zG) (N : Nat) (hN : 54 ≤ N) (hg : zGeo G N) (w : xW) (f : Nat) (h_f : f < 36) (t : Nat) (h_t : t < 36) : zM yX3_costOf cX3_costOf 3 (some .int) 3 72 G N [.ref (zad G 47), .int (nI f), .int (nI t)] w (some (d_X3_costOf w f t)) w := by
  generalize hT : d_X3_costOf w f t = r
  unfold d_X3_costOf at hT
  refine zM_of zy_X3_costOf.2.2.2.2.2.2.2 hg ⟨Nat.le_of_ble_eq_true rfl, by decide⟩ rfl (fun k ok hE hI => ?_)
  have old := hE.old
  refine z_aload_n ok dX3_costOf_0 0 rfl ?_
  refine z_aload_n ok dX3_costOf_1 0 rfl ?_
  refine z_get_X3_st ok dX3_costOf_2 hN zw_549 ?_
  refine z_iconst ok dX3_costOf_5 (x := 0) (by decide) ?_
  refine z_iload_n ok dX3_costOf_6 1 rfl ?_
  refine z_iadd_0 ok dX3_costOf_7 ?_
  refine z_mld48 ok dX3_costOf_8 hN f rfl (by omega) ?_
  refine z_aload_n ok dX3_costOf_9 0 rfl ?_
  refine z_get_X3_st ok dX3_costOf_10 hN zw_549 ?_
  refine z_bipush ok dX3_costOf_13 (x := 36) (by decide) ?_
  refine z_iload_n ok dX3_costOf_15 1 rfl ?_
  refine z_iadd_n ok dX3_costOf_16 36 f rfl rfl ?_
  refine z_mld48 ok dX3_costOf_17 hN (36 + f) rfl (by omega) ?_
  refine z_iload_n ok dX3_costOf_18 1 rfl ?_
  refine z_iload_n ok dX3_costOf_19 2 rfl ?_
  refine z_callVi ok old dX3_costOf_20 [] (c_X3_costBy G N hN hg w (xg w 11 f) (xg w 11 (36 + f)) f (by omega) t (by omega)) zy_X3_costBy zw_642 47 (by omega) (zE_47 G w) rfl rfl rfl rfl rfl (by decide) (Nat.le_of_ble_eq_true rfl) ?_
  exact z_iret ok hE dX3_costOf_23 rfl ⟨hT, rfl⟩

def d_X3_canGo (w : xW) (f : Nat) (t : Nat) : Int32 :=
  zlet ((d_X3_costOf w f t)) fun x1 =>
  if x1 < 0 then (0)
  else (if (xg w 11 (72 + f)) < x1 then (0)
  else (1))
set_option maxRecDepth 100000 in
set_option maxHeartbeats 4000000 in
theorem c_X3_canGo (G : zG) (N : Nat) (hN : 54 ≤ N) (hg : zGeo G N) (w : xW) (f : Nat) (h_f : f < 36) (t : Nat) (h_t : t < 36) : zM yX3_canGo cX3_canGo 4 (some .boolean) 4 94 G N [.ref (zad G 47), .int (nI f), .int (nI t)] w (some (d_X3_canGo w f t)) w := by
  generalize hT : d_X3_canGo w f t = r
  unfold d_X3_canGo at hT
  refine zM_of zy_X3_canGo.2.2.2.2.2.2.2 hg ⟨Nat.le_of_ble_eq_true rfl, by decide⟩ rfl (fun k ok hE hI => ?_)
  have old := hE.old
  refine z_aload_n ok dX3_canGo_0 0 rfl ?_
  refine z_iload_n ok dX3_canGo_1 1 rfl ?_
  refine z_iload_n ok dX3_canGo_2 2 rfl ?_
  refine z_callVi ok old dX3_canGo_3 [] (c_X3_costOf G N hN hg w f (by omega) t (by omega)) zy_X3_costOf zw_638 47 (by omega) (zE_47 G w) rfl rfl rfl rfl rfl (by decide) (Nat.le_of_ble_eq_true rfl) ?_
  replace hT := zlet_open hT
  obtain ⟨x1, hx1, hT⟩ := hT
  rw [← hx1]
  refine z_istore_n ok dX3_canGo_6 (hI 3 (by decide)) (lv' := [(3, .int x1), (0, .ref (zad G 47)), (1, .int (nI f)), (2, .int (nI t))]) rfl ?_
  refine z_iload_n ok dX3_canGo_7 0 rfl ?_
  refine z_if_lt ok dX3_canGo_8 28 (by decide) (fun c2 => ?_) (fun c2 => ?_)
  · rw [if_pos c2] at hT
    refine z_iconst ok dX3_canGo_28 (x := 0) (by decide) ?_
    exact z_iret ok hE dX3_canGo_29 rfl ⟨hT, rfl⟩
  · rw [if_neg c2] at hT
    refine z_iload_n ok dX3_canGo_11 0 rfl ?_
    refine z_aload_n ok dX3_canGo_12 1 rfl ?_
    refine z_get_X3_st ok dX3_canGo_13 hN zw_549 ?_
    refine z_bipush ok dX3_canGo_16 (x := 72) (by decide) ?_
    refine z_iload_n ok dX3_canGo_18 2 rfl ?_
    refine z_iadd_n ok dX3_canGo_19 72 f rfl rfl ?_
    refine z_mld48 ok dX3_canGo_20 hN (72 + f) rfl (by omega) ?_
    refine z_icmp_gt ok dX3_canGo_21 28 (by decide) (fun c3 => ?_) (fun c3 => ?_)
    · rw [if_pos c3] at hT
      refine z_iconst ok dX3_canGo_28 (x := 0) (by decide) ?_
      exact z_iret ok hE dX3_canGo_29 rfl ⟨hT, rfl⟩
    · rw [if_neg c3] at hT
      refine z_iconst ok dX3_canGo_24 (x := 1) (by decide) ?_
      refine z_goto ok dX3_canGo_25 29 (by decide) ?_
      exact z_iret ok hE dX3_canGo_29 rfl ⟨hT, rfl⟩

def d_X3_movesFrom_4k  (e1_2 : Int32) (e1_3 : Nat) : Int32 :=
  e1_2
def d_X3_movesFrom_4 (w : xW) (f : Nat) (kt1 : Int32 → Nat → Int32) : Nat → Int32 → Nat → Int32
  | 0, _, _ => default
  | n1 + 1, v1_2, v1_3 => if 36 ≤ v1_3 then (kt1 v1_2 v1_3)
  else (zlet (if (d_X3_canGo w f v1_3) = 0 then (0)
  else (1) : Int32) fun x3 =>
  zlet ((v1_2 + x3)) fun x4 =>
  d_X3_movesFrom_4 w f kt1 n1 x4 (v1_3 + 1))
def d_X3_movesFrom (w : xW) (f : Nat) : Int32 :=
  d_X3_movesFrom_4 w f d_X3_movesFrom_4k 37 0 0
set_option maxRecDepth 100000 in
set_option maxHeartbeats 4000000 in
theorem c_X3_movesFrom (G : zG) (N : Nat) (hN : 54 ≤ N) (hg : zGeo G N) (w : xW) (f : Nat) (h_f : f < 36) : zM yX3_movesFrom cX3_movesFrom 4 (some .int) 5 117 G N [.ref (zad G 47), .int (nI f)] w (some (d_X3_movesFrom w f)) w := by
  generalize hT : d_X3_movesFrom w f = r
  unfold d_X3_movesFrom at hT
  refine zM_of zy_X3_movesFrom.2.2.2.2.2.2.2 hg ⟨Nat.le_of_ble_eq_true rfl, by decide⟩ rfl (fun k ok hE hI => ?_)
  have old := hE.old
  refine z_iconst ok dX3_movesFrom_0 (x := 0) (by decide) ?_
  refine z_istore_n ok dX3_movesFrom_1 (hI 2 (by decide)) (lv' := [(2, .int 0), (0, .ref (zad G 47)), (1, .int (nI f))]) rfl ?_
  refine z_iconst ok dX3_movesFrom_2 (x := 0) (by decide) ?_
  refine z_istore_n ok dX3_movesFrom_3 (hI 3 (by decide)) (lv' := [(3, .int 0), (2, .int 0), (0, .ref (zad G 47)), (1, .int (nI f))]) rfl ?_
  refine z_locs [2, 3, 1, 0] (lv' := [(0, .ref (zad G 47)), (1, .int (nI f)), (2, .int 0), (3, .int 0)]) rfl ?_
  obtain ⟨kt1, hkt1⟩ : ∃ z, z = d_X3_movesFrom_4k := ⟨_, rfl⟩
  rw [← hkt1] at hT
  have hk1 : ∀ (e1_2 : Int32) (e1_3 : Nat), e1_3 ≤ 36 → kt1 e1_2 e1_3 = r → zZ k G N w 33 [(0, .ref (zad G 47)), (1, .int (nI f)), (2, .int e1_2), (3, .int (nI e1_3))] [] := by
    intro e1_2 e1_3 q1_0 hT1
    rw [hkt1, d_X3_movesFrom_4k] at hT1
    refine z_iload_n ok dX3_movesFrom_33 2 rfl ?_
    exact z_iret ok hE dX3_movesFrom_34 rfl ⟨hT1, rfl⟩
  have hl1 : ∀ (n1 : Nat) (v1_2 : Int32) (v1_3 : Nat), 36 < v1_3 + n1 → v1_3 ≤ 36 → d_X3_movesFrom_4 w f kt1 n1 v1_2 v1_3 = r → zZ k G N w 4 [(0, .ref (zad G 47)), (1, .int (nI f)), (2, .int v1_2), (3, .int (nI v1_3))] [] := by
    intro n1
    induction n1 with
    | zero =>
      intro v1_2 v1_3 q1_0 q1_1
      exact absurd q1_0 (by omega)
    | succ n1 ih1 =>
      intro v1_2 v1_3 q1_0 q1_1 hT1
      rw [d_X3_movesFrom_4] at hT1
      refine z_iload_n ok dX3_movesFrom_4 3 rfl ?_
      refine z_bipush ok dX3_movesFrom_5 (x := 36) (by decide) ?_
      refine z_icmp_ge_n ok dX3_movesFrom_7 33 (by decide) v1_3 36 rfl rfl (by omega) (fun c2 => ?_) (fun c2 => ?_)
      · rw [if_pos c2] at hT1
        refine z_locs [0, 1, 2, 3] (lv' := [(0, .ref (zad G 47)), (1, .int (nI f)), (2, .int v1_2), (3, .int (nI v1_3))]) rfl ?_
        exact hk1 v1_2 v1_3 (by omega) hT1
      · rw [if_neg c2] at hT1
        refine z_iload_n ok dX3_movesFrom_10 2 rfl ?_
        refine z_aload_n ok dX3_movesFrom_11 0 rfl ?_
        refine z_iload_n ok dX3_movesFrom_12 1 rfl ?_
        refine z_iload_n ok dX3_movesFrom_13 3 rfl ?_
        refine z_callVi ok old dX3_movesFrom_14 [.int v1_2] (c_X3_canGo G N hN hg w f (by omega) v1_3 (by omega)) zy_X3_canGo zw_634 47 (by omega) (zE_47 G w) rfl rfl rfl rfl rfl (by decide) (Nat.le_of_ble_eq_true rfl) ?_
        replace hT1 := zlet_open hT1
        obtain ⟨x3, hx3, hT1⟩ := hT1
        have hsx3 := hx3.symm
        have hJx3 : zZ k G N w 25 [(0, .ref (zad G 47)), (1, .int (nI f)), (2, .int v1_2), (3, .int (nI v1_3))] [.int x3, .int v1_2] := by
          refine z_iadd ok dX3_movesFrom_25 ?_
          replace hT1 := zlet_open hT1
          obtain ⟨x4, hx4, hT1⟩ := hT1
          rw [← hx4]
          refine z_istore_n ok dX3_movesFrom_26 (hI 2 (by decide)) (lv' := [(2, .int x4), (0, .ref (zad G 47)), (1, .int (nI f)), (3, .int (nI v1_3))]) rfl ?_
          refine z_iinc ok dX3_movesFrom_27 (hI 3 (by decide)) 3 rfl (y := (nI (v1_3 + 1))) (z_incn v1_3 1) (lv' := [(3, .int (nI (v1_3 + 1))), (2, .int x4), (0, .ref (zad G 47)), (1, .int (nI f))]) rfl ?_
          refine z_goto ok dX3_movesFrom_30 4 (by decide) ?_
          refine z_locs [2, 3, 1, 0] (lv' := [(0, .ref (zad G 47)), (1, .int (nI f)), (2, .int x4), (3, .int (nI (v1_3 + 1)))]) rfl ?_
          exact ih1 x4 (v1_3 + 1) (by omega) (by omega) hT1
        refine z_if_eq ok dX3_movesFrom_17 24 (by decide) (fun c5 => ?_) (fun c5 => ?_)
        · rw [if_pos c5] at hsx3
          refine z_iconst ok dX3_movesFrom_24 (x := 0) (by decide) ?_
          rw [← hsx3] at hJx3
          refine z_locs [0, 1, 2, 3] (lv' := [(0, .ref (zad G 47)), (1, .int (nI f)), (2, .int v1_2), (3, .int (nI v1_3))]) rfl ?_
          exact hJx3
        · rw [if_neg c5] at hsx3
          refine z_iconst ok dX3_movesFrom_20 (x := 1) (by decide) ?_
          refine z_goto ok dX3_movesFrom_21 25 (by decide) ?_
          rw [← hsx3] at hJx3
          refine z_locs [0, 1, 2, 3] (lv' := [(0, .ref (zad G 47)), (1, .int (nI f)), (2, .int v1_2), (3, .int (nI v1_3))]) rfl ?_
          exact hJx3
  exact hl1 37 0 0 (by omega) (by omega) hT

def d_X3_movesOf_4k  (e1_2 : Int32) (e1_3 : Nat) : Int32 :=
  e1_2
def d_X3_movesOf_4 (w : xW) (side : Int32) (kt1 : Int32 → Nat → Int32) : Nat → Int32 → Nat → Int32
  | 0, _, _ => default
  | n1 + 1, v1_2, v1_3 => if 36 ≤ v1_3 then (kt1 v1_2 v1_3)
  else (zlet (if (xg w 11 v1_3) = side then ((d_X3_movesFrom w v1_3))
  else (0) : Int32) fun x3 =>
  zlet ((v1_2 + x3)) fun x4 =>
  d_X3_movesOf_4 w side kt1 n1 x4 (v1_3 + 1))
def d_X3_movesOf (w : xW) (side : Int32) : Int32 :=
  d_X3_movesOf_4 w side d_X3_movesOf_4k 37 0 0
set_option maxRecDepth 100000 in
set_option maxHeartbeats 4000000 in
theorem c_X3_movesOf (G : zG) (N : Nat) (hN : 54 ≤ N) (hg : zGeo G N) (w : xW) (side : Int32) : zM yX3_movesOf cX3_movesOf 4 (some .int) 6 140 G N [.ref (zad G 47), .int side] w (some (d_X3_movesOf w side)) w := by
  generalize hT : d_X3_movesOf w side = r
  unfold d_X3_movesOf at hT
  refine zM_of zy_X3_movesOf.2.2.2.2.2.2.2 hg ⟨Nat.le_of_ble_eq_true rfl, by decide⟩ rfl (fun k ok hE hI => ?_)
  have old := hE.old
  refine z_iconst ok dX3_movesOf_0 (x := 0) (by decide) ?_
  refine z_istore_n ok dX3_movesOf_1 (hI 2 (by decide)) (lv' := [(2, .int 0), (0, .ref (zad G 47)), (1, .int side)]) rfl ?_
  refine z_iconst ok dX3_movesOf_2 (x := 0) (by decide) ?_
  refine z_istore_n ok dX3_movesOf_3 (hI 3 (by decide)) (lv' := [(3, .int 0), (2, .int 0), (0, .ref (zad G 47)), (1, .int side)]) rfl ?_
  refine z_locs [2, 3, 1, 0] (lv' := [(0, .ref (zad G 47)), (1, .int side), (2, .int 0), (3, .int 0)]) rfl ?_
  obtain ⟨kt1, hkt1⟩ : ∃ z, z = d_X3_movesOf_4k := ⟨_, rfl⟩
  rw [← hkt1] at hT
  have hk1 : ∀ (e1_2 : Int32) (e1_3 : Nat), e1_3 ≤ 36 → kt1 e1_2 e1_3 = r → zZ k G N w 40 [(0, .ref (zad G 47)), (1, .int side), (2, .int e1_2), (3, .int (nI e1_3))] [] := by
    intro e1_2 e1_3 q1_0 hT1
    rw [hkt1, d_X3_movesOf_4k] at hT1
    refine z_iload_n ok dX3_movesOf_40 2 rfl ?_
    exact z_iret ok hE dX3_movesOf_41 rfl ⟨hT1, rfl⟩
  have hl1 : ∀ (n1 : Nat) (v1_2 : Int32) (v1_3 : Nat), 36 < v1_3 + n1 → v1_3 ≤ 36 → d_X3_movesOf_4 w side kt1 n1 v1_2 v1_3 = r → zZ k G N w 4 [(0, .ref (zad G 47)), (1, .int side), (2, .int v1_2), (3, .int (nI v1_3))] [] := by
    intro n1
    induction n1 with
    | zero =>
      intro v1_2 v1_3 q1_0 q1_1
      exact absurd q1_0 (by omega)
    | succ n1 ih1 =>
      intro v1_2 v1_3 q1_0 q1_1 hT1
      rw [d_X3_movesOf_4] at hT1
      refine z_iload_n ok dX3_movesOf_4 3 rfl ?_
      refine z_bipush ok dX3_movesOf_5 (x := 36) (by decide) ?_
      refine z_icmp_ge_n ok dX3_movesOf_7 40 (by decide) v1_3 36 rfl rfl (by omega) (fun c2 => ?_) (fun c2 => ?_)
      · rw [if_pos c2] at hT1
        refine z_locs [0, 1, 2, 3] (lv' := [(0, .ref (zad G 47)), (1, .int side), (2, .int v1_2), (3, .int (nI v1_3))]) rfl ?_
        exact hk1 v1_2 v1_3 (by omega) hT1
      · rw [if_neg c2] at hT1
        refine z_iload_n ok dX3_movesOf_10 2 rfl ?_
        refine z_aload_n ok dX3_movesOf_11 0 rfl ?_
        refine z_get_X3_st ok dX3_movesOf_12 hN zw_549 ?_
        refine z_iconst ok dX3_movesOf_15 (x := 0) (by decide) ?_
        refine z_iload_n ok dX3_movesOf_16 3 rfl ?_
        refine z_iadd_0 ok dX3_movesOf_17 ?_
        refine z_mld48 ok dX3_movesOf_18 hN v1_3 rfl (by omega) ?_
        refine z_iload_n ok dX3_movesOf_19 1 rfl ?_
        replace hT1 := zlet_open hT1
        obtain ⟨x3, hx3, hT1⟩ := hT1
        have hsx3 := hx3.symm
        have hJx3 : zZ k G N w 32 [(0, .ref (zad G 47)), (1, .int side), (2, .int v1_2), (3, .int (nI v1_3))] [.int x3, .int v1_2] := by
          refine z_iadd ok dX3_movesOf_32 ?_
          replace hT1 := zlet_open hT1
          obtain ⟨x4, hx4, hT1⟩ := hT1
          rw [← hx4]
          refine z_istore_n ok dX3_movesOf_33 (hI 2 (by decide)) (lv' := [(2, .int x4), (0, .ref (zad G 47)), (1, .int side), (3, .int (nI v1_3))]) rfl ?_
          refine z_iinc ok dX3_movesOf_34 (hI 3 (by decide)) 3 rfl (y := (nI (v1_3 + 1))) (z_incn v1_3 1) (lv' := [(3, .int (nI (v1_3 + 1))), (2, .int x4), (0, .ref (zad G 47)), (1, .int side)]) rfl ?_
          refine z_goto ok dX3_movesOf_37 4 (by decide) ?_
          refine z_locs [2, 3, 1, 0] (lv' := [(0, .ref (zad G 47)), (1, .int side), (2, .int x4), (3, .int (nI (v1_3 + 1)))]) rfl ?_
          exact ih1 x4 (v1_3 + 1) (by omega) (by omega) hT1
        refine z_icmp_ne ok dX3_movesOf_20 31 (by decide) (fun c5 => ?_) (fun c5 => ?_)
        · rw [if_neg c5] at hsx3
          refine z_iconst ok dX3_movesOf_31 (x := 0) (by decide) ?_
          rw [← hsx3] at hJx3
          refine z_locs [0, 1, 2, 3] (lv' := [(0, .ref (zad G 47)), (1, .int side), (2, .int v1_2), (3, .int (nI v1_3))]) rfl ?_
          exact hJx3
        · rw [if_pos c5] at hsx3
          refine z_aload_n ok dX3_movesOf_23 0 rfl ?_
          refine z_iload_n ok dX3_movesOf_24 3 rfl ?_
          refine z_callVi ok old dX3_movesOf_25 [.int v1_2] (c_X3_movesFrom G N hN hg w v1_3 (by omega)) zy_X3_movesFrom zw_630 47 (by omega) (zE_47 G w) rfl rfl rfl rfl rfl (by decide) (Nat.le_of_ble_eq_true rfl) ?_
          refine z_goto ok dX3_movesOf_28 32 (by decide) ?_
          rw [← hsx3] at hJx3
          refine z_locs [0, 1, 2, 3] (lv' := [(0, .ref (zad G 47)), (1, .int side), (2, .int v1_2), (3, .int (nI v1_3))]) rfl ?_
          exact hJx3
  exact hl1 37 0 0 (by omega) (by omega) hT

def d_X3_moveAt_5k  (e1_3 : Int32) (e1_4 : Nat) : Int32 :=
  (-1)
def d_X3_moveAt_5 (w : xW) (side : Int32) (kt1 : Int32 → Nat → Int32) : Nat → Int32 → Nat → Int32
  | 0, _, _ => default
  | n1 + 1, v1_3, v1_4 => if 1296 ≤ v1_4 then (kt1 v1_3 v1_4)
  else (if (xg w 11 (v1_4 / 36)) = side then (if (d_X3_canGo w (v1_4 / 36) (v1_4 % 36)) = 0 then (d_X3_moveAt_5 w side kt1 n1 v1_3 (v1_4 + 1))
  else (if v1_3 = 0 then ((nI v1_4))
  else (d_X3_moveAt_5 w side kt1 n1 (v1_3 + (-1)) (v1_4 + 1))))
  else (d_X3_moveAt_5 w side kt1 n1 v1_3 (v1_4 + 1)))
def d_X3_moveAt (w : xW) (side : Int32) (index : Int32) : Int32 :=
  d_X3_moveAt_5 w side d_X3_moveAt_5k 1297 index 0
set_option maxRecDepth 100000 in
set_option maxHeartbeats 4000000 in
theorem c_X3_moveAt (G : zG) (N : Nat) (hN : 54 ≤ N) (hg : zGeo G N) (w : xW) (side : Int32) (index : Int32) : zM yX3_moveAt cX3_moveAt 5 (some .int) 5 117 G N [.ref (zad G 47), .int side, .int index] w (some (d_X3_moveAt w side index)) w := by
  generalize hT : d_X3_moveAt w side index = r
  unfold d_X3_moveAt at hT
  refine zM_of zy_X3_moveAt.2.2.2.2.2.2.2 hg ⟨Nat.le_of_ble_eq_true rfl, by decide⟩ rfl (fun k ok hE hI => ?_)
  have old := hE.old
  refine z_iload_n ok dX3_moveAt_0 2 rfl ?_
  refine z_istore_n ok dX3_moveAt_1 (hI 3 (by decide)) (lv' := [(3, .int index), (0, .ref (zad G 47)), (1, .int side), (2, .int index)]) rfl ?_
  refine z_iconst ok dX3_moveAt_2 (x := 0) (by decide) ?_
  refine z_istore ok dX3_moveAt_3 (hI 4 (by decide)) (lv' := [(4, .int 0), (3, .int index), (0, .ref (zad G 47)), (1, .int side), (2, .int index)]) rfl ?_
  refine z_locs [2, 3, 4, 1, 0] (lv' := [(0, .ref (zad G 47)), (1, .int side), (2, .int index), (3, .int index), (4, .int 0)]) rfl ?_
  obtain ⟨kt1, hkt1⟩ : ∃ z, z = d_X3_moveAt_5k := ⟨_, rfl⟩
  rw [← hkt1] at hT
  have hk1 : ∀ (e1_3 : Int32) (e1_4 : Nat), e1_4 ≤ 1296 → kt1 e1_3 e1_4 = r → zZ k G N w 62 [(0, .ref (zad G 47)), (1, .int side), (2, .int index), (3, .int e1_3), (4, .int (nI e1_4))] [] := by
    intro e1_3 e1_4 q1_0 hT1
    rw [hkt1, d_X3_moveAt_5k] at hT1
    refine z_iconst ok dX3_moveAt_62 (x := (-1)) (by decide) ?_
    exact z_iret ok hE dX3_moveAt_63 rfl ⟨hT1, rfl⟩
  have hl1 : ∀ (n1 : Nat) (v1_3 : Int32) (v1_4 : Nat), 1296 < v1_4 + n1 → v1_4 ≤ 1296 → d_X3_moveAt_5 w side kt1 n1 v1_3 v1_4 = r → zZ k G N w 5 [(0, .ref (zad G 47)), (1, .int side), (2, .int index), (3, .int v1_3), (4, .int (nI v1_4))] [] := by
    intro n1
    induction n1 with
    | zero =>
      intro v1_3 v1_4 q1_0 q1_1
      exact absurd q1_0 (by omega)
    | succ n1 ih1 =>
      intro v1_3 v1_4 q1_0 q1_1 hT1
      rw [d_X3_moveAt_5] at hT1
      refine z_iload ok dX3_moveAt_5 4 rfl ?_
      refine z_sipush ok dX3_moveAt_7 (x := 1296) (by decide +kernel) ?_
      refine z_icmp_ge_n ok dX3_moveAt_10 62 (by decide) v1_4 1296 rfl rfl (by omega) (fun c2 => ?_) (fun c2 => ?_)
      · rw [if_pos c2] at hT1
        refine z_locs [0, 1, 2, 3, 4] (lv' := [(0, .ref (zad G 47)), (1, .int side), (2, .int index), (3, .int v1_3), (4, .int (nI v1_4))]) rfl ?_
        exact hk1 v1_3 v1_4 (by omega) hT1
      · rw [if_neg c2] at hT1
        refine z_aload_n ok dX3_moveAt_13 0 rfl ?_
        refine z_get_X3_st ok dX3_moveAt_14 hN zw_549 ?_
        refine z_iconst ok dX3_moveAt_17 (x := 0) (by decide) ?_
        refine z_iload ok dX3_moveAt_18 4 rfl ?_
        refine z_bipush ok dX3_moveAt_20 (x := 36) (by decide) ?_
        refine z_idiv_n ok dX3_moveAt_22 v1_4 36 rfl rfl (by omega) (by omega) (by omega) ?_
        refine z_iadd_0 ok dX3_moveAt_23 ?_
        refine z_mld48 ok dX3_moveAt_24 hN (v1_4 / 36) rfl (by omega) ?_
        refine z_iload_n ok dX3_moveAt_25 1 rfl ?_
        refine z_icmp_ne ok dX3_moveAt_26 56 (by decide) (fun c3 => ?_) (fun c3 => ?_)
        · rw [if_neg c3] at hT1
          refine z_iinc ok dX3_moveAt_56 (hI 4 (by decide)) 4 rfl (y := (nI (v1_4 + 1))) (z_incn v1_4 1) (lv' := [(4, .int (nI (v1_4 + 1))), (0, .ref (zad G 47)), (1, .int side), (2, .int index), (3, .int v1_3)]) rfl ?_
          refine z_goto ok dX3_moveAt_59 5 (by decide) ?_
          refine z_locs [1, 2, 3, 4, 0] (lv' := [(0, .ref (zad G 47)), (1, .int side), (2, .int index), (3, .int v1_3), (4, .int (nI (v1_4 + 1)))]) rfl ?_
          exact ih1 v1_3 (v1_4 + 1) (by omega) (by omega) hT1
        · rw [if_pos c3] at hT1
          refine z_aload_n ok dX3_moveAt_29 0 rfl ?_
          refine z_iload ok dX3_moveAt_30 4 rfl ?_
          refine z_bipush ok dX3_moveAt_32 (x := 36) (by decide) ?_
          refine z_idiv_n ok dX3_moveAt_34 v1_4 36 rfl rfl (by omega) (by omega) (by omega) ?_
          refine z_iload ok dX3_moveAt_35 4 rfl ?_
          refine z_bipush ok dX3_moveAt_37 (x := 36) (by decide) ?_
          refine z_irem_n ok dX3_moveAt_39 v1_4 36 rfl rfl (by omega) (by omega) (by omega) ?_
          refine z_callVi ok old dX3_moveAt_40 [] (c_X3_canGo G N hN hg w (v1_4 / 36) (by omega) (v1_4 % 36) (by omega)) zy_X3_canGo zw_634 47 (by omega) (zE_47 G w) rfl rfl rfl rfl rfl (by decide) (Nat.le_of_ble_eq_true rfl) ?_
          refine z_if_eq ok dX3_moveAt_43 56 (by decide) (fun c4 => ?_) (fun c4 => ?_)
          · rw [if_pos c4] at hT1
            refine z_iinc ok dX3_moveAt_56 (hI 4 (by decide)) 4 rfl (y := (nI (v1_4 + 1))) (z_incn v1_4 1) (lv' := [(4, .int (nI (v1_4 + 1))), (0, .ref (zad G 47)), (1, .int side), (2, .int index), (3, .int v1_3)]) rfl ?_
            refine z_goto ok dX3_moveAt_59 5 (by decide) ?_
            refine z_locs [1, 2, 3, 4, 0] (lv' := [(0, .ref (zad G 47)), (1, .int side), (2, .int index), (3, .int v1_3), (4, .int (nI (v1_4 + 1)))]) rfl ?_
            exact ih1 v1_3 (v1_4 + 1) (by omega) (by omega) hT1
          · rw [if_neg c4] at hT1
            refine z_iload_n ok dX3_moveAt_46 3 rfl ?_
            refine z_if_ne ok dX3_moveAt_47 53 (by decide) (fun c5 => ?_) (fun c5 => ?_)
            · rw [if_neg c5] at hT1
              refine z_iinc ok dX3_moveAt_53 (hI 3 (by decide)) 3 rfl (y := (v1_3 + (-1))) rfl (lv' := [(3, .int (v1_3 + (-1))), (0, .ref (zad G 47)), (1, .int side), (2, .int index), (4, .int (nI v1_4))]) rfl ?_
              refine z_iinc ok dX3_moveAt_56 (hI 4 (by decide)) 4 rfl (y := (nI (v1_4 + 1))) (z_incn v1_4 1) (lv' := [(4, .int (nI (v1_4 + 1))), (3, .int (v1_3 + (-1))), (0, .ref (zad G 47)), (1, .int side), (2, .int index)]) rfl ?_
              refine z_goto ok dX3_moveAt_59 5 (by decide) ?_
              refine z_locs [2, 3, 4, 1, 0] (lv' := [(0, .ref (zad G 47)), (1, .int side), (2, .int index), (3, .int (v1_3 + (-1))), (4, .int (nI (v1_4 + 1)))]) rfl ?_
              exact ih1 (v1_3 + (-1)) (v1_4 + 1) (by omega) (by omega) hT1
            · rw [if_pos c5] at hT1
              refine z_iload ok dX3_moveAt_50 4 rfl ?_
              exact z_iret ok hE dX3_moveAt_52 rfl ⟨hT1, rfl⟩
  exact hl1 1297 index 0 (by omega) (by omega) hT

def d_X3_cell (w : xW) (cell : Int32) (what : Int32) : Int32 :=
  if (d_X3_isCell w cell) = 0 then ((-1))
  else (if (d_X3_in w what 0 4) = 0 then ((-1))
  else (zlet cell.toNatClampNeg fun c_cell =>
  if what = 3 then ((xg w 11 (108 + c_cell)))
  else (if (xg w 11 c_cell) = (-1) then ((-4))
  else (if what = 0 then ((xg w 11 c_cell))
  else (if what = 1 then ((xg w 11 (36 + c_cell)))
  else (if what = 2 then ((xg w 11 (72 + c_cell)))
  else ((d_X3_movesFrom w c_cell))))))))
set_option maxRecDepth 100000 in
set_option maxHeartbeats 4000000 in
theorem c_X3_cell (G : zG) (N : Nat) (hN : 54 ≤ N) (hg : zGeo G N) (w : xW) (cell : Int32) (what : Int32) : zM yX3_cell cX3_cell 3 (some .int) 6 140 G N [.ref (zad G 47), .int cell, .int what] w (some (d_X3_cell w cell what)) w := by
  generalize hT : d_X3_cell w cell what = r
  unfold d_X3_cell at hT
  refine zM_of zy_X3_cell.2.2.2.2.2.2.2 hg ⟨Nat.le_of_ble_eq_true rfl, by decide⟩ rfl (fun k ok hE hI => ?_)
  have old := hE.old
  refine z_iload_n ok dX3_cell_0 1 rfl ?_
  refine z_callSi ok old dX3_cell_1 [] (c_X3_isCell G N hN hg w cell) zy_X3_isCell zw_615 rfl rfl (by decide) (Nat.le_of_ble_eq_true rfl) ?_
  refine z_if_eq ok dX3_cell_4 16 (by decide) (fun c1 => ?_) (fun c1 => ?_)
  · rw [if_pos c1] at hT
    refine z_iconst ok dX3_cell_16 (x := (-1)) (by decide) ?_
    exact z_iret ok hE dX3_cell_17 rfl ⟨hT, rfl⟩
  · rw [if_neg c1] at hT
    refine z_iload_n ok dX3_cell_7 2 rfl ?_
    refine z_iconst ok dX3_cell_8 (x := 0) (by decide) ?_
    refine z_iconst ok dX3_cell_9 (x := 4) (by decide) ?_
    refine z_callSi ok old dX3_cell_10 [] (c_X3_in G N hN hg w what 0 4) zy_X3_in zw_608 rfl rfl (by decide) (Nat.le_of_ble_eq_true rfl) ?_
    refine z_if_ne ok dX3_cell_13 18 (by decide) (fun c2 => ?_) (fun c2 => ?_)
    · rw [if_neg c2] at hT
      replace hT := zlet_open hT
      obtain ⟨c_cell, hc_cell, hT⟩ := hT
      obtain ⟨lc_cell, ec_cell⟩ := zcellx (zisCell3 (by assumption)) hc_cell
      subst ec_cell
      refine z_iload_n ok dX3_cell_18 2 rfl ?_
      refine z_iconst ok dX3_cell_19 (x := 3) (by decide) ?_
      refine z_icmp_ne ok dX3_cell_20 33 (by decide) (fun c3 => ?_) (fun c3 => ?_)
      · rw [if_neg c3] at hT
        refine z_aload_n ok dX3_cell_33 0 rfl ?_
        refine z_get_X3_st ok dX3_cell_34 hN zw_549 ?_
        refine z_iconst ok dX3_cell_37 (x := 0) (by decide) ?_
        refine z_iload_n ok dX3_cell_38 1 rfl ?_
        refine z_iadd_0 ok dX3_cell_39 ?_
        refine z_mld48 ok dX3_cell_40 hN c_cell rfl (by omega) ?_
        refine z_iconst ok dX3_cell_41 (x := (-1)) (by decide) ?_
        refine z_icmp_ne ok dX3_cell_42 48 (by decide) (fun c4 => ?_) (fun c4 => ?_)
        · rw [if_neg c4] at hT
          refine z_iload_n ok dX3_cell_48 2 rfl ?_
          refine z_if_ne ok dX3_cell_49 63 (by decide) (fun c5 => ?_) (fun c5 => ?_)
          · rw [if_neg c5] at hT
            refine z_iload_n ok dX3_cell_63 2 rfl ?_
            refine z_iconst ok dX3_cell_64 (x := 1) (by decide) ?_
            refine z_icmp_ne ok dX3_cell_65 80 (by decide) (fun c6 => ?_) (fun c6 => ?_)
            · rw [if_neg c6] at hT
              refine z_iload_n ok dX3_cell_80 2 rfl ?_
              refine z_iconst ok dX3_cell_81 (x := 2) (by decide) ?_
              refine z_icmp_ne ok dX3_cell_82 97 (by decide) (fun c7 => ?_) (fun c7 => ?_)
              · rw [if_neg c7] at hT
                refine z_aload_n ok dX3_cell_97 0 rfl ?_
                refine z_iload_n ok dX3_cell_98 1 rfl ?_
                refine z_callVi ok old dX3_cell_99 [] (c_X3_movesFrom G N hN hg w c_cell (by omega)) zy_X3_movesFrom zw_630 47 (by omega) (zE_47 G w) rfl rfl rfl rfl rfl (by decide) (Nat.le_of_ble_eq_true rfl) ?_
                exact z_iret ok hE dX3_cell_102 rfl ⟨hT, rfl⟩
              · rw [if_pos c7] at hT
                refine z_aload_n ok dX3_cell_85 0 rfl ?_
                refine z_get_X3_st ok dX3_cell_86 hN zw_549 ?_
                refine z_bipush ok dX3_cell_89 (x := 72) (by decide) ?_
                refine z_iload_n ok dX3_cell_91 1 rfl ?_
                refine z_iadd_n ok dX3_cell_92 72 c_cell rfl rfl ?_
                refine z_mld48 ok dX3_cell_93 hN (72 + c_cell) rfl (by omega) ?_
                refine z_goto ok dX3_cell_94 102 (by decide) ?_
                exact z_iret ok hE dX3_cell_102 rfl ⟨hT, rfl⟩
            · rw [if_pos c6] at hT
              refine z_aload_n ok dX3_cell_68 0 rfl ?_
              refine z_get_X3_st ok dX3_cell_69 hN zw_549 ?_
              refine z_bipush ok dX3_cell_72 (x := 36) (by decide) ?_
              refine z_iload_n ok dX3_cell_74 1 rfl ?_
              refine z_iadd_n ok dX3_cell_75 36 c_cell rfl rfl ?_
              refine z_mld48 ok dX3_cell_76 hN (36 + c_cell) rfl (by omega) ?_
              refine z_goto ok dX3_cell_77 102 (by decide) ?_
              exact z_iret ok hE dX3_cell_102 rfl ⟨hT, rfl⟩
          · rw [if_pos c5] at hT
            refine z_aload_n ok dX3_cell_52 0 rfl ?_
            refine z_get_X3_st ok dX3_cell_53 hN zw_549 ?_
            refine z_iconst ok dX3_cell_56 (x := 0) (by decide) ?_
            refine z_iload_n ok dX3_cell_57 1 rfl ?_
            refine z_iadd_0 ok dX3_cell_58 ?_
            refine z_mld48 ok dX3_cell_59 hN c_cell rfl (by omega) ?_
            refine z_goto ok dX3_cell_60 102 (by decide) ?_
            exact z_iret ok hE dX3_cell_102 rfl ⟨hT, rfl⟩
        · rw [if_pos c4] at hT
          refine z_bipush ok dX3_cell_45 (x := (-4)) (by decide) ?_
          exact z_iret ok hE dX3_cell_47 rfl ⟨hT, rfl⟩
      · rw [if_pos c3] at hT
        refine z_aload_n ok dX3_cell_23 0 rfl ?_
        refine z_get_X3_st ok dX3_cell_24 hN zw_549 ?_
        refine z_bipush ok dX3_cell_27 (x := 108) (by decide) ?_
        refine z_iload_n ok dX3_cell_29 1 rfl ?_
        refine z_iadd_n ok dX3_cell_30 108 c_cell rfl rfl ?_
        refine z_mld48 ok dX3_cell_31 hN (108 + c_cell) rfl (by omega) ?_
        exact z_iret ok hE dX3_cell_32 rfl ⟨hT, rfl⟩
    · rw [if_pos c2] at hT
      refine z_iconst ok dX3_cell_16 (x := (-1)) (by decide) ?_
      exact z_iret ok hE dX3_cell_17 rfl ⟨hT, rfl⟩

def d_X3_count (w : xW) (what : Int32) : Int32 :=
  if what = 0 then ((xg w 11 144))
  else (if what = 1 then ((xg w 11 145))
  else (if what = 2 then (if (xg w 11 146) = (-1) then ((-4))
  else ((xg w 11 146)))
  else (if what = 3 then ((xg w 11 147))
  else (if what = 4 then ((d_X3_pieces w))
  else (if what = 5 then ((d_X3_towers w))
  else (if what = 6 then ((d_X3_springs w (what - 6)))
  else (if what = 7 then ((d_X3_springs w (what - 6)))
  else (if what = 8 then ((xg w 17 0))
  else (if what = 9 then ((xg w 17 1))
  else (if what = 10 then (if (d_X3_in w what 10 12) = 0 then (if (d_X3_in w what 20 26) = 0 then ((-1))
  else (zlet what.toNatClampNeg fun c_what =>
  (xg w 11 ((152 + c_what) - 20))))
  else (zlet what.toNatClampNeg fun c_what =>
  (xg w 11 ((149 + c_what) - 10))))
  else (if what = 11 then (if (d_X3_in w what 10 12) = 0 then (if (d_X3_in w what 20 26) = 0 then ((-1))
  else (zlet what.toNatClampNeg fun c_what =>
  (xg w 11 ((152 + c_what) - 20))))
  else (zlet what.toNatClampNeg fun c_what =>
  (xg w 11 ((149 + c_what) - 10))))
  else (if what = 12 then (if (d_X3_in w what 10 12) = 0 then (if (d_X3_in w what 20 26) = 0 then ((-1))
  else (zlet what.toNatClampNeg fun c_what =>
  (xg w 11 ((152 + c_what) - 20))))
  else (zlet what.toNatClampNeg fun c_what =>
  (xg w 11 ((149 + c_what) - 10))))
  else (if what = 13 then (if (d_X3_in w what 10 12) = 0 then (if (d_X3_in w what 20 26) = 0 then ((-1))
  else (zlet what.toNatClampNeg fun c_what =>
  (xg w 11 ((152 + c_what) - 20))))
  else (zlet what.toNatClampNeg fun c_what =>
  (xg w 11 ((149 + c_what) - 10))))
  else (if what = 14 then (if (d_X3_in w what 10 12) = 0 then (if (d_X3_in w what 20 26) = 0 then ((-1))
  else (zlet what.toNatClampNeg fun c_what =>
  (xg w 11 ((152 + c_what) - 20))))
  else (zlet what.toNatClampNeg fun c_what =>
  (xg w 11 ((149 + c_what) - 10))))
  else (if what = 15 then (if (d_X3_in w what 10 12) = 0 then (if (d_X3_in w what 20 26) = 0 then ((-1))
  else (zlet what.toNatClampNeg fun c_what =>
  (xg w 11 ((152 + c_what) - 20))))
  else (zlet what.toNatClampNeg fun c_what =>
  (xg w 11 ((149 + c_what) - 10))))
  else (if what = 16 then (if (d_X3_in w what 10 12) = 0 then (if (d_X3_in w what 20 26) = 0 then ((-1))
  else (zlet what.toNatClampNeg fun c_what =>
  (xg w 11 ((152 + c_what) - 20))))
  else (zlet what.toNatClampNeg fun c_what =>
  (xg w 11 ((149 + c_what) - 10))))
  else (if what = 17 then (if (d_X3_in w what 10 12) = 0 then (if (d_X3_in w what 20 26) = 0 then ((-1))
  else (zlet what.toNatClampNeg fun c_what =>
  (xg w 11 ((152 + c_what) - 20))))
  else (zlet what.toNatClampNeg fun c_what =>
  (xg w 11 ((149 + c_what) - 10))))
  else (if what = 18 then (if (d_X3_in w what 10 12) = 0 then (if (d_X3_in w what 20 26) = 0 then ((-1))
  else (zlet what.toNatClampNeg fun c_what =>
  (xg w 11 ((152 + c_what) - 20))))
  else (zlet what.toNatClampNeg fun c_what =>
  (xg w 11 ((149 + c_what) - 10))))
  else (if what = 19 then (if (d_X3_in w what 10 12) = 0 then (if (d_X3_in w what 20 26) = 0 then ((-1))
  else (zlet what.toNatClampNeg fun c_what =>
  (xg w 11 ((152 + c_what) - 20))))
  else (zlet what.toNatClampNeg fun c_what =>
  (xg w 11 ((149 + c_what) - 10))))
  else (if what = 20 then (if (d_X3_in w what 10 12) = 0 then (if (d_X3_in w what 20 26) = 0 then ((-1))
  else (zlet what.toNatClampNeg fun c_what =>
  (xg w 11 ((152 + c_what) - 20))))
  else (zlet what.toNatClampNeg fun c_what =>
  (xg w 11 ((149 + c_what) - 10))))
  else (if what = 21 then (if (d_X3_in w what 10 12) = 0 then (if (d_X3_in w what 20 26) = 0 then ((-1))
  else (zlet what.toNatClampNeg fun c_what =>
  (xg w 11 ((152 + c_what) - 20))))
  else (zlet what.toNatClampNeg fun c_what =>
  (xg w 11 ((149 + c_what) - 10))))
  else (if what = 22 then (if (d_X3_in w what 10 12) = 0 then (if (d_X3_in w what 20 26) = 0 then ((-1))
  else (zlet what.toNatClampNeg fun c_what =>
  (xg w 11 ((152 + c_what) - 20))))
  else (zlet what.toNatClampNeg fun c_what =>
  (xg w 11 ((149 + c_what) - 10))))
  else (if what = 23 then (if (d_X3_in w what 10 12) = 0 then (if (d_X3_in w what 20 26) = 0 then ((-1))
  else (zlet what.toNatClampNeg fun c_what =>
  (xg w 11 ((152 + c_what) - 20))))
  else (zlet what.toNatClampNeg fun c_what =>
  (xg w 11 ((149 + c_what) - 10))))
  else (if what = 24 then (if (d_X3_in w what 10 12) = 0 then (if (d_X3_in w what 20 26) = 0 then ((-1))
  else (zlet what.toNatClampNeg fun c_what =>
  (xg w 11 ((152 + c_what) - 20))))
  else (zlet what.toNatClampNeg fun c_what =>
  (xg w 11 ((149 + c_what) - 10))))
  else (if what = 25 then ((d_X3_allSprings w))
  else (if (d_X3_in w what 10 12) = 0 then (if (d_X3_in w what 20 26) = 0 then ((-1))
  else (zlet what.toNatClampNeg fun c_what =>
  (xg w 11 ((152 + c_what) - 20))))
  else (zlet what.toNatClampNeg fun c_what =>
  (xg w 11 ((149 + c_what) - 10)))))))))))))))))))))))))))))
set_option maxRecDepth 100000 in
set_option maxHeartbeats 4000000 in
theorem c_X3_count (G : zG) (N : Nat) (hN : 54 ≤ N) (hg : zGeo G N) (w : xW) (what : Int32) : zM yX3_count cX3_count 2 (some .int) 2 43 G N [.ref (zad G 47), .int what] w (some (d_X3_count w what)) w := by
  generalize hT : d_X3_count w what = r
  unfold d_X3_count at hT
  refine zM_of zy_X3_count.2.2.2.2.2.2.2 hg ⟨Nat.le_of_ble_eq_true rfl, by decide⟩ rfl (fun k ok hE hI => ?_)
  have old := hE.old
  refine z_iload_n ok dX3_count_0 1 rfl ?_
  by_cases c1 : what = 0
  · rw [if_pos c1] at hT
    refine z_tableIn ok dX3_count_1 120 119 (by rw [c1]; decide) ?_
    refine z_aload_n ok dX3_count_120 0 rfl ?_
    refine z_get_X3_st ok dX3_count_121 hN zw_549 ?_
    refine z_sipush ok dX3_count_124 (x := 144) (by decide) ?_
    refine z_mld48 ok dX3_count_127 hN 144 rfl (by omega) ?_
    exact z_iret ok hE dX3_count_128 rfl ⟨hT, rfl⟩
  · rw [if_neg c1] at hT
    by_cases c2 : what = 1
    · rw [if_pos c2] at hT
      refine z_tableIn ok dX3_count_1 129 128 (by rw [c2]; decide) ?_
      refine z_aload_n ok dX3_count_129 0 rfl ?_
      refine z_get_X3_st ok dX3_count_130 hN zw_549 ?_
      refine z_sipush ok dX3_count_133 (x := 145) (by decide) ?_
      refine z_mld48 ok dX3_count_136 hN 145 rfl (by omega) ?_
      exact z_iret ok hE dX3_count_137 rfl ⟨hT, rfl⟩
    · rw [if_neg c2] at hT
      by_cases c3 : what = 2
      · rw [if_pos c3] at hT
        refine z_tableIn ok dX3_count_1 138 137 (by rw [c3]; decide) ?_
        refine z_aload_n ok dX3_count_138 0 rfl ?_
        refine z_get_X3_st ok dX3_count_139 hN zw_549 ?_
        refine z_sipush ok dX3_count_142 (x := 146) (by decide) ?_
        refine z_mld48 ok dX3_count_145 hN 146 rfl (by omega) ?_
        refine z_iconst ok dX3_count_146 (x := (-1)) (by decide) ?_
        refine z_icmp_ne ok dX3_count_147 155 (by decide) (fun c4 => ?_) (fun c4 => ?_)
        · rw [if_neg c4] at hT
          refine z_aload_n ok dX3_count_155 0 rfl ?_
          refine z_get_X3_st ok dX3_count_156 hN zw_549 ?_
          refine z_sipush ok dX3_count_159 (x := 146) (by decide) ?_
          refine z_mld48 ok dX3_count_162 hN 146 rfl (by omega) ?_
          exact z_iret ok hE dX3_count_163 rfl ⟨hT, rfl⟩
        · rw [if_pos c4] at hT
          refine z_bipush ok dX3_count_150 (x := (-4)) (by decide) ?_
          refine z_goto ok dX3_count_152 163 (by decide) ?_
          exact z_iret ok hE dX3_count_163 rfl ⟨hT, rfl⟩
      · rw [if_neg c3] at hT
        by_cases c5 : what = 3
        · rw [if_pos c5] at hT
          refine z_tableIn ok dX3_count_1 164 163 (by rw [c5]; decide) ?_
          refine z_aload_n ok dX3_count_164 0 rfl ?_
          refine z_get_X3_st ok dX3_count_165 hN zw_549 ?_
          refine z_sipush ok dX3_count_168 (x := 147) (by decide) ?_
          refine z_mld48 ok dX3_count_171 hN 147 rfl (by omega) ?_
          exact z_iret ok hE dX3_count_172 rfl ⟨hT, rfl⟩
        · rw [if_neg c5] at hT
          by_cases c6 : what = 4
          · rw [if_pos c6] at hT
            refine z_tableIn ok dX3_count_1 173 172 (by rw [c6]; decide) ?_
            refine z_aload_n ok dX3_count_173 0 rfl ?_
            refine z_callVi ok old dX3_count_174 [] (c_X3_pieces G N hN hg w ) zy_X3_pieces zw_660 47 (by omega) (zE_47 G w) rfl rfl rfl rfl rfl (by decide) (Nat.le_of_ble_eq_true rfl) ?_
            exact z_iret ok hE dX3_count_177 rfl ⟨hT, rfl⟩
          · rw [if_neg c6] at hT
            by_cases c7 : what = 5
            · rw [if_pos c7] at hT
              refine z_tableIn ok dX3_count_1 178 177 (by rw [c7]; decide) ?_
              refine z_aload_n ok dX3_count_178 0 rfl ?_
              refine z_callVi ok old dX3_count_179 [] (c_X3_towers G N hN hg w ) zy_X3_towers zw_622 47 (by omega) (zE_47 G w) rfl rfl rfl rfl rfl (by decide) (Nat.le_of_ble_eq_true rfl) ?_
              exact z_iret ok hE dX3_count_182 rfl ⟨hT, rfl⟩
            · rw [if_neg c7] at hT
              by_cases c8 : what = 6
              · rw [if_pos c8] at hT
                refine z_tableIn ok dX3_count_1 183 182 (by rw [c8]; decide) ?_
                refine z_aload_n ok dX3_count_183 0 rfl ?_
                refine z_iload_n ok dX3_count_184 1 rfl ?_
                refine z_bipush ok dX3_count_185 (x := 6) (by decide) ?_
                refine z_isub ok dX3_count_187 ?_
                refine z_callVi ok old dX3_count_188 [] (c_X3_springs G N hN hg w (what - 6)) zy_X3_springs zw_545 47 (by omega) (zE_47 G w) rfl rfl rfl rfl rfl (by decide) (Nat.le_of_ble_eq_true rfl) ?_
                exact z_iret ok hE dX3_count_191 rfl ⟨hT, rfl⟩
              · rw [if_neg c8] at hT
                by_cases c9 : what = 7
                · rw [if_pos c9] at hT
                  refine z_tableIn ok dX3_count_1 183 182 (by rw [c9]; decide) ?_
                  refine z_aload_n ok dX3_count_183 0 rfl ?_
                  refine z_iload_n ok dX3_count_184 1 rfl ?_
                  refine z_bipush ok dX3_count_185 (x := 6) (by decide) ?_
                  refine z_isub ok dX3_count_187 ?_
                  refine z_callVi ok old dX3_count_188 [] (c_X3_springs G N hN hg w (what - 6)) zy_X3_springs zw_545 47 (by omega) (zE_47 G w) rfl rfl rfl rfl rfl (by decide) (Nat.le_of_ble_eq_true rfl) ?_
                  exact z_iret ok hE dX3_count_191 rfl ⟨hT, rfl⟩
                · rw [if_neg c9] at hT
                  by_cases c10 : what = 8
                  · rw [if_pos c10] at hT
                    refine z_tableIn ok dX3_count_1 192 191 (by rw [c10]; decide) ?_
                    refine z_aload_n ok dX3_count_192 0 rfl ?_
                    refine z_get_X3_pasts ok dX3_count_193 hN zw_552 ?_
                    exact z_iret ok hE dX3_count_196 rfl ⟨hT, rfl⟩
                  · rw [if_neg c10] at hT
                    by_cases c11 : what = 9
                    · rw [if_pos c11] at hT
                      refine z_tableIn ok dX3_count_1 197 196 (by rw [c11]; decide) ?_
                      refine z_aload_n ok dX3_count_197 0 rfl ?_
                      refine z_get_X3_length ok dX3_count_198 hN zw_554 ?_
                      exact z_iret ok hE dX3_count_201 rfl ⟨hT, rfl⟩
                    · rw [if_neg c11] at hT
                      by_cases c12 : what = 10
                      · rw [if_pos c12] at hT
                        refine z_tableIn ok dX3_count_1 207 206 (by rw [c12]; decide) ?_
                        refine z_iload_n ok dX3_count_207 1 rfl ?_
                        refine z_bipush ok dX3_count_208 (x := 10) (by decide) ?_
                        refine z_bipush ok dX3_count_210 (x := 12) (by decide) ?_
                        refine z_callSi ok old dX3_count_212 [] (c_X3_in G N hN hg w what 10 12) zy_X3_in zw_608 rfl rfl (by decide) (Nat.le_of_ble_eq_true rfl) ?_
                        refine z_if_eq ok dX3_count_215 234 (by decide) (fun c13 => ?_) (fun c13 => ?_)
                        · rw [if_pos c13] at hT
                          refine z_iload_n ok dX3_count_234 1 rfl ?_
                          refine z_bipush ok dX3_count_235 (x := 20) (by decide) ?_
                          refine z_bipush ok dX3_count_237 (x := 26) (by decide) ?_
                          refine z_callSi ok old dX3_count_239 [] (c_X3_in G N hN hg w what 20 26) zy_X3_in zw_608 rfl rfl (by decide) (Nat.le_of_ble_eq_true rfl) ?_
                          refine z_if_eq ok dX3_count_242 261 (by decide) (fun c14 => ?_) (fun c14 => ?_)
                          · rw [if_pos c14] at hT
                            refine z_iconst ok dX3_count_261 (x := (-1)) (by decide) ?_
                            exact z_iret ok hE dX3_count_262 rfl ⟨hT, rfl⟩
                          · rw [if_neg c14] at hT
                            replace hT := zlet_open hT
                            obtain ⟨c_what, hc_what, hT⟩ := hT
                            obtain ⟨lc_what, ec_what⟩ := zcellx (zin26 (by assumption)) hc_what
                            subst ec_what
                            refine z_aload_n ok dX3_count_245 0 rfl ?_
                            refine z_get_X3_st ok dX3_count_246 hN zw_549 ?_
                            refine z_sipush ok dX3_count_249 (x := 152) (by decide) ?_
                            refine z_iload_n ok dX3_count_252 1 rfl ?_
                            refine z_iadd_n ok dX3_count_253 152 c_what rfl rfl ?_
                            refine z_bipush ok dX3_count_254 (x := 20) (by decide) ?_
                            refine z_isub_n ok dX3_count_256 (152 + c_what) 20 rfl rfl (by omega) ?_
                            refine z_mld48 ok dX3_count_257 hN ((152 + c_what) - 20) rfl (by omega) ?_
                            refine z_goto ok dX3_count_258 262 (by decide) ?_
                            exact z_iret ok hE dX3_count_262 rfl ⟨hT, rfl⟩
                        · rw [if_neg c13] at hT
                          replace hT := zlet_open hT
                          obtain ⟨c_what, hc_what, hT⟩ := hT
                          obtain ⟨lc_what, ec_what⟩ := zcellx (zin12 (by assumption)) hc_what
                          subst ec_what
                          refine z_aload_n ok dX3_count_218 0 rfl ?_
                          refine z_get_X3_st ok dX3_count_219 hN zw_549 ?_
                          refine z_sipush ok dX3_count_222 (x := 149) (by decide) ?_
                          refine z_iload_n ok dX3_count_225 1 rfl ?_
                          refine z_iadd_n ok dX3_count_226 149 c_what rfl rfl ?_
                          refine z_bipush ok dX3_count_227 (x := 10) (by decide) ?_
                          refine z_isub_n ok dX3_count_229 (149 + c_what) 10 rfl rfl (by omega) ?_
                          refine z_mld48 ok dX3_count_230 hN ((149 + c_what) - 10) rfl (by omega) ?_
                          refine z_goto ok dX3_count_231 262 (by decide) ?_
                          exact z_iret ok hE dX3_count_262 rfl ⟨hT, rfl⟩
                      · rw [if_neg c12] at hT
                        by_cases c15 : what = 11
                        · rw [if_pos c15] at hT
                          refine z_tableIn ok dX3_count_1 207 206 (by rw [c15]; decide) ?_
                          refine z_iload_n ok dX3_count_207 1 rfl ?_
                          refine z_bipush ok dX3_count_208 (x := 10) (by decide) ?_
                          refine z_bipush ok dX3_count_210 (x := 12) (by decide) ?_
                          refine z_callSi ok old dX3_count_212 [] (c_X3_in G N hN hg w what 10 12) zy_X3_in zw_608 rfl rfl (by decide) (Nat.le_of_ble_eq_true rfl) ?_
                          refine z_if_eq ok dX3_count_215 234 (by decide) (fun c16 => ?_) (fun c16 => ?_)
                          · rw [if_pos c16] at hT
                            refine z_iload_n ok dX3_count_234 1 rfl ?_
                            refine z_bipush ok dX3_count_235 (x := 20) (by decide) ?_
                            refine z_bipush ok dX3_count_237 (x := 26) (by decide) ?_
                            refine z_callSi ok old dX3_count_239 [] (c_X3_in G N hN hg w what 20 26) zy_X3_in zw_608 rfl rfl (by decide) (Nat.le_of_ble_eq_true rfl) ?_
                            refine z_if_eq ok dX3_count_242 261 (by decide) (fun c17 => ?_) (fun c17 => ?_)
                            · rw [if_pos c17] at hT
                              refine z_iconst ok dX3_count_261 (x := (-1)) (by decide) ?_
                              exact z_iret ok hE dX3_count_262 rfl ⟨hT, rfl⟩
                            · rw [if_neg c17] at hT
                              replace hT := zlet_open hT
                              obtain ⟨c_what, hc_what, hT⟩ := hT
                              obtain ⟨lc_what, ec_what⟩ := zcellx (zin26 (by assumption)) hc_what
                              subst ec_what
                              refine z_aload_n ok dX3_count_245 0 rfl ?_
                              refine z_get_X3_st ok dX3_count_246 hN zw_549 ?_
                              refine z_sipush ok dX3_count_249 (x := 152) (by decide) ?_
                              refine z_iload_n ok dX3_count_252 1 rfl ?_
                              refine z_iadd_n ok dX3_count_253 152 c_what rfl rfl ?_
                              refine z_bipush ok dX3_count_254 (x := 20) (by decide) ?_
                              refine z_isub_n ok dX3_count_256 (152 + c_what) 20 rfl rfl (by omega) ?_
                              refine z_mld48 ok dX3_count_257 hN ((152 + c_what) - 20) rfl (by omega) ?_
                              refine z_goto ok dX3_count_258 262 (by decide) ?_
                              exact z_iret ok hE dX3_count_262 rfl ⟨hT, rfl⟩
                          · rw [if_neg c16] at hT
                            replace hT := zlet_open hT
                            obtain ⟨c_what, hc_what, hT⟩ := hT
                            obtain ⟨lc_what, ec_what⟩ := zcellx (zin12 (by assumption)) hc_what
                            subst ec_what
                            refine z_aload_n ok dX3_count_218 0 rfl ?_
                            refine z_get_X3_st ok dX3_count_219 hN zw_549 ?_
                            refine z_sipush ok dX3_count_222 (x := 149) (by decide) ?_
                            refine z_iload_n ok dX3_count_225 1 rfl ?_
                            refine z_iadd_n ok dX3_count_226 149 c_what rfl rfl ?_
                            refine z_bipush ok dX3_count_227 (x := 10) (by decide) ?_
                            refine z_isub_n ok dX3_count_229 (149 + c_what) 10 rfl rfl (by omega) ?_
                            refine z_mld48 ok dX3_count_230 hN ((149 + c_what) - 10) rfl (by omega) ?_
                            refine z_goto ok dX3_count_231 262 (by decide) ?_
                            exact z_iret ok hE dX3_count_262 rfl ⟨hT, rfl⟩
                        · rw [if_neg c15] at hT
                          by_cases c18 : what = 12
                          · rw [if_pos c18] at hT
                            refine z_tableIn ok dX3_count_1 207 206 (by rw [c18]; decide) ?_
                            refine z_iload_n ok dX3_count_207 1 rfl ?_
                            refine z_bipush ok dX3_count_208 (x := 10) (by decide) ?_
                            refine z_bipush ok dX3_count_210 (x := 12) (by decide) ?_
                            refine z_callSi ok old dX3_count_212 [] (c_X3_in G N hN hg w what 10 12) zy_X3_in zw_608 rfl rfl (by decide) (Nat.le_of_ble_eq_true rfl) ?_
                            refine z_if_eq ok dX3_count_215 234 (by decide) (fun c19 => ?_) (fun c19 => ?_)
                            · rw [if_pos c19] at hT
                              refine z_iload_n ok dX3_count_234 1 rfl ?_
                              refine z_bipush ok dX3_count_235 (x := 20) (by decide) ?_
                              refine z_bipush ok dX3_count_237 (x := 26) (by decide) ?_
                              refine z_callSi ok old dX3_count_239 [] (c_X3_in G N hN hg w what 20 26) zy_X3_in zw_608 rfl rfl (by decide) (Nat.le_of_ble_eq_true rfl) ?_
                              refine z_if_eq ok dX3_count_242 261 (by decide) (fun c20 => ?_) (fun c20 => ?_)
                              · rw [if_pos c20] at hT
                                refine z_iconst ok dX3_count_261 (x := (-1)) (by decide) ?_
                                exact z_iret ok hE dX3_count_262 rfl ⟨hT, rfl⟩
                              · rw [if_neg c20] at hT
                                replace hT := zlet_open hT
                                obtain ⟨c_what, hc_what, hT⟩ := hT
                                obtain ⟨lc_what, ec_what⟩ := zcellx (zin26 (by assumption)) hc_what
                                subst ec_what
                                refine z_aload_n ok dX3_count_245 0 rfl ?_
                                refine z_get_X3_st ok dX3_count_246 hN zw_549 ?_
                                refine z_sipush ok dX3_count_249 (x := 152) (by decide) ?_
                                refine z_iload_n ok dX3_count_252 1 rfl ?_
                                refine z_iadd_n ok dX3_count_253 152 c_what rfl rfl ?_
                                refine z_bipush ok dX3_count_254 (x := 20) (by decide) ?_
                                refine z_isub_n ok dX3_count_256 (152 + c_what) 20 rfl rfl (by omega) ?_
                                refine z_mld48 ok dX3_count_257 hN ((152 + c_what) - 20) rfl (by omega) ?_
                                refine z_goto ok dX3_count_258 262 (by decide) ?_
                                exact z_iret ok hE dX3_count_262 rfl ⟨hT, rfl⟩
                            · rw [if_neg c19] at hT
                              replace hT := zlet_open hT
                              obtain ⟨c_what, hc_what, hT⟩ := hT
                              obtain ⟨lc_what, ec_what⟩ := zcellx (zin12 (by assumption)) hc_what
                              subst ec_what
                              refine z_aload_n ok dX3_count_218 0 rfl ?_
                              refine z_get_X3_st ok dX3_count_219 hN zw_549 ?_
                              refine z_sipush ok dX3_count_222 (x := 149) (by decide) ?_
                              refine z_iload_n ok dX3_count_225 1 rfl ?_
                              refine z_iadd_n ok dX3_count_226 149 c_what rfl rfl ?_
                              refine z_bipush ok dX3_count_227 (x := 10) (by decide) ?_
                              refine z_isub_n ok dX3_count_229 (149 + c_what) 10 rfl rfl (by omega) ?_
                              refine z_mld48 ok dX3_count_230 hN ((149 + c_what) - 10) rfl (by omega) ?_
                              refine z_goto ok dX3_count_231 262 (by decide) ?_
                              exact z_iret ok hE dX3_count_262 rfl ⟨hT, rfl⟩
                          · rw [if_neg c18] at hT
                            by_cases c21 : what = 13
                            · rw [if_pos c21] at hT
                              refine z_tableIn ok dX3_count_1 207 206 (by rw [c21]; decide) ?_
                              refine z_iload_n ok dX3_count_207 1 rfl ?_
                              refine z_bipush ok dX3_count_208 (x := 10) (by decide) ?_
                              refine z_bipush ok dX3_count_210 (x := 12) (by decide) ?_
                              refine z_callSi ok old dX3_count_212 [] (c_X3_in G N hN hg w what 10 12) zy_X3_in zw_608 rfl rfl (by decide) (Nat.le_of_ble_eq_true rfl) ?_
                              refine z_if_eq ok dX3_count_215 234 (by decide) (fun c22 => ?_) (fun c22 => ?_)
                              · rw [if_pos c22] at hT
                                refine z_iload_n ok dX3_count_234 1 rfl ?_
                                refine z_bipush ok dX3_count_235 (x := 20) (by decide) ?_
                                refine z_bipush ok dX3_count_237 (x := 26) (by decide) ?_
                                refine z_callSi ok old dX3_count_239 [] (c_X3_in G N hN hg w what 20 26) zy_X3_in zw_608 rfl rfl (by decide) (Nat.le_of_ble_eq_true rfl) ?_
                                refine z_if_eq ok dX3_count_242 261 (by decide) (fun c23 => ?_) (fun c23 => ?_)
                                · rw [if_pos c23] at hT
                                  refine z_iconst ok dX3_count_261 (x := (-1)) (by decide) ?_
                                  exact z_iret ok hE dX3_count_262 rfl ⟨hT, rfl⟩
                                · rw [if_neg c23] at hT
                                  replace hT := zlet_open hT
                                  obtain ⟨c_what, hc_what, hT⟩ := hT
                                  obtain ⟨lc_what, ec_what⟩ := zcellx (zin26 (by assumption)) hc_what
                                  subst ec_what
                                  refine z_aload_n ok dX3_count_245 0 rfl ?_
                                  refine z_get_X3_st ok dX3_count_246 hN zw_549 ?_
                                  refine z_sipush ok dX3_count_249 (x := 152) (by decide) ?_
                                  refine z_iload_n ok dX3_count_252 1 rfl ?_
                                  refine z_iadd_n ok dX3_count_253 152 c_what rfl rfl ?_
                                  refine z_bipush ok dX3_count_254 (x := 20) (by decide) ?_
                                  refine z_isub_n ok dX3_count_256 (152 + c_what) 20 rfl rfl (by omega) ?_
                                  refine z_mld48 ok dX3_count_257 hN ((152 + c_what) - 20) rfl (by omega) ?_
                                  refine z_goto ok dX3_count_258 262 (by decide) ?_
                                  exact z_iret ok hE dX3_count_262 rfl ⟨hT, rfl⟩
                              · rw [if_neg c22] at hT
                                replace hT := zlet_open hT
                                obtain ⟨c_what, hc_what, hT⟩ := hT
                                obtain ⟨lc_what, ec_what⟩ := zcellx (zin12 (by assumption)) hc_what
                                subst ec_what
                                refine z_aload_n ok dX3_count_218 0 rfl ?_
                                refine z_get_X3_st ok dX3_count_219 hN zw_549 ?_
                                refine z_sipush ok dX3_count_222 (x := 149) (by decide) ?_
                                refine z_iload_n ok dX3_count_225 1 rfl ?_
                                refine z_iadd_n ok dX3_count_226 149 c_what rfl rfl ?_
                                refine z_bipush ok dX3_count_227 (x := 10) (by decide) ?_
                                refine z_isub_n ok dX3_count_229 (149 + c_what) 10 rfl rfl (by omega) ?_
                                refine z_mld48 ok dX3_count_230 hN ((149 + c_what) - 10) rfl (by omega) ?_
                                refine z_goto ok dX3_count_231 262 (by decide) ?_
                                exact z_iret ok hE dX3_count_262 rfl ⟨hT, rfl⟩
                            · rw [if_neg c21] at hT
                              by_cases c24 : what = 14
                              · rw [if_pos c24] at hT
                                refine z_tableIn ok dX3_count_1 207 206 (by rw [c24]; decide) ?_
                                refine z_iload_n ok dX3_count_207 1 rfl ?_
                                refine z_bipush ok dX3_count_208 (x := 10) (by decide) ?_
                                refine z_bipush ok dX3_count_210 (x := 12) (by decide) ?_
                                refine z_callSi ok old dX3_count_212 [] (c_X3_in G N hN hg w what 10 12) zy_X3_in zw_608 rfl rfl (by decide) (Nat.le_of_ble_eq_true rfl) ?_
                                refine z_if_eq ok dX3_count_215 234 (by decide) (fun c25 => ?_) (fun c25 => ?_)
                                · rw [if_pos c25] at hT
                                  refine z_iload_n ok dX3_count_234 1 rfl ?_
                                  refine z_bipush ok dX3_count_235 (x := 20) (by decide) ?_
                                  refine z_bipush ok dX3_count_237 (x := 26) (by decide) ?_
                                  refine z_callSi ok old dX3_count_239 [] (c_X3_in G N hN hg w what 20 26) zy_X3_in zw_608 rfl rfl (by decide) (Nat.le_of_ble_eq_true rfl) ?_
                                  refine z_if_eq ok dX3_count_242 261 (by decide) (fun c26 => ?_) (fun c26 => ?_)
                                  · rw [if_pos c26] at hT
                                    refine z_iconst ok dX3_count_261 (x := (-1)) (by decide) ?_
                                    exact z_iret ok hE dX3_count_262 rfl ⟨hT, rfl⟩
                                  · rw [if_neg c26] at hT
                                    replace hT := zlet_open hT
                                    obtain ⟨c_what, hc_what, hT⟩ := hT
                                    obtain ⟨lc_what, ec_what⟩ := zcellx (zin26 (by assumption)) hc_what
                                    subst ec_what
                                    refine z_aload_n ok dX3_count_245 0 rfl ?_
                                    refine z_get_X3_st ok dX3_count_246 hN zw_549 ?_
                                    refine z_sipush ok dX3_count_249 (x := 152) (by decide) ?_
                                    refine z_iload_n ok dX3_count_252 1 rfl ?_
                                    refine z_iadd_n ok dX3_count_253 152 c_what rfl rfl ?_
                                    refine z_bipush ok dX3_count_254 (x := 20) (by decide) ?_
                                    refine z_isub_n ok dX3_count_256 (152 + c_what) 20 rfl rfl (by omega) ?_
                                    refine z_mld48 ok dX3_count_257 hN ((152 + c_what) - 20) rfl (by omega) ?_
                                    refine z_goto ok dX3_count_258 262 (by decide) ?_
                                    exact z_iret ok hE dX3_count_262 rfl ⟨hT, rfl⟩
                                · rw [if_neg c25] at hT
                                  replace hT := zlet_open hT
                                  obtain ⟨c_what, hc_what, hT⟩ := hT
                                  obtain ⟨lc_what, ec_what⟩ := zcellx (zin12 (by assumption)) hc_what
                                  subst ec_what
                                  refine z_aload_n ok dX3_count_218 0 rfl ?_
                                  refine z_get_X3_st ok dX3_count_219 hN zw_549 ?_
                                  refine z_sipush ok dX3_count_222 (x := 149) (by decide) ?_
                                  refine z_iload_n ok dX3_count_225 1 rfl ?_
                                  refine z_iadd_n ok dX3_count_226 149 c_what rfl rfl ?_
                                  refine z_bipush ok dX3_count_227 (x := 10) (by decide) ?_
                                  refine z_isub_n ok dX3_count_229 (149 + c_what) 10 rfl rfl (by omega) ?_
                                  refine z_mld48 ok dX3_count_230 hN ((149 + c_what) - 10) rfl (by omega) ?_
                                  refine z_goto ok dX3_count_231 262 (by decide) ?_
                                  exact z_iret ok hE dX3_count_262 rfl ⟨hT, rfl⟩
                              · rw [if_neg c24] at hT
                                by_cases c27 : what = 15
                                · rw [if_pos c27] at hT
                                  refine z_tableIn ok dX3_count_1 207 206 (by rw [c27]; decide) ?_
                                  refine z_iload_n ok dX3_count_207 1 rfl ?_
                                  refine z_bipush ok dX3_count_208 (x := 10) (by decide) ?_
                                  refine z_bipush ok dX3_count_210 (x := 12) (by decide) ?_
                                  refine z_callSi ok old dX3_count_212 [] (c_X3_in G N hN hg w what 10 12) zy_X3_in zw_608 rfl rfl (by decide) (Nat.le_of_ble_eq_true rfl) ?_
                                  refine z_if_eq ok dX3_count_215 234 (by decide) (fun c28 => ?_) (fun c28 => ?_)
                                  · rw [if_pos c28] at hT
                                    refine z_iload_n ok dX3_count_234 1 rfl ?_
                                    refine z_bipush ok dX3_count_235 (x := 20) (by decide) ?_
                                    refine z_bipush ok dX3_count_237 (x := 26) (by decide) ?_
                                    refine z_callSi ok old dX3_count_239 [] (c_X3_in G N hN hg w what 20 26) zy_X3_in zw_608 rfl rfl (by decide) (Nat.le_of_ble_eq_true rfl) ?_
                                    refine z_if_eq ok dX3_count_242 261 (by decide) (fun c29 => ?_) (fun c29 => ?_)
                                    · rw [if_pos c29] at hT
                                      refine z_iconst ok dX3_count_261 (x := (-1)) (by decide) ?_
                                      exact z_iret ok hE dX3_count_262 rfl ⟨hT, rfl⟩
                                    · rw [if_neg c29] at hT
                                      replace hT := zlet_open hT
                                      obtain ⟨c_what, hc_what, hT⟩ := hT
                                      obtain ⟨lc_what, ec_what⟩ := zcellx (zin26 (by assumption)) hc_what
                                      subst ec_what
                                      refine z_aload_n ok dX3_count_245 0 rfl ?_
                                      refine z_get_X3_st ok dX3_count_246 hN zw_549 ?_
                                      refine z_sipush ok dX3_count_249 (x := 152) (by decide) ?_
                                      refine z_iload_n ok dX3_count_252 1 rfl ?_
                                      refine z_iadd_n ok dX3_count_253 152 c_what rfl rfl ?_
                                      refine z_bipush ok dX3_count_254 (x := 20) (by decide) ?_
                                      refine z_isub_n ok dX3_count_256 (152 + c_what) 20 rfl rfl (by omega) ?_
                                      refine z_mld48 ok dX3_count_257 hN ((152 + c_what) - 20) rfl (by omega) ?_
                                      refine z_goto ok dX3_count_258 262 (by decide) ?_
                                      exact z_iret ok hE dX3_count_262 rfl ⟨hT, rfl⟩
                                  · rw [if_neg c28] at hT
                                    replace hT := zlet_open hT
                                    obtain ⟨c_what, hc_what, hT⟩ := hT
                                    obtain ⟨lc_what, ec_what⟩ := zcellx (zin12 (by assumption)) hc_what
                                    subst ec_what
                                    refine z_aload_n ok dX3_count_218 0 rfl ?_
                                    refine z_get_X3_st ok dX3_count_219 hN zw_549 ?_
                                    refine z_sipush ok dX3_count_222 (x := 149) (by decide) ?_
                                    refine z_iload_n ok dX3_count_225 1 rfl ?_
                                    refine z_iadd_n ok dX3_count_226 149 c_what rfl rfl ?_
                                    refine z_bipush ok dX3_count_227 (x := 10) (by decide) ?_
                                    refine z_isub_n ok dX3_count_229 (149 + c_what) 10 rfl rfl (by omega) ?_
                                    refine z_mld48 ok dX3_count_230 hN ((149 + c_what) - 10) rfl (by omega) ?_
                                    refine z_goto ok dX3_count_231 262 (by decide) ?_
                                    exact z_iret ok hE dX3_count_262 rfl ⟨hT, rfl⟩
                                · rw [if_neg c27] at hT
                                  by_cases c30 : what = 16
                                  · rw [if_pos c30] at hT
                                    refine z_tableIn ok dX3_count_1 207 206 (by rw [c30]; decide) ?_
                                    refine z_iload_n ok dX3_count_207 1 rfl ?_
                                    refine z_bipush ok dX3_count_208 (x := 10) (by decide) ?_
                                    refine z_bipush ok dX3_count_210 (x := 12) (by decide) ?_
                                    refine z_callSi ok old dX3_count_212 [] (c_X3_in G N hN hg w what 10 12) zy_X3_in zw_608 rfl rfl (by decide) (Nat.le_of_ble_eq_true rfl) ?_
                                    refine z_if_eq ok dX3_count_215 234 (by decide) (fun c31 => ?_) (fun c31 => ?_)
                                    · rw [if_pos c31] at hT
                                      refine z_iload_n ok dX3_count_234 1 rfl ?_
                                      refine z_bipush ok dX3_count_235 (x := 20) (by decide) ?_
                                      refine z_bipush ok dX3_count_237 (x := 26) (by decide) ?_
                                      refine z_callSi ok old dX3_count_239 [] (c_X3_in G N hN hg w what 20 26) zy_X3_in zw_608 rfl rfl (by decide) (Nat.le_of_ble_eq_true rfl) ?_
                                      refine z_if_eq ok dX3_count_242 261 (by decide) (fun c32 => ?_) (fun c32 => ?_)
                                      · rw [if_pos c32] at hT
                                        refine z_iconst ok dX3_count_261 (x := (-1)) (by decide) ?_
                                        exact z_iret ok hE dX3_count_262 rfl ⟨hT, rfl⟩
                                      · rw [if_neg c32] at hT
                                        replace hT := zlet_open hT
                                        obtain ⟨c_what, hc_what, hT⟩ := hT
                                        obtain ⟨lc_what, ec_what⟩ := zcellx (zin26 (by assumption)) hc_what
                                        subst ec_what
                                        refine z_aload_n ok dX3_count_245 0 rfl ?_
                                        refine z_get_X3_st ok dX3_count_246 hN zw_549 ?_
                                        refine z_sipush ok dX3_count_249 (x := 152) (by decide) ?_
                                        refine z_iload_n ok dX3_count_252 1 rfl ?_
                                        refine z_iadd_n ok dX3_count_253 152 c_what rfl rfl ?_
                                        refine z_bipush ok dX3_count_254 (x := 20) (by decide) ?_
                                        refine z_isub_n ok dX3_count_256 (152 + c_what) 20 rfl rfl (by omega) ?_
                                        refine z_mld48 ok dX3_count_257 hN ((152 + c_what) - 20) rfl (by omega) ?_
                                        refine z_goto ok dX3_count_258 262 (by decide) ?_
                                        exact z_iret ok hE dX3_count_262 rfl ⟨hT, rfl⟩
                                    · rw [if_neg c31] at hT
                                      replace hT := zlet_open hT
                                      obtain ⟨c_what, hc_what, hT⟩ := hT
                                      obtain ⟨lc_what, ec_what⟩ := zcellx (zin12 (by assumption)) hc_what
                                      subst ec_what
                                      refine z_aload_n ok dX3_count_218 0 rfl ?_
                                      refine z_get_X3_st ok dX3_count_219 hN zw_549 ?_
                                      refine z_sipush ok dX3_count_222 (x := 149) (by decide) ?_
                                      refine z_iload_n ok dX3_count_225 1 rfl ?_
                                      refine z_iadd_n ok dX3_count_226 149 c_what rfl rfl ?_
                                      refine z_bipush ok dX3_count_227 (x := 10) (by decide) ?_
                                      refine z_isub_n ok dX3_count_229 (149 + c_what) 10 rfl rfl (by omega) ?_
                                      refine z_mld48 ok dX3_count_230 hN ((149 + c_what) - 10) rfl (by omega) ?_
                                      refine z_goto ok dX3_count_231 262 (by decide) ?_
                                      exact z_iret ok hE dX3_count_262 rfl ⟨hT, rfl⟩
                                  · rw [if_neg c30] at hT
                                    by_cases c33 : what = 17
                                    · rw [if_pos c33] at hT
                                      refine z_tableIn ok dX3_count_1 207 206 (by rw [c33]; decide) ?_
                                      refine z_iload_n ok dX3_count_207 1 rfl ?_
                                      refine z_bipush ok dX3_count_208 (x := 10) (by decide) ?_
                                      refine z_bipush ok dX3_count_210 (x := 12) (by decide) ?_
                                      refine z_callSi ok old dX3_count_212 [] (c_X3_in G N hN hg w what 10 12) zy_X3_in zw_608 rfl rfl (by decide) (Nat.le_of_ble_eq_true rfl) ?_
                                      refine z_if_eq ok dX3_count_215 234 (by decide) (fun c34 => ?_) (fun c34 => ?_)
                                      · rw [if_pos c34] at hT
                                        refine z_iload_n ok dX3_count_234 1 rfl ?_
                                        refine z_bipush ok dX3_count_235 (x := 20) (by decide) ?_
                                        refine z_bipush ok dX3_count_237 (x := 26) (by decide) ?_
                                        refine z_callSi ok old dX3_count_239 [] (c_X3_in G N hN hg w what 20 26) zy_X3_in zw_608 rfl rfl (by decide) (Nat.le_of_ble_eq_true rfl) ?_
                                        refine z_if_eq ok dX3_count_242 261 (by decide) (fun c35 => ?_) (fun c35 => ?_)
                                        · rw [if_pos c35] at hT
                                          refine z_iconst ok dX3_count_261 (x := (-1)) (by decide) ?_
                                          exact z_iret ok hE dX3_count_262 rfl ⟨hT, rfl⟩
                                        · rw [if_neg c35] at hT
                                          replace hT := zlet_open hT
                                          obtain ⟨c_what, hc_what, hT⟩ := hT
                                          obtain ⟨lc_what, ec_what⟩ := zcellx (zin26 (by assumption)) hc_what
                                          subst ec_what
                                          refine z_aload_n ok dX3_count_245 0 rfl ?_
                                          refine z_get_X3_st ok dX3_count_246 hN zw_549 ?_
                                          refine z_sipush ok dX3_count_249 (x := 152) (by decide) ?_
                                          refine z_iload_n ok dX3_count_252 1 rfl ?_
                                          refine z_iadd_n ok dX3_count_253 152 c_what rfl rfl ?_
                                          refine z_bipush ok dX3_count_254 (x := 20) (by decide) ?_
                                          refine z_isub_n ok dX3_count_256 (152 + c_what) 20 rfl rfl (by omega) ?_
                                          refine z_mld48 ok dX3_count_257 hN ((152 + c_what) - 20) rfl (by omega) ?_
                                          refine z_goto ok dX3_count_258 262 (by decide) ?_
                                          exact z_iret ok hE dX3_count_262 rfl ⟨hT, rfl⟩
                                      · rw [if_neg c34] at hT
                                        replace hT := zlet_open hT
                                        obtain ⟨c_what, hc_what, hT⟩ := hT
                                        obtain ⟨lc_what, ec_what⟩ := zcellx (zin12 (by assumption)) hc_what
                                        subst ec_what
                                        refine z_aload_n ok dX3_count_218 0 rfl ?_
                                        refine z_get_X3_st ok dX3_count_219 hN zw_549 ?_
                                        refine z_sipush ok dX3_count_222 (x := 149) (by decide) ?_
                                        refine z_iload_n ok dX3_count_225 1 rfl ?_
                                        refine z_iadd_n ok dX3_count_226 149 c_what rfl rfl ?_
                                        refine z_bipush ok dX3_count_227 (x := 10) (by decide) ?_
                                        refine z_isub_n ok dX3_count_229 (149 + c_what) 10 rfl rfl (by omega) ?_
                                        refine z_mld48 ok dX3_count_230 hN ((149 + c_what) - 10) rfl (by omega) ?_
                                        refine z_goto ok dX3_count_231 262 (by decide) ?_
                                        exact z_iret ok hE dX3_count_262 rfl ⟨hT, rfl⟩
                                    · rw [if_neg c33] at hT
                                      by_cases c36 : what = 18
                                      · rw [if_pos c36] at hT
                                        refine z_tableIn ok dX3_count_1 207 206 (by rw [c36]; decide) ?_
                                        refine z_iload_n ok dX3_count_207 1 rfl ?_
                                        refine z_bipush ok dX3_count_208 (x := 10) (by decide) ?_
                                        refine z_bipush ok dX3_count_210 (x := 12) (by decide) ?_
                                        refine z_callSi ok old dX3_count_212 [] (c_X3_in G N hN hg w what 10 12) zy_X3_in zw_608 rfl rfl (by decide) (Nat.le_of_ble_eq_true rfl) ?_
                                        refine z_if_eq ok dX3_count_215 234 (by decide) (fun c37 => ?_) (fun c37 => ?_)
                                        · rw [if_pos c37] at hT
                                          refine z_iload_n ok dX3_count_234 1 rfl ?_
                                          refine z_bipush ok dX3_count_235 (x := 20) (by decide) ?_
                                          refine z_bipush ok dX3_count_237 (x := 26) (by decide) ?_
                                          refine z_callSi ok old dX3_count_239 [] (c_X3_in G N hN hg w what 20 26) zy_X3_in zw_608 rfl rfl (by decide) (Nat.le_of_ble_eq_true rfl) ?_
                                          refine z_if_eq ok dX3_count_242 261 (by decide) (fun c38 => ?_) (fun c38 => ?_)
                                          · rw [if_pos c38] at hT
                                            refine z_iconst ok dX3_count_261 (x := (-1)) (by decide) ?_
                                            exact z_iret ok hE dX3_count_262 rfl ⟨hT, rfl⟩
                                          · rw [if_neg c38] at hT
                                            replace hT := zlet_open hT
                                            obtain ⟨c_what, hc_what, hT⟩ := hT
                                            obtain ⟨lc_what, ec_what⟩ := zcellx (zin26 (by assumption)) hc_what
                                            subst ec_what
                                            refine z_aload_n ok dX3_count_245 0 rfl ?_
                                            refine z_get_X3_st ok dX3_count_246 hN zw_549 ?_
                                            refine z_sipush ok dX3_count_249 (x := 152) (by decide) ?_
                                            refine z_iload_n ok dX3_count_252 1 rfl ?_
                                            refine z_iadd_n ok dX3_count_253 152 c_what rfl rfl ?_
                                            refine z_bipush ok dX3_count_254 (x := 20) (by decide) ?_
                                            refine z_isub_n ok dX3_count_256 (152 + c_what) 20 rfl rfl (by omega) ?_
                                            refine z_mld48 ok dX3_count_257 hN ((152 + c_what) - 20) rfl (by omega) ?_
                                            refine z_goto ok dX3_count_258 262 (by decide) ?_
                                            exact z_iret ok hE dX3_count_262 rfl ⟨hT, rfl⟩
                                        · rw [if_neg c37] at hT
                                          replace hT := zlet_open hT
                                          obtain ⟨c_what, hc_what, hT⟩ := hT
                                          obtain ⟨lc_what, ec_what⟩ := zcellx (zin12 (by assumption)) hc_what
                                          subst ec_what
                                          refine z_aload_n ok dX3_count_218 0 rfl ?_
                                          refine z_get_X3_st ok dX3_count_219 hN zw_549 ?_
                                          refine z_sipush ok dX3_count_222 (x := 149) (by decide) ?_
                                          refine z_iload_n ok dX3_count_225 1 rfl ?_
                                          refine z_iadd_n ok dX3_count_226 149 c_what rfl rfl ?_
                                          refine z_bipush ok dX3_count_227 (x := 10) (by decide) ?_
                                          refine z_isub_n ok dX3_count_229 (149 + c_what) 10 rfl rfl (by omega) ?_
                                          refine z_mld48 ok dX3_count_230 hN ((149 + c_what) - 10) rfl (by omega) ?_
                                          refine z_goto ok dX3_count_231 262 (by decide) ?_
                                          exact z_iret ok hE dX3_count_262 rfl ⟨hT, rfl⟩
                                      · rw [if_neg c36] at hT
                                        by_cases c39 : what = 19
                                        · rw [if_pos c39] at hT
                                          refine z_tableIn ok dX3_count_1 207 206 (by rw [c39]; decide) ?_
                                          refine z_iload_n ok dX3_count_207 1 rfl ?_
                                          refine z_bipush ok dX3_count_208 (x := 10) (by decide) ?_
                                          refine z_bipush ok dX3_count_210 (x := 12) (by decide) ?_
                                          refine z_callSi ok old dX3_count_212 [] (c_X3_in G N hN hg w what 10 12) zy_X3_in zw_608 rfl rfl (by decide) (Nat.le_of_ble_eq_true rfl) ?_
                                          refine z_if_eq ok dX3_count_215 234 (by decide) (fun c40 => ?_) (fun c40 => ?_)
                                          · rw [if_pos c40] at hT
                                            refine z_iload_n ok dX3_count_234 1 rfl ?_
                                            refine z_bipush ok dX3_count_235 (x := 20) (by decide) ?_
                                            refine z_bipush ok dX3_count_237 (x := 26) (by decide) ?_
                                            refine z_callSi ok old dX3_count_239 [] (c_X3_in G N hN hg w what 20 26) zy_X3_in zw_608 rfl rfl (by decide) (Nat.le_of_ble_eq_true rfl) ?_
                                            refine z_if_eq ok dX3_count_242 261 (by decide) (fun c41 => ?_) (fun c41 => ?_)
                                            · rw [if_pos c41] at hT
                                              refine z_iconst ok dX3_count_261 (x := (-1)) (by decide) ?_
                                              exact z_iret ok hE dX3_count_262 rfl ⟨hT, rfl⟩
                                            · rw [if_neg c41] at hT
                                              replace hT := zlet_open hT
                                              obtain ⟨c_what, hc_what, hT⟩ := hT
                                              obtain ⟨lc_what, ec_what⟩ := zcellx (zin26 (by assumption)) hc_what
                                              subst ec_what
                                              refine z_aload_n ok dX3_count_245 0 rfl ?_
                                              refine z_get_X3_st ok dX3_count_246 hN zw_549 ?_
                                              refine z_sipush ok dX3_count_249 (x := 152) (by decide) ?_
                                              refine z_iload_n ok dX3_count_252 1 rfl ?_
                                              refine z_iadd_n ok dX3_count_253 152 c_what rfl rfl ?_
                                              refine z_bipush ok dX3_count_254 (x := 20) (by decide) ?_
                                              refine z_isub_n ok dX3_count_256 (152 + c_what) 20 rfl rfl (by omega) ?_
                                              refine z_mld48 ok dX3_count_257 hN ((152 + c_what) - 20) rfl (by omega) ?_
                                              refine z_goto ok dX3_count_258 262 (by decide) ?_
                                              exact z_iret ok hE dX3_count_262 rfl ⟨hT, rfl⟩
                                          · rw [if_neg c40] at hT
                                            replace hT := zlet_open hT
                                            obtain ⟨c_what, hc_what, hT⟩ := hT
                                            obtain ⟨lc_what, ec_what⟩ := zcellx (zin12 (by assumption)) hc_what
                                            subst ec_what
                                            refine z_aload_n ok dX3_count_218 0 rfl ?_
                                            refine z_get_X3_st ok dX3_count_219 hN zw_549 ?_
                                            refine z_sipush ok dX3_count_222 (x := 149) (by decide) ?_
                                            refine z_iload_n ok dX3_count_225 1 rfl ?_
                                            refine z_iadd_n ok dX3_count_226 149 c_what rfl rfl ?_
                                            refine z_bipush ok dX3_count_227 (x := 10) (by decide) ?_
                                            refine z_isub_n ok dX3_count_229 (149 + c_what) 10 rfl rfl (by omega) ?_
                                            refine z_mld48 ok dX3_count_230 hN ((149 + c_what) - 10) rfl (by omega) ?_
                                            refine z_goto ok dX3_count_231 262 (by decide) ?_
                                            exact z_iret ok hE dX3_count_262 rfl ⟨hT, rfl⟩
                                        · rw [if_neg c39] at hT
                                          by_cases c42 : what = 20
                                          · rw [if_pos c42] at hT
                                            refine z_tableIn ok dX3_count_1 207 206 (by rw [c42]; decide) ?_
                                            refine z_iload_n ok dX3_count_207 1 rfl ?_
                                            refine z_bipush ok dX3_count_208 (x := 10) (by decide) ?_
                                            refine z_bipush ok dX3_count_210 (x := 12) (by decide) ?_
                                            refine z_callSi ok old dX3_count_212 [] (c_X3_in G N hN hg w what 10 12) zy_X3_in zw_608 rfl rfl (by decide) (Nat.le_of_ble_eq_true rfl) ?_
                                            refine z_if_eq ok dX3_count_215 234 (by decide) (fun c43 => ?_) (fun c43 => ?_)
                                            · rw [if_pos c43] at hT
                                              refine z_iload_n ok dX3_count_234 1 rfl ?_
                                              refine z_bipush ok dX3_count_235 (x := 20) (by decide) ?_
                                              refine z_bipush ok dX3_count_237 (x := 26) (by decide) ?_
                                              refine z_callSi ok old dX3_count_239 [] (c_X3_in G N hN hg w what 20 26) zy_X3_in zw_608 rfl rfl (by decide) (Nat.le_of_ble_eq_true rfl) ?_
                                              refine z_if_eq ok dX3_count_242 261 (by decide) (fun c44 => ?_) (fun c44 => ?_)
                                              · rw [if_pos c44] at hT
                                                refine z_iconst ok dX3_count_261 (x := (-1)) (by decide) ?_
                                                exact z_iret ok hE dX3_count_262 rfl ⟨hT, rfl⟩
                                              · rw [if_neg c44] at hT
                                                replace hT := zlet_open hT
                                                obtain ⟨c_what, hc_what, hT⟩ := hT
                                                obtain ⟨lc_what, ec_what⟩ := zcellx (zin26 (by assumption)) hc_what
                                                subst ec_what
                                                refine z_aload_n ok dX3_count_245 0 rfl ?_
                                                refine z_get_X3_st ok dX3_count_246 hN zw_549 ?_
                                                refine z_sipush ok dX3_count_249 (x := 152) (by decide) ?_
                                                refine z_iload_n ok dX3_count_252 1 rfl ?_
                                                refine z_iadd_n ok dX3_count_253 152 c_what rfl rfl ?_
                                                refine z_bipush ok dX3_count_254 (x := 20) (by decide) ?_
                                                refine z_isub_n ok dX3_count_256 (152 + c_what) 20 rfl rfl (by omega) ?_
                                                refine z_mld48 ok dX3_count_257 hN ((152 + c_what) - 20) rfl (by omega) ?_
                                                refine z_goto ok dX3_count_258 262 (by decide) ?_
                                                exact z_iret ok hE dX3_count_262 rfl ⟨hT, rfl⟩
                                            · rw [if_neg c43] at hT
                                              replace hT := zlet_open hT
                                              obtain ⟨c_what, hc_what, hT⟩ := hT
                                              obtain ⟨lc_what, ec_what⟩ := zcellx (zin12 (by assumption)) hc_what
                                              subst ec_what
                                              refine z_aload_n ok dX3_count_218 0 rfl ?_
                                              refine z_get_X3_st ok dX3_count_219 hN zw_549 ?_
                                              refine z_sipush ok dX3_count_222 (x := 149) (by decide) ?_
                                              refine z_iload_n ok dX3_count_225 1 rfl ?_
                                              refine z_iadd_n ok dX3_count_226 149 c_what rfl rfl ?_
                                              refine z_bipush ok dX3_count_227 (x := 10) (by decide) ?_
                                              refine z_isub_n ok dX3_count_229 (149 + c_what) 10 rfl rfl (by omega) ?_
                                              refine z_mld48 ok dX3_count_230 hN ((149 + c_what) - 10) rfl (by omega) ?_
                                              refine z_goto ok dX3_count_231 262 (by decide) ?_
                                              exact z_iret ok hE dX3_count_262 rfl ⟨hT, rfl⟩
                                          · rw [if_neg c42] at hT
                                            by_cases c45 : what = 21
                                            · rw [if_pos c45] at hT
                                              refine z_tableIn ok dX3_count_1 207 206 (by rw [c45]; decide) ?_
                                              refine z_iload_n ok dX3_count_207 1 rfl ?_
                                              refine z_bipush ok dX3_count_208 (x := 10) (by decide) ?_
                                              refine z_bipush ok dX3_count_210 (x := 12) (by decide) ?_
                                              refine z_callSi ok old dX3_count_212 [] (c_X3_in G N hN hg w what 10 12) zy_X3_in zw_608 rfl rfl (by decide) (Nat.le_of_ble_eq_true rfl) ?_
                                              refine z_if_eq ok dX3_count_215 234 (by decide) (fun c46 => ?_) (fun c46 => ?_)
                                              · rw [if_pos c46] at hT
                                                refine z_iload_n ok dX3_count_234 1 rfl ?_
                                                refine z_bipush ok dX3_count_235 (x := 20) (by decide) ?_
                                                refine z_bipush ok dX3_count_237 (x := 26) (by decide) ?_
                                                refine z_callSi ok old dX3_count_239 [] (c_X3_in G N hN hg w what 20 26) zy_X3_in zw_608 rfl rfl (by decide) (Nat.le_of_ble_eq_true rfl) ?_
                                                refine z_if_eq ok dX3_count_242 261 (by decide) (fun c47 => ?_) (fun c47 => ?_)
                                                · rw [if_pos c47] at hT
                                                  refine z_iconst ok dX3_count_261 (x := (-1)) (by decide) ?_
                                                  exact z_iret ok hE dX3_count_262 rfl ⟨hT, rfl⟩
                                                · rw [if_neg c47] at hT
                                                  replace hT := zlet_open hT
                                                  obtain ⟨c_what, hc_what, hT⟩ := hT
                                                  obtain ⟨lc_what, ec_what⟩ := zcellx (zin26 (by assumption)) hc_what
                                                  subst ec_what
                                                  refine z_aload_n ok dX3_count_245 0 rfl ?_
                                                  refine z_get_X3_st ok dX3_count_246 hN zw_549 ?_
                                                  refine z_sipush ok dX3_count_249 (x := 152) (by decide) ?_
                                                  refine z_iload_n ok dX3_count_252 1 rfl ?_
                                                  refine z_iadd_n ok dX3_count_253 152 c_what rfl rfl ?_
                                                  refine z_bipush ok dX3_count_254 (x := 20) (by decide) ?_
                                                  refine z_isub_n ok dX3_count_256 (152 + c_what) 20 rfl rfl (by omega) ?_
                                                  refine z_mld48 ok dX3_count_257 hN ((152 + c_what) - 20) rfl (by omega) ?_
                                                  refine z_goto ok dX3_count_258 262 (by decide) ?_
                                                  exact z_iret ok hE dX3_count_262 rfl ⟨hT, rfl⟩
                                              · rw [if_neg c46] at hT
                                                replace hT := zlet_open hT
                                                obtain ⟨c_what, hc_what, hT⟩ := hT
                                                obtain ⟨lc_what, ec_what⟩ := zcellx (zin12 (by assumption)) hc_what
                                                subst ec_what
                                                refine z_aload_n ok dX3_count_218 0 rfl ?_
                                                refine z_get_X3_st ok dX3_count_219 hN zw_549 ?_
                                                refine z_sipush ok dX3_count_222 (x := 149) (by decide) ?_
                                                refine z_iload_n ok dX3_count_225 1 rfl ?_
                                                refine z_iadd_n ok dX3_count_226 149 c_what rfl rfl ?_
                                                refine z_bipush ok dX3_count_227 (x := 10) (by decide) ?_
                                                refine z_isub_n ok dX3_count_229 (149 + c_what) 10 rfl rfl (by omega) ?_
                                                refine z_mld48 ok dX3_count_230 hN ((149 + c_what) - 10) rfl (by omega) ?_
                                                refine z_goto ok dX3_count_231 262 (by decide) ?_
                                                exact z_iret ok hE dX3_count_262 rfl ⟨hT, rfl⟩
                                            · rw [if_neg c45] at hT
                                              by_cases c48 : what = 22
                                              · rw [if_pos c48] at hT
                                                refine z_tableIn ok dX3_count_1 207 206 (by rw [c48]; decide) ?_
                                                refine z_iload_n ok dX3_count_207 1 rfl ?_
                                                refine z_bipush ok dX3_count_208 (x := 10) (by decide) ?_
                                                refine z_bipush ok dX3_count_210 (x := 12) (by decide) ?_
                                                refine z_callSi ok old dX3_count_212 [] (c_X3_in G N hN hg w what 10 12) zy_X3_in zw_608 rfl rfl (by decide) (Nat.le_of_ble_eq_true rfl) ?_
                                                refine z_if_eq ok dX3_count_215 234 (by decide) (fun c49 => ?_) (fun c49 => ?_)
                                                · rw [if_pos c49] at hT
                                                  refine z_iload_n ok dX3_count_234 1 rfl ?_
                                                  refine z_bipush ok dX3_count_235 (x := 20) (by decide) ?_
                                                  refine z_bipush ok dX3_count_237 (x := 26) (by decide) ?_
                                                  refine z_callSi ok old dX3_count_239 [] (c_X3_in G N hN hg w what 20 26) zy_X3_in zw_608 rfl rfl (by decide) (Nat.le_of_ble_eq_true rfl) ?_
                                                  refine z_if_eq ok dX3_count_242 261 (by decide) (fun c50 => ?_) (fun c50 => ?_)
                                                  · rw [if_pos c50] at hT
                                                    refine z_iconst ok dX3_count_261 (x := (-1)) (by decide) ?_
                                                    exact z_iret ok hE dX3_count_262 rfl ⟨hT, rfl⟩
                                                  · rw [if_neg c50] at hT
                                                    replace hT := zlet_open hT
                                                    obtain ⟨c_what, hc_what, hT⟩ := hT
                                                    obtain ⟨lc_what, ec_what⟩ := zcellx (zin26 (by assumption)) hc_what
                                                    subst ec_what
                                                    refine z_aload_n ok dX3_count_245 0 rfl ?_
                                                    refine z_get_X3_st ok dX3_count_246 hN zw_549 ?_
                                                    refine z_sipush ok dX3_count_249 (x := 152) (by decide) ?_
                                                    refine z_iload_n ok dX3_count_252 1 rfl ?_
                                                    refine z_iadd_n ok dX3_count_253 152 c_what rfl rfl ?_
                                                    refine z_bipush ok dX3_count_254 (x := 20) (by decide) ?_
                                                    refine z_isub_n ok dX3_count_256 (152 + c_what) 20 rfl rfl (by omega) ?_
                                                    refine z_mld48 ok dX3_count_257 hN ((152 + c_what) - 20) rfl (by omega) ?_
                                                    refine z_goto ok dX3_count_258 262 (by decide) ?_
                                                    exact z_iret ok hE dX3_count_262 rfl ⟨hT, rfl⟩
                                                · rw [if_neg c49] at hT
                                                  replace hT := zlet_open hT
                                                  obtain ⟨c_what, hc_what, hT⟩ := hT
                                                  obtain ⟨lc_what, ec_what⟩ := zcellx (zin12 (by assumption)) hc_what
                                                  subst ec_what
                                                  refine z_aload_n ok dX3_count_218 0 rfl ?_
                                                  refine z_get_X3_st ok dX3_count_219 hN zw_549 ?_
                                                  refine z_sipush ok dX3_count_222 (x := 149) (by decide) ?_
                                                  refine z_iload_n ok dX3_count_225 1 rfl ?_
                                                  refine z_iadd_n ok dX3_count_226 149 c_what rfl rfl ?_
                                                  refine z_bipush ok dX3_count_227 (x := 10) (by decide) ?_
                                                  refine z_isub_n ok dX3_count_229 (149 + c_what) 10 rfl rfl (by omega) ?_
                                                  refine z_mld48 ok dX3_count_230 hN ((149 + c_what) - 10) rfl (by omega) ?_
                                                  refine z_goto ok dX3_count_231 262 (by decide) ?_
                                                  exact z_iret ok hE dX3_count_262 rfl ⟨hT, rfl⟩
                                              · rw [if_neg c48] at hT
                                                by_cases c51 : what = 23
                                                · rw [if_pos c51] at hT
                                                  refine z_tableIn ok dX3_count_1 207 206 (by rw [c51]; decide) ?_
                                                  refine z_iload_n ok dX3_count_207 1 rfl ?_
                                                  refine z_bipush ok dX3_count_208 (x := 10) (by decide) ?_
                                                  refine z_bipush ok dX3_count_210 (x := 12) (by decide) ?_
                                                  refine z_callSi ok old dX3_count_212 [] (c_X3_in G N hN hg w what 10 12) zy_X3_in zw_608 rfl rfl (by decide) (Nat.le_of_ble_eq_true rfl) ?_
                                                  refine z_if_eq ok dX3_count_215 234 (by decide) (fun c52 => ?_) (fun c52 => ?_)
                                                  · rw [if_pos c52] at hT
                                                    refine z_iload_n ok dX3_count_234 1 rfl ?_
                                                    refine z_bipush ok dX3_count_235 (x := 20) (by decide) ?_
                                                    refine z_bipush ok dX3_count_237 (x := 26) (by decide) ?_
                                                    refine z_callSi ok old dX3_count_239 [] (c_X3_in G N hN hg w what 20 26) zy_X3_in zw_608 rfl rfl (by decide) (Nat.le_of_ble_eq_true rfl) ?_
                                                    refine z_if_eq ok dX3_count_242 261 (by decide) (fun c53 => ?_) (fun c53 => ?_)
                                                    · rw [if_pos c53] at hT
                                                      refine z_iconst ok dX3_count_261 (x := (-1)) (by decide) ?_
                                                      exact z_iret ok hE dX3_count_262 rfl ⟨hT, rfl⟩
                                                    · rw [if_neg c53] at hT
                                                      replace hT := zlet_open hT
                                                      obtain ⟨c_what, hc_what, hT⟩ := hT
                                                      obtain ⟨lc_what, ec_what⟩ := zcellx (zin26 (by assumption)) hc_what
                                                      subst ec_what
                                                      refine z_aload_n ok dX3_count_245 0 rfl ?_
                                                      refine z_get_X3_st ok dX3_count_246 hN zw_549 ?_
                                                      refine z_sipush ok dX3_count_249 (x := 152) (by decide) ?_
                                                      refine z_iload_n ok dX3_count_252 1 rfl ?_
                                                      refine z_iadd_n ok dX3_count_253 152 c_what rfl rfl ?_
                                                      refine z_bipush ok dX3_count_254 (x := 20) (by decide) ?_
                                                      refine z_isub_n ok dX3_count_256 (152 + c_what) 20 rfl rfl (by omega) ?_
                                                      refine z_mld48 ok dX3_count_257 hN ((152 + c_what) - 20) rfl (by omega) ?_
                                                      refine z_goto ok dX3_count_258 262 (by decide) ?_
                                                      exact z_iret ok hE dX3_count_262 rfl ⟨hT, rfl⟩
                                                  · rw [if_neg c52] at hT
                                                    replace hT := zlet_open hT
                                                    obtain ⟨c_what, hc_what, hT⟩ := hT
                                                    obtain ⟨lc_what, ec_what⟩ := zcellx (zin12 (by assumption)) hc_what
                                                    subst ec_what
                                                    refine z_aload_n ok dX3_count_218 0 rfl ?_
                                                    refine z_get_X3_st ok dX3_count_219 hN zw_549 ?_
                                                    refine z_sipush ok dX3_count_222 (x := 149) (by decide) ?_
                                                    refine z_iload_n ok dX3_count_225 1 rfl ?_
                                                    refine z_iadd_n ok dX3_count_226 149 c_what rfl rfl ?_
                                                    refine z_bipush ok dX3_count_227 (x := 10) (by decide) ?_
                                                    refine z_isub_n ok dX3_count_229 (149 + c_what) 10 rfl rfl (by omega) ?_
                                                    refine z_mld48 ok dX3_count_230 hN ((149 + c_what) - 10) rfl (by omega) ?_
                                                    refine z_goto ok dX3_count_231 262 (by decide) ?_
                                                    exact z_iret ok hE dX3_count_262 rfl ⟨hT, rfl⟩
                                                · rw [if_neg c51] at hT
                                                  by_cases c54 : what = 24
                                                  · rw [if_pos c54] at hT
                                                    refine z_tableIn ok dX3_count_1 207 206 (by rw [c54]; decide) ?_
                                                    refine z_iload_n ok dX3_count_207 1 rfl ?_
                                                    refine z_bipush ok dX3_count_208 (x := 10) (by decide) ?_
                                                    refine z_bipush ok dX3_count_210 (x := 12) (by decide) ?_
                                                    refine z_callSi ok old dX3_count_212 [] (c_X3_in G N hN hg w what 10 12) zy_X3_in zw_608 rfl rfl (by decide) (Nat.le_of_ble_eq_true rfl) ?_
                                                    refine z_if_eq ok dX3_count_215 234 (by decide) (fun c55 => ?_) (fun c55 => ?_)
                                                    · rw [if_pos c55] at hT
                                                      refine z_iload_n ok dX3_count_234 1 rfl ?_
                                                      refine z_bipush ok dX3_count_235 (x := 20) (by decide) ?_
                                                      refine z_bipush ok dX3_count_237 (x := 26) (by decide) ?_
                                                      refine z_callSi ok old dX3_count_239 [] (c_X3_in G N hN hg w what 20 26) zy_X3_in zw_608 rfl rfl (by decide) (Nat.le_of_ble_eq_true rfl) ?_
                                                      refine z_if_eq ok dX3_count_242 261 (by decide) (fun c56 => ?_) (fun c56 => ?_)
                                                      · rw [if_pos c56] at hT
                                                        refine z_iconst ok dX3_count_261 (x := (-1)) (by decide) ?_
                                                        exact z_iret ok hE dX3_count_262 rfl ⟨hT, rfl⟩
                                                      · rw [if_neg c56] at hT
                                                        replace hT := zlet_open hT
                                                        obtain ⟨c_what, hc_what, hT⟩ := hT
                                                        obtain ⟨lc_what, ec_what⟩ := zcellx (zin26 (by assumption)) hc_what
                                                        subst ec_what
                                                        refine z_aload_n ok dX3_count_245 0 rfl ?_
                                                        refine z_get_X3_st ok dX3_count_246 hN zw_549 ?_
                                                        refine z_sipush ok dX3_count_249 (x := 152) (by decide) ?_
                                                        refine z_iload_n ok dX3_count_252 1 rfl ?_
                                                        refine z_iadd_n ok dX3_count_253 152 c_what rfl rfl ?_
                                                        refine z_bipush ok dX3_count_254 (x := 20) (by decide) ?_
                                                        refine z_isub_n ok dX3_count_256 (152 + c_what) 20 rfl rfl (by omega) ?_
                                                        refine z_mld48 ok dX3_count_257 hN ((152 + c_what) - 20) rfl (by omega) ?_
                                                        refine z_goto ok dX3_count_258 262 (by decide) ?_
                                                        exact z_iret ok hE dX3_count_262 rfl ⟨hT, rfl⟩
                                                    · rw [if_neg c55] at hT
                                                      replace hT := zlet_open hT
                                                      obtain ⟨c_what, hc_what, hT⟩ := hT
                                                      obtain ⟨lc_what, ec_what⟩ := zcellx (zin12 (by assumption)) hc_what
                                                      subst ec_what
                                                      refine z_aload_n ok dX3_count_218 0 rfl ?_
                                                      refine z_get_X3_st ok dX3_count_219 hN zw_549 ?_
                                                      refine z_sipush ok dX3_count_222 (x := 149) (by decide) ?_
                                                      refine z_iload_n ok dX3_count_225 1 rfl ?_
                                                      refine z_iadd_n ok dX3_count_226 149 c_what rfl rfl ?_
                                                      refine z_bipush ok dX3_count_227 (x := 10) (by decide) ?_
                                                      refine z_isub_n ok dX3_count_229 (149 + c_what) 10 rfl rfl (by omega) ?_
                                                      refine z_mld48 ok dX3_count_230 hN ((149 + c_what) - 10) rfl (by omega) ?_
                                                      refine z_goto ok dX3_count_231 262 (by decide) ?_
                                                      exact z_iret ok hE dX3_count_262 rfl ⟨hT, rfl⟩
                                                  · rw [if_neg c54] at hT
                                                    by_cases c57 : what = 25
                                                    · rw [if_pos c57] at hT
                                                      refine z_tableIn ok dX3_count_1 202 201 (by rw [c57]; decide) ?_
                                                      refine z_aload_n ok dX3_count_202 0 rfl ?_
                                                      refine z_callVi ok old dX3_count_203 [] (c_X3_allSprings G N hN hg w ) zy_X3_allSprings zw_541 47 (by omega) (zE_47 G w) rfl rfl rfl rfl rfl (by decide) (Nat.le_of_ble_eq_true rfl) ?_
                                                      exact z_iret ok hE dX3_count_206 rfl ⟨hT, rfl⟩
                                                    · rw [if_neg c57] at hT
                                                      refine z_tableOut ok dX3_count_1 207 (ztab_out26 c1 c2 c3 c5 c6 c7 c8 c9 c10 c11 c12 c15 c18 c21 c24 c27 c30 c33 c36 c39 c42 c45 c48 c51 c54 c57) (by decide) ?_
                                                      refine z_iload_n ok dX3_count_207 1 rfl ?_
                                                      refine z_bipush ok dX3_count_208 (x := 10) (by decide) ?_
                                                      refine z_bipush ok dX3_count_210 (x := 12) (by decide) ?_
                                                      refine z_callSi ok old dX3_count_212 [] (c_X3_in G N hN hg w what 10 12) zy_X3_in zw_608 rfl rfl (by decide) (Nat.le_of_ble_eq_true rfl) ?_
                                                      refine z_if_eq ok dX3_count_215 234 (by decide) (fun c58 => ?_) (fun c58 => ?_)
                                                      · rw [if_pos c58] at hT
                                                        refine z_iload_n ok dX3_count_234 1 rfl ?_
                                                        refine z_bipush ok dX3_count_235 (x := 20) (by decide) ?_
                                                        refine z_bipush ok dX3_count_237 (x := 26) (by decide) ?_
                                                        refine z_callSi ok old dX3_count_239 [] (c_X3_in G N hN hg w what 20 26) zy_X3_in zw_608 rfl rfl (by decide) (Nat.le_of_ble_eq_true rfl) ?_
                                                        refine z_if_eq ok dX3_count_242 261 (by decide) (fun c59 => ?_) (fun c59 => ?_)
                                                        · rw [if_pos c59] at hT
                                                          refine z_iconst ok dX3_count_261 (x := (-1)) (by decide) ?_
                                                          exact z_iret ok hE dX3_count_262 rfl ⟨hT, rfl⟩
                                                        · rw [if_neg c59] at hT
                                                          replace hT := zlet_open hT
                                                          obtain ⟨c_what, hc_what, hT⟩ := hT
                                                          obtain ⟨lc_what, ec_what⟩ := zcellx (zin26 (by assumption)) hc_what
                                                          subst ec_what
                                                          refine z_aload_n ok dX3_count_245 0 rfl ?_
                                                          refine z_get_X3_st ok dX3_count_246 hN zw_549 ?_
                                                          refine z_sipush ok dX3_count_249 (x := 152) (by decide) ?_
                                                          refine z_iload_n ok dX3_count_252 1 rfl ?_
                                                          refine z_iadd_n ok dX3_count_253 152 c_what rfl rfl ?_
                                                          refine z_bipush ok dX3_count_254 (x := 20) (by decide) ?_
                                                          refine z_isub_n ok dX3_count_256 (152 + c_what) 20 rfl rfl (by omega) ?_
                                                          refine z_mld48 ok dX3_count_257 hN ((152 + c_what) - 20) rfl (by omega) ?_
                                                          refine z_goto ok dX3_count_258 262 (by decide) ?_
                                                          exact z_iret ok hE dX3_count_262 rfl ⟨hT, rfl⟩
                                                      · rw [if_neg c58] at hT
                                                        replace hT := zlet_open hT
                                                        obtain ⟨c_what, hc_what, hT⟩ := hT
                                                        obtain ⟨lc_what, ec_what⟩ := zcellx (zin12 (by assumption)) hc_what
                                                        subst ec_what
                                                        refine z_aload_n ok dX3_count_218 0 rfl ?_
                                                        refine z_get_X3_st ok dX3_count_219 hN zw_549 ?_
                                                        refine z_sipush ok dX3_count_222 (x := 149) (by decide) ?_
                                                        refine z_iload_n ok dX3_count_225 1 rfl ?_
                                                        refine z_iadd_n ok dX3_count_226 149 c_what rfl rfl ?_
                                                        refine z_bipush ok dX3_count_227 (x := 10) (by decide) ?_
                                                        refine z_isub_n ok dX3_count_229 (149 + c_what) 10 rfl rfl (by omega) ?_
                                                        refine z_mld48 ok dX3_count_230 hN ((149 + c_what) - 10) rfl (by omega) ?_
                                                        refine z_goto ok dX3_count_231 262 (by decide) ?_
                                                        exact z_iret ok hE dX3_count_262 rfl ⟨hT, rfl⟩

def d_X3_goes (w : xW) (f : Nat) (t : Nat) : xW :=
  zlet ((xg w 11 f)) fun x1 =>
  zlet ((xg w 11 (36 + f))) fun x2 =>
  zlet ((d_X3_costOf w f t)) fun x3 =>
  zlet (((xg w 11 (72 + f)) - x3)) fun x4 =>
  zlet (xs w 11 155 ((xg w 11 155) + x3)) fun w5 =>
  zlet (if (xg w5 11 t) = (-1) then ((x4, w5))
  else (zlet ((xg w5 11 (72 + t))) fun x15 =>
  zlet (((x15 / 2) + (xg w5 11 150))) fun x16 =>
  zlet ((d_X3_lesser w5 (xg w5 11 149) (x4 + x16))) fun x17 =>
  zlet (xs w5 11 154 ((xg w5 11 154) + (xg w5 11 150))) fun w18 =>
  zlet (xs w18 11 156 ((xg w18 11 156) + ((((x15 - (x15 / 2)) + x4) + x16) - x17))) fun w19 =>
  zlet (if (xg w19 11 (36 + t)) = 0 then (zlet (xs w19 11 145 1) fun w22 =>
  zlet (xs w22 11 146 x1) fun w23 =>
  w23)
  else (w19) : xW) fun w20 =>
  (x17, w20)) : Int32 × xW) fun p6 =>
  zlet (if (nI (t / 6)) = (5 - (5 * x1)) then (1)
  else (0) : Int32) fun x7 =>
  zlet (d_X3_lays p6.2 f (-1) 0 0) fun w8 =>
  zlet (if x2 = 4 then (if x7 = 0 then (x2)
  else (1))
  else (x2) : Int32) fun x9 =>
  zlet (d_X3_lays w8 t x1 x9 p6.1) fun w10 =>
  w10
set_option maxRecDepth 100000 in
set_option maxHeartbeats 4000000 in
theorem c_X3_goes (G : zG) (N : Nat) (hN : 54 ≤ N) (hg : zGeo G N) (w : xW) (f : Nat) (h_f : f < 36) (t : Nat) (h_t : t < 36) : zM yX3_goes cX3_goes 10 none 4 94 G N [.ref (zad G 47), .int (nI f), .int (nI t)] w none (d_X3_goes w f t) := by
  generalize hT : d_X3_goes w f t = u
  unfold d_X3_goes at hT
  refine zM_of zy_X3_goes.2.2.2.2.2.2.2 hg ⟨Nat.le_of_ble_eq_true rfl, by decide⟩ rfl (fun k ok hE hI => ?_)
  have old := hE.old
  refine z_aload_n ok dX3_goes_0 0 rfl ?_
  refine z_get_X3_st ok dX3_goes_1 hN zw_549 ?_
  refine z_iconst ok dX3_goes_4 (x := 0) (by decide) ?_
  refine z_iload_n ok dX3_goes_5 1 rfl ?_
  refine z_iadd_0 ok dX3_goes_6 ?_
  refine z_mld48 ok dX3_goes_7 hN f rfl (by omega) ?_
  replace hT := zlet_open hT
  obtain ⟨x1, hx1, hT⟩ := hT
  rw [← hx1]
  refine z_istore_n ok dX3_goes_8 (hI 3 (by decide)) (lv' := [(3, .int x1), (0, .ref (zad G 47)), (1, .int (nI f)), (2, .int (nI t))]) rfl ?_
  refine z_aload_n ok dX3_goes_9 1 rfl ?_
  refine z_get_X3_st ok dX3_goes_10 hN zw_549 ?_
  refine z_bipush ok dX3_goes_13 (x := 36) (by decide) ?_
  refine z_iload_n ok dX3_goes_15 2 rfl ?_
  refine z_iadd_n ok dX3_goes_16 36 f rfl rfl ?_
  refine z_mld48 ok dX3_goes_17 hN (36 + f) rfl (by omega) ?_
  replace hT := zlet_open hT
  obtain ⟨x2, hx2, hT⟩ := hT
  rw [← hx2]
  refine z_istore ok dX3_goes_18 (hI 4 (by decide)) (lv' := [(4, .int x2), (3, .int x1), (0, .ref (zad G 47)), (1, .int (nI f)), (2, .int (nI t))]) rfl ?_
  refine z_aload_n ok dX3_goes_20 2 rfl ?_
  refine z_iload_n ok dX3_goes_21 3 rfl ?_
  refine z_iload_n ok dX3_goes_22 4 rfl ?_
  refine z_callVi ok old dX3_goes_23 [] (c_X3_costOf G N hN hg w f (by omega) t (by omega)) zy_X3_costOf zw_638 47 (by omega) (zE_47 G w) rfl rfl rfl rfl rfl (by decide) (Nat.le_of_ble_eq_true rfl) ?_
  replace hT := zlet_open hT
  obtain ⟨x3, hx3, hT⟩ := hT
  rw [← hx3]
  refine z_istore ok dX3_goes_26 (hI 5 (by decide)) (lv' := [(5, .int x3), (4, .int x2), (3, .int x1), (0, .ref (zad G 47)), (1, .int (nI f)), (2, .int (nI t))]) rfl ?_
  refine z_aload_n ok dX3_goes_28 3 rfl ?_
  refine z_get_X3_st ok dX3_goes_29 hN zw_549 ?_
  refine z_bipush ok dX3_goes_32 (x := 72) (by decide) ?_
  refine z_iload_n ok dX3_goes_34 4 rfl ?_
  refine z_iadd_n ok dX3_goes_35 72 f rfl rfl ?_
  refine z_mld48 ok dX3_goes_36 hN (72 + f) rfl (by omega) ?_
  refine z_iload ok dX3_goes_37 0 rfl ?_
  refine z_isub ok dX3_goes_39 ?_
  replace hT := zlet_open hT
  obtain ⟨x4, hx4, hT⟩ := hT
  rw [← hx4]
  refine z_istore ok dX3_goes_40 (hI 6 (by decide)) (lv' := [(6, .int x4), (5, .int x3), (4, .int x2), (3, .int x1), (0, .ref (zad G 47)), (1, .int (nI f)), (2, .int (nI t))]) rfl ?_
  refine z_aload_n ok dX3_goes_42 4 rfl ?_
  refine z_get_X3_st ok dX3_goes_43 hN zw_549 ?_
  refine z_sipush ok dX3_goes_46 (x := 155) (by decide) ?_
  refine z_dup2 ok dX3_goes_49 rfl rfl ?_
  refine z_mld48 ok dX3_goes_50 hN 155 rfl (by omega) ?_
  refine z_iload ok dX3_goes_51 1 rfl ?_
  refine z_iadd ok dX3_goes_53 ?_
  refine z_mst48 ok dX3_goes_54 hN 155 rfl (by omega) ?_
  replace hT := zlet_open hT
  obtain ⟨w5, hw5, hT⟩ := hT
  rw [← hw5]
  refine z_aload_n ok dX3_goes_55 4 rfl ?_
  refine z_get_X3_st ok dX3_goes_56 hN zw_549 ?_
  refine z_iconst ok dX3_goes_59 (x := 0) (by decide) ?_
  refine z_iload_n ok dX3_goes_60 6 rfl ?_
  refine z_iadd_0 ok dX3_goes_61 ?_
  refine z_mld48 ok dX3_goes_62 hN t rfl (by omega) ?_
  refine z_iconst ok dX3_goes_63 (x := (-1)) (by decide) ?_
  replace hT := zlet_open hT
  obtain ⟨p6, hp6, hT⟩ := hT
  have hsp6 := hp6.symm
  have hJp6 : zZ k G N p6.2 191 [(0, .ref (zad G 47)), (1, .int (nI f)), (2, .int (nI t)), (3, .int x1), (4, .int x2), (5, .int x3), (6, .int p6.1)] [] := by
    refine z_iload_n ok dX3_goes_191 2 rfl ?_
    refine z_bipush ok dX3_goes_192 (x := 6) (by decide) ?_
    refine z_idiv_n ok dX3_goes_194 t 6 rfl rfl (by omega) (by omega) (by omega) ?_
    refine z_iconst ok dX3_goes_195 (x := 5) (by decide) ?_
    refine z_iconst ok dX3_goes_196 (x := 5) (by decide) ?_
    refine z_iload_n ok dX3_goes_197 3 rfl ?_
    refine z_imul ok dX3_goes_198 ?_
    refine z_isub ok dX3_goes_199 ?_
    replace hT := zlet_open hT
    obtain ⟨x7, hx7, hT⟩ := hT
    have hsx7 := hx7.symm
    have hJx7 : zZ k G N p6.2 208 [(0, .ref (zad G 47)), (1, .int (nI f)), (2, .int (nI t)), (3, .int x1), (4, .int x2), (5, .int x3), (6, .int p6.1)] [.int x7] := by
      refine z_istore ok dX3_goes_208 (hI 7 (by decide)) (lv' := [(7, .int x7), (0, .ref (zad G 47)), (1, .int (nI f)), (2, .int (nI t)), (3, .int x1), (4, .int x2), (5, .int x3), (6, .int p6.1)]) rfl ?_
      refine z_aload_n ok dX3_goes_210 1 rfl ?_
      refine z_iload_n ok dX3_goes_211 2 rfl ?_
      refine z_iconst ok dX3_goes_212 (x := (-1)) (by decide) ?_
      refine z_iconst ok dX3_goes_213 (x := 0) (by decide) ?_
      refine z_iconst ok dX3_goes_214 (x := 0) (by decide) ?_
      refine z_callVv ok old dX3_goes_215 [] (c_X3_lays G N hN hg p6.2 f (by omega) (-1) 0 0) zy_X3_lays zw_537 47 (by omega) (zE_47 G p6.2) rfl rfl rfl rfl rfl (by decide) (Nat.le_of_ble_eq_true rfl) ?_
      replace hT := zlet_open hT
      obtain ⟨w8, hw8, hT⟩ := hT
      rw [← hw8]
      refine z_aload_n ok dX3_goes_218 1 rfl ?_
      refine z_iload_n ok dX3_goes_219 3 rfl ?_
      refine z_iload_n ok dX3_goes_220 4 rfl ?_
      refine z_iload ok dX3_goes_221 5 rfl ?_
      refine z_iconst ok dX3_goes_223 (x := 4) (by decide) ?_
      replace hT := zlet_open hT
      obtain ⟨x9, hx9, hT⟩ := hT
      have hsx9 := hx9.symm
      have hJx9 : zZ k G N w8 238 [(0, .ref (zad G 47)), (1, .int (nI f)), (2, .int (nI t)), (3, .int x1), (4, .int x2), (5, .int x3), (6, .int p6.1), (7, .int x7)] [.int x9, .int x1, .int (nI t), .ref (zad G 47)] := by
        refine z_iload ok dX3_goes_238 6 rfl ?_
        refine z_callVv ok old dX3_goes_240 [] (c_X3_lays G N hN hg w8 t (by omega) x1 x9 p6.1) zy_X3_lays zw_537 47 (by omega) (zE_47 G w8) rfl rfl rfl rfl rfl (by decide) (Nat.le_of_ble_eq_true rfl) ?_
        replace hT := zlet_open hT
        obtain ⟨w10, hw10, hT⟩ := hT
        rw [← hw10]
        exact z_vret ok hE dX3_goes_243 hT
      refine z_icmp_ne ok dX3_goes_224 236 (by decide) (fun c11 => ?_) (fun c11 => ?_)
      · rw [if_neg c11] at hsx9
        refine z_iload ok dX3_goes_236 5 rfl ?_
        rw [← hsx9] at hJx9
        refine z_locs [1, 2, 3, 4, 5, 6, 7, 0] (lv' := [(0, .ref (zad G 47)), (1, .int (nI f)), (2, .int (nI t)), (3, .int x1), (4, .int x2), (5, .int x3), (6, .int p6.1), (7, .int x7)]) rfl ?_
        exact hJx9
      · rw [if_pos c11] at hsx9
        refine z_iload ok dX3_goes_227 0 rfl ?_
        refine z_if_eq ok dX3_goes_229 236 (by decide) (fun c12 => ?_) (fun c12 => ?_)
        · rw [if_pos c12] at hsx9
          refine z_iload ok dX3_goes_236 5 rfl ?_
          rw [← hsx9] at hJx9
          refine z_locs [1, 2, 3, 4, 5, 6, 7, 0] (lv' := [(0, .ref (zad G 47)), (1, .int (nI f)), (2, .int (nI t)), (3, .int x1), (4, .int x2), (5, .int x3), (6, .int p6.1), (7, .int x7)]) rfl ?_
          exact hJx9
        · rw [if_neg c12] at hsx9
          refine z_iconst ok dX3_goes_232 (x := 1) (by decide) ?_
          refine z_goto ok dX3_goes_233 238 (by decide) ?_
          rw [← hsx9] at hJx9
          refine z_locs [1, 2, 3, 4, 5, 6, 7, 0] (lv' := [(0, .ref (zad G 47)), (1, .int (nI f)), (2, .int (nI t)), (3, .int x1), (4, .int x2), (5, .int x3), (6, .int p6.1), (7, .int x7)]) rfl ?_
          exact hJx9
    refine z_icmp_ne ok dX3_goes_200 207 (by decide) (fun c13 => ?_) (fun c13 => ?_)
    · rw [if_neg c13] at hsx7
      refine z_iconst ok dX3_goes_207 (x := 0) (by decide) ?_
      rw [← hsx7] at hJx7
      refine z_locs [0, 1, 2, 3, 4, 5, 6] (lv' := [(0, .ref (zad G 47)), (1, .int (nI f)), (2, .int (nI t)), (3, .int x1), (4, .int x2), (5, .int x3), (6, .int p6.1)]) rfl ?_
      exact hJx7
    · rw [if_pos c13] at hsx7
      refine z_iconst ok dX3_goes_203 (x := 1) (by decide) ?_
      refine z_goto ok dX3_goes_204 208 (by decide) ?_
      rw [← hsx7] at hJx7
      refine z_locs [0, 1, 2, 3, 4, 5, 6] (lv' := [(0, .ref (zad G 47)), (1, .int (nI f)), (2, .int (nI t)), (3, .int x1), (4, .int x2), (5, .int x3), (6, .int p6.1)]) rfl ?_
      exact hJx7
  refine z_icmp_eq ok dX3_goes_64 191 (by decide) (fun c14 => ?_) (fun c14 => ?_)
  · rw [if_pos c14] at hsp6
    rw [← hsp6] at hJp6
    refine z_locs [4, 5, 6, 3, 2, 1, 0] (lv' := [(0, .ref (zad G 47)), (1, .int (nI f)), (2, .int (nI t)), (3, .int x1), (4, .int x2), (5, .int x3), (6, .int x4)]) rfl ?_
    exact hJp6
  · rw [if_neg c14] at hsp6
    refine z_aload_n ok dX3_goes_67 4 rfl ?_
    refine z_get_X3_st ok dX3_goes_68 hN zw_549 ?_
    refine z_bipush ok dX3_goes_71 (x := 72) (by decide) ?_
    refine z_iload_n ok dX3_goes_73 6 rfl ?_
    refine z_iadd_n ok dX3_goes_74 72 t rfl rfl ?_
    refine z_mld48 ok dX3_goes_75 hN (72 + t) rfl (by omega) ?_
    replace hsp6 := zlet_open hsp6
    obtain ⟨x15, hx15, hsp6⟩ := hsp6
    rw [← hx15]
    refine z_istore ok dX3_goes_76 (hI 7 (by decide)) (lv' := [(7, .int x15), (6, .int x4), (5, .int x3), (4, .int x2), (3, .int x1), (0, .ref (zad G 47)), (1, .int (nI f)), (2, .int (nI t))]) rfl ?_
    refine z_iload ok dX3_goes_78 0 rfl ?_
    refine z_iconst ok dX3_goes_80 (x := 2) (by decide) ?_
    refine z_idiv ok dX3_goes_81 (by decide) ?_
    refine z_aload_n ok dX3_goes_82 5 rfl ?_
    refine z_get_X3_st ok dX3_goes_83 hN zw_549 ?_
    refine z_sipush ok dX3_goes_86 (x := 150) (by decide) ?_
    refine z_mld48 ok dX3_goes_89 hN 150 rfl (by omega) ?_
    refine z_iadd ok dX3_goes_90 ?_
    replace hsp6 := zlet_open hsp6
    obtain ⟨x16, hx16, hsp6⟩ := hsp6
    rw [← hx16]
    refine z_istore ok dX3_goes_91 (hI 8 (by decide)) (lv' := [(8, .int x16), (7, .int x15), (6, .int x4), (5, .int x3), (4, .int x2), (3, .int x1), (0, .ref (zad G 47)), (1, .int (nI f)), (2, .int (nI t))]) rfl ?_
    refine z_aload_n ok dX3_goes_93 6 rfl ?_
    refine z_get_X3_st ok dX3_goes_94 hN zw_549 ?_
    refine z_sipush ok dX3_goes_97 (x := 149) (by decide) ?_
    refine z_mld48 ok dX3_goes_100 hN 149 rfl (by omega) ?_
    refine z_iload ok dX3_goes_101 2 rfl ?_
    refine z_iload ok dX3_goes_103 0 rfl ?_
    refine z_iadd ok dX3_goes_105 ?_
    refine z_callSi ok old dX3_goes_106 [] (c_X3_lesser G N hN hg w5 (xg w5 11 149) (x4 + x16)) zy_X3_lesser zw_680 rfl rfl (by decide) (Nat.le_of_ble_eq_true rfl) ?_
    replace hsp6 := zlet_open hsp6
    obtain ⟨x17, hx17, hsp6⟩ := hsp6
    rw [← hx17]
    refine z_istore ok dX3_goes_109 (hI 9 (by decide)) (lv' := [(9, .int x17), (8, .int x16), (7, .int x15), (6, .int x4), (5, .int x3), (4, .int x2), (3, .int x1), (0, .ref (zad G 47)), (1, .int (nI f)), (2, .int (nI t))]) rfl ?_
    refine z_aload_n ok dX3_goes_111 7 rfl ?_
    refine z_get_X3_st ok dX3_goes_112 hN zw_549 ?_
    refine z_sipush ok dX3_goes_115 (x := 154) (by decide) ?_
    refine z_dup2 ok dX3_goes_118 rfl rfl ?_
    refine z_mld48 ok dX3_goes_119 hN 154 rfl (by omega) ?_
    refine z_aload_n ok dX3_goes_120 7 rfl ?_
    refine z_get_X3_st ok dX3_goes_121 hN zw_549 ?_
    refine z_sipush ok dX3_goes_124 (x := 150) (by decide) ?_
    refine z_mld48 ok dX3_goes_127 hN 150 rfl (by omega) ?_
    refine z_iadd ok dX3_goes_128 ?_
    refine z_mst48 ok dX3_goes_129 hN 154 rfl (by omega) ?_
    replace hsp6 := zlet_open hsp6
    obtain ⟨w18, hw18, hsp6⟩ := hsp6
    rw [← hw18]
    refine z_aload_n ok dX3_goes_130 7 rfl ?_
    refine z_get_X3_st ok dX3_goes_131 hN zw_549 ?_
    refine z_sipush ok dX3_goes_134 (x := 156) (by decide) ?_
    refine z_dup2 ok dX3_goes_137 rfl rfl ?_
    refine z_mld48 ok dX3_goes_138 hN 156 rfl (by omega) ?_
    refine z_iload ok dX3_goes_139 2 rfl ?_
    refine z_iload ok dX3_goes_141 2 rfl ?_
    refine z_iconst ok dX3_goes_143 (x := 2) (by decide) ?_
    refine z_idiv ok dX3_goes_144 (by decide) ?_
    refine z_isub ok dX3_goes_145 ?_
    refine z_iload ok dX3_goes_146 3 rfl ?_
    refine z_iadd ok dX3_goes_148 ?_
    refine z_iload ok dX3_goes_149 1 rfl ?_
    refine z_iadd ok dX3_goes_151 ?_
    refine z_iload ok dX3_goes_152 0 rfl ?_
    refine z_isub ok dX3_goes_154 ?_
    refine z_iadd ok dX3_goes_155 ?_
    refine z_mst48 ok dX3_goes_156 hN 156 rfl (by omega) ?_
    replace hsp6 := zlet_open hsp6
    obtain ⟨w19, hw19, hsp6⟩ := hsp6
    rw [← hw19]
    refine z_iload ok dX3_goes_157 0 rfl ?_
    refine z_istore ok dX3_goes_159 (hI 6 (by decide)) (lv' := [(6, .int x17), (9, .int x17), (8, .int x16), (7, .int x15), (5, .int x3), (4, .int x2), (3, .int x1), (0, .ref (zad G 47)), (1, .int (nI f)), (2, .int (nI t))]) rfl ?_
    refine z_aload_n ok dX3_goes_161 7 rfl ?_
    refine z_get_X3_st ok dX3_goes_162 hN zw_549 ?_
    refine z_bipush ok dX3_goes_165 (x := 36) (by decide) ?_
    refine z_iload_n ok dX3_goes_167 9 rfl ?_
    refine z_iadd_n ok dX3_goes_168 36 t rfl rfl ?_
    refine z_mld48 ok dX3_goes_169 hN (36 + t) rfl (by omega) ?_
    replace hsp6 := zlet_open hsp6
    obtain ⟨w20, hw20, hsp6⟩ := hsp6
    have hsw20 := hw20.symm
    have hJw20 : zZ k G N w20 191 [(0, .ref (zad G 47)), (1, .int (nI f)), (2, .int (nI t)), (3, .int x1), (4, .int x2), (5, .int x3), (6, .int x17), (7, .int x15), (8, .int x16), (9, .int x17)] [] := by
      rw [← hsp6] at hJp6
      refine z_locs [0, 1, 2, 3, 4, 5, 6] (lv' := [(0, .ref (zad G 47)), (1, .int (nI f)), (2, .int (nI t)), (3, .int x1), (4, .int x2), (5, .int x3), (6, .int x17)]) rfl ?_
      exact hJp6
    refine z_if_ne ok dX3_goes_170 191 (by decide) (fun c21 => ?_) (fun c21 => ?_)
    · rw [if_neg c21] at hsw20
      rw [← hsw20] at hJw20
      refine z_locs [7, 8, 9, 6, 5, 4, 0, 3, 2, 1] (lv' := [(0, .ref (zad G 47)), (1, .int (nI f)), (2, .int (nI t)), (3, .int x1), (4, .int x2), (5, .int x3), (6, .int x17), (7, .int x15), (8, .int x16), (9, .int x17)]) rfl ?_
      exact hJw20
    · rw [if_pos c21] at hsw20
      refine z_aload_n ok dX3_goes_173 7 rfl ?_
      refine z_get_X3_st ok dX3_goes_174 hN zw_549 ?_
      refine z_sipush ok dX3_goes_177 (x := 145) (by decide) ?_
      refine z_iconst ok dX3_goes_180 (x := 1) (by decide) ?_
      refine z_mst48 ok dX3_goes_181 hN 145 rfl (by omega) ?_
      replace hsw20 := zlet_open hsw20
      obtain ⟨w22, hw22, hsw20⟩ := hsw20
      rw [← hw22]
      refine z_aload_n ok dX3_goes_182 7 rfl ?_
      refine z_get_X3_st ok dX3_goes_183 hN zw_549 ?_
      refine z_sipush ok dX3_goes_186 (x := 146) (by decide) ?_
      refine z_iload_n ok dX3_goes_189 6 rfl ?_
      refine z_mst48 ok dX3_goes_190 hN 146 rfl (by omega) ?_
      replace hsw20 := zlet_open hsw20
      obtain ⟨w23, hw23, hsw20⟩ := hsw20
      rw [← hw23]
      rw [← hsw20] at hJw20
      refine z_locs [7, 8, 9, 6, 5, 4, 0, 3, 2, 1] (lv' := [(0, .ref (zad G 47)), (1, .int (nI f)), (2, .int (nI t)), (3, .int x1), (4, .int x2), (5, .int x3), (6, .int x17), (7, .int x15), (8, .int x16), (9, .int x17)]) rfl ?_
      exact hJw20

def d_X3_turns_20k  (e2_1 : Nat) (ew2 : xW) : xW :=
  ew2
def d_X3_turns_20  (kt2 : Nat → xW → xW) : Nat → Nat → xW → xW
  | 0, _, _ => default
  | n2 + 1, v2_1, vw2 => if 36 ≤ v2_1 then (kt2 v2_1 vw2)
  else (if (xg vw2 11 (108 + v2_1)) = 1 then (if (xg vw2 11 v2_1) = (xg vw2 11 144) then (zlet ((d_X3_lesser vw2 (xg vw2 11 151) ((xg vw2 11 149) - (xg vw2 11 (72 + v2_1))))) fun x6 =>
  zlet (xs vw2 11 (72 + v2_1) ((xg vw2 11 (72 + v2_1)) + x6)) fun w7 =>
  zlet (xs w7 11 153 ((xg w7 11 153) + x6)) fun w8 =>
  d_X3_turns_20  kt2 n2 (v2_1 + 1) w8)
  else (d_X3_turns_20  kt2 n2 (v2_1 + 1) vw2))
  else (d_X3_turns_20  kt2 n2 (v2_1 + 1) vw2))
def d_X3_turns (w : xW)  : xW :=
  zlet (xs w 11 144 (1 - (xg w 11 144))) fun w1 =>
  d_X3_turns_20  d_X3_turns_20k 37 0 w1
set_option maxRecDepth 100000 in
set_option maxHeartbeats 4000000 in
theorem c_X3_turns (G : zG) (N : Nat) (hN : 54 ≤ N) (hg : zGeo G N) (w : xW) : zM yX3_turns cX3_turns 3 none 1 21 G N [.ref (zad G 47)] w none (d_X3_turns w) := by
  generalize hT : d_X3_turns w = u
  unfold d_X3_turns at hT
  refine zM_of zy_X3_turns.2.2.2.2.2.2.2 hg ⟨Nat.le_of_ble_eq_true rfl, by decide⟩ rfl (fun k ok hE hI => ?_)
  have old := hE.old
  refine z_aload_n ok dX3_turns_0 0 rfl ?_
  refine z_get_X3_st ok dX3_turns_1 hN zw_549 ?_
  refine z_sipush ok dX3_turns_4 (x := 144) (by decide) ?_
  refine z_iconst ok dX3_turns_7 (x := 1) (by decide) ?_
  refine z_aload_n ok dX3_turns_8 0 rfl ?_
  refine z_get_X3_st ok dX3_turns_9 hN zw_549 ?_
  refine z_sipush ok dX3_turns_12 (x := 144) (by decide) ?_
  refine z_mld48 ok dX3_turns_15 hN 144 rfl (by omega) ?_
  refine z_isub ok dX3_turns_16 ?_
  refine z_mst48 ok dX3_turns_17 hN 144 rfl (by omega) ?_
  replace hT := zlet_open hT
  obtain ⟨w1, hw1, hT⟩ := hT
  rw [← hw1]
  refine z_iconst ok dX3_turns_18 (x := 0) (by decide) ?_
  refine z_istore_n ok dX3_turns_19 (hI 1 (by decide)) (lv' := [(1, .int 0), (0, .ref (zad G 47))]) rfl ?_
  refine z_locs [1, 0] (lv' := [(0, .ref (zad G 47)), (1, .int 0)]) rfl ?_
  obtain ⟨kt2, hkt2⟩ : ∃ z, z = d_X3_turns_20k := ⟨_, rfl⟩
  rw [← hkt2] at hT
  have hk2 : ∀ (e2_1 : Nat) (ew2 : xW), e2_1 ≤ 36 → kt2 e2_1 ew2 = u → zZ k G N ew2 119 [(0, .ref (zad G 47)), (1, .int (nI e2_1))] [] := by
    intro e2_1 ew2 q2_0 hT2
    rw [hkt2, d_X3_turns_20k] at hT2
    exact z_vret ok hE dX3_turns_119 hT2
  have hl2 : ∀ (n2 : Nat) (v2_1 : Nat) (vw2 : xW), 36 < v2_1 + n2 → v2_1 ≤ 36 → d_X3_turns_20  kt2 n2 v2_1 vw2 = u → zZ k G N vw2 20 [(0, .ref (zad G 47)), (1, .int (nI v2_1))] [] := by
    intro n2
    induction n2 with
    | zero =>
      intro v2_1 vw2 q2_0 q2_1
      exact absurd q2_0 (by omega)
    | succ n2 ih2 =>
      intro v2_1 vw2 q2_0 q2_1 hT2
      rw [d_X3_turns_20] at hT2
      refine z_iload_n ok dX3_turns_20 1 rfl ?_
      refine z_bipush ok dX3_turns_21 (x := 36) (by decide) ?_
      refine z_icmp_ge_n ok dX3_turns_23 119 (by decide) v2_1 36 rfl rfl (by omega) (fun c3 => ?_) (fun c3 => ?_)
      · rw [if_pos c3] at hT2
        refine z_locs [0, 1] (lv' := [(0, .ref (zad G 47)), (1, .int (nI v2_1))]) rfl ?_
        exact hk2 v2_1 vw2 (by omega) hT2
      · rw [if_neg c3] at hT2
        refine z_aload_n ok dX3_turns_26 0 rfl ?_
        refine z_get_X3_st ok dX3_turns_27 hN zw_549 ?_
        refine z_bipush ok dX3_turns_30 (x := 108) (by decide) ?_
        refine z_iload_n ok dX3_turns_32 1 rfl ?_
        refine z_iadd_n ok dX3_turns_33 108 v2_1 rfl rfl ?_
        refine z_mld48 ok dX3_turns_34 hN (108 + v2_1) rfl (by omega) ?_
        refine z_iconst ok dX3_turns_35 (x := 1) (by decide) ?_
        refine z_icmp_ne ok dX3_turns_36 113 (by decide) (fun c4 => ?_) (fun c4 => ?_)
        · rw [if_neg c4] at hT2
          refine z_iinc ok dX3_turns_113 (hI 1 (by decide)) 1 rfl (y := (nI (v2_1 + 1))) (z_incn v2_1 1) (lv' := [(1, .int (nI (v2_1 + 1))), (0, .ref (zad G 47))]) rfl ?_
          refine z_goto ok dX3_turns_116 20 (by decide) ?_
          refine z_locs [1, 0] (lv' := [(0, .ref (zad G 47)), (1, .int (nI (v2_1 + 1)))]) rfl ?_
          exact ih2 (v2_1 + 1) vw2 (by omega) (by omega) hT2
        · rw [if_pos c4] at hT2
          refine z_aload_n ok dX3_turns_39 0 rfl ?_
          refine z_get_X3_st ok dX3_turns_40 hN zw_549 ?_
          refine z_iconst ok dX3_turns_43 (x := 0) (by decide) ?_
          refine z_iload_n ok dX3_turns_44 1 rfl ?_
          refine z_iadd_0 ok dX3_turns_45 ?_
          refine z_mld48 ok dX3_turns_46 hN v2_1 rfl (by omega) ?_
          refine z_aload_n ok dX3_turns_47 0 rfl ?_
          refine z_get_X3_st ok dX3_turns_48 hN zw_549 ?_
          refine z_sipush ok dX3_turns_51 (x := 144) (by decide) ?_
          refine z_mld48 ok dX3_turns_54 hN 144 rfl (by omega) ?_
          refine z_icmp_ne ok dX3_turns_55 113 (by decide) (fun c5 => ?_) (fun c5 => ?_)
          · rw [if_neg c5] at hT2
            refine z_iinc ok dX3_turns_113 (hI 1 (by decide)) 1 rfl (y := (nI (v2_1 + 1))) (z_incn v2_1 1) (lv' := [(1, .int (nI (v2_1 + 1))), (0, .ref (zad G 47))]) rfl ?_
            refine z_goto ok dX3_turns_116 20 (by decide) ?_
            refine z_locs [1, 0] (lv' := [(0, .ref (zad G 47)), (1, .int (nI (v2_1 + 1)))]) rfl ?_
            exact ih2 (v2_1 + 1) vw2 (by omega) (by omega) hT2
          · rw [if_pos c5] at hT2
            refine z_aload_n ok dX3_turns_58 0 rfl ?_
            refine z_get_X3_st ok dX3_turns_59 hN zw_549 ?_
            refine z_sipush ok dX3_turns_62 (x := 151) (by decide) ?_
            refine z_mld48 ok dX3_turns_65 hN 151 rfl (by omega) ?_
            refine z_aload_n ok dX3_turns_66 0 rfl ?_
            refine z_get_X3_st ok dX3_turns_67 hN zw_549 ?_
            refine z_sipush ok dX3_turns_70 (x := 149) (by decide) ?_
            refine z_mld48 ok dX3_turns_73 hN 149 rfl (by omega) ?_
            refine z_aload_n ok dX3_turns_74 0 rfl ?_
            refine z_get_X3_st ok dX3_turns_75 hN zw_549 ?_
            refine z_bipush ok dX3_turns_78 (x := 72) (by decide) ?_
            refine z_iload_n ok dX3_turns_80 1 rfl ?_
            refine z_iadd_n ok dX3_turns_81 72 v2_1 rfl rfl ?_
            refine z_mld48 ok dX3_turns_82 hN (72 + v2_1) rfl (by omega) ?_
            refine z_isub ok dX3_turns_83 ?_
            refine z_callSi ok old dX3_turns_84 [] (c_X3_lesser G N hN hg vw2 (xg vw2 11 151) ((xg vw2 11 149) - (xg vw2 11 (72 + v2_1)))) zy_X3_lesser zw_680 rfl rfl (by decide) (Nat.le_of_ble_eq_true rfl) ?_
            replace hT2 := zlet_open hT2
            obtain ⟨x6, hx6, hT2⟩ := hT2
            rw [← hx6]
            refine z_istore_n ok dX3_turns_87 (hI 2 (by decide)) (lv' := [(2, .int x6), (0, .ref (zad G 47)), (1, .int (nI v2_1))]) rfl ?_
            refine z_aload_n ok dX3_turns_88 1 rfl ?_
            refine z_get_X3_st ok dX3_turns_89 hN zw_549 ?_
            refine z_bipush ok dX3_turns_92 (x := 72) (by decide) ?_
            refine z_iload_n ok dX3_turns_94 2 rfl ?_
            refine z_iadd_n ok dX3_turns_95 72 v2_1 rfl rfl ?_
            refine z_dup2 ok dX3_turns_96 rfl rfl ?_
            refine z_mld48 ok dX3_turns_97 hN (72 + v2_1) rfl (by omega) ?_
            refine z_iload_n ok dX3_turns_98 0 rfl ?_
            refine z_iadd ok dX3_turns_99 ?_
            refine z_mst48 ok dX3_turns_100 hN (72 + v2_1) rfl (by omega) ?_
            replace hT2 := zlet_open hT2
            obtain ⟨w7, hw7, hT2⟩ := hT2
            rw [← hw7]
            refine z_aload_n ok dX3_turns_101 1 rfl ?_
            refine z_get_X3_st ok dX3_turns_102 hN zw_549 ?_
            refine z_sipush ok dX3_turns_105 (x := 153) (by decide) ?_
            refine z_dup2 ok dX3_turns_108 rfl rfl ?_
            refine z_mld48 ok dX3_turns_109 hN 153 rfl (by omega) ?_
            refine z_iload_n ok dX3_turns_110 0 rfl ?_
            refine z_iadd ok dX3_turns_111 ?_
            refine z_mst48 ok dX3_turns_112 hN 153 rfl (by omega) ?_
            replace hT2 := zlet_open hT2
            obtain ⟨w8, hw8, hT2⟩ := hT2
            rw [← hw8]
            refine z_iinc ok dX3_turns_113 (hI 1 (by decide)) 2 rfl (y := (nI (v2_1 + 1))) (z_incn v2_1 1) (lv' := [(1, .int (nI (v2_1 + 1))), (2, .int x6), (0, .ref (zad G 47))]) rfl ?_
            refine z_goto ok dX3_turns_116 20 (by decide) ?_
            refine z_locs [2, 0] (lv' := [(0, .ref (zad G 47)), (1, .int (nI (v2_1 + 1)))]) rfl ?_
            exact ih2 (v2_1 + 1) w8 (by omega) (by omega) hT2
  exact hl2 37 0 w1 (by omega) (by omega) hT

def d_X3_makes (w : xW) (f : Nat) (t : Nat) : xW :=
  zlet (d_X3_goes w f t) fun w1 =>
  zlet (xs w1 11 147 ((xg w1 11 147) + 1)) fun w2 =>
  zlet (xs w2 11 148 0) fun w3 =>
  if (xg w3 11 145) = 0 then (zlet (d_X3_turns w3) fun w5 =>
  w5)
  else (w3)
set_option maxRecDepth 100000 in
set_option maxHeartbeats 4000000 in
theorem c_X3_makes (G : zG) (N : Nat) (hN : 54 ≤ N) (hg : zGeo G N) (w : xW) (f : Nat) (h_f : f < 36) (t : Nat) (h_t : t < 36) : zM yX3_makes cX3_makes 3 none 5 123 G N [.ref (zad G 47), .int (nI f), .int (nI t)] w none (d_X3_makes w f t) := by
  generalize hT : d_X3_makes w f t = u
  unfold d_X3_makes at hT
  refine zM_of zy_X3_makes.2.2.2.2.2.2.2 hg ⟨Nat.le_of_ble_eq_true rfl, by decide⟩ rfl (fun k ok hE hI => ?_)
  have old := hE.old
  refine z_aload_n ok dX3_makes_0 0 rfl ?_
  refine z_iload_n ok dX3_makes_1 1 rfl ?_
  refine z_iload_n ok dX3_makes_2 2 rfl ?_
  refine z_callVv ok old dX3_makes_3 [] (c_X3_goes G N hN hg w f (by omega) t (by omega)) zy_X3_goes zw_676 47 (by omega) (zE_47 G w) rfl rfl rfl rfl rfl (by decide) (Nat.le_of_ble_eq_true rfl) ?_
  replace hT := zlet_open hT
  obtain ⟨w1, hw1, hT⟩ := hT
  rw [← hw1]
  refine z_aload_n ok dX3_makes_6 0 rfl ?_
  refine z_get_X3_st ok dX3_makes_7 hN zw_549 ?_
  refine z_sipush ok dX3_makes_10 (x := 147) (by decide) ?_
  refine z_dup2 ok dX3_makes_13 rfl rfl ?_
  refine z_mld48 ok dX3_makes_14 hN 147 rfl (by omega) ?_
  refine z_iconst ok dX3_makes_15 (x := 1) (by decide) ?_
  refine z_iadd ok dX3_makes_16 ?_
  refine z_mst48 ok dX3_makes_17 hN 147 rfl (by omega) ?_
  replace hT := zlet_open hT
  obtain ⟨w2, hw2, hT⟩ := hT
  rw [← hw2]
  refine z_aload_n ok dX3_makes_18 0 rfl ?_
  refine z_get_X3_st ok dX3_makes_19 hN zw_549 ?_
  refine z_sipush ok dX3_makes_22 (x := 148) (by decide) ?_
  refine z_iconst ok dX3_makes_25 (x := 0) (by decide) ?_
  refine z_mst48 ok dX3_makes_26 hN 148 rfl (by omega) ?_
  replace hT := zlet_open hT
  obtain ⟨w3, hw3, hT⟩ := hT
  rw [← hw3]
  refine z_aload_n ok dX3_makes_27 0 rfl ?_
  refine z_get_X3_st ok dX3_makes_28 hN zw_549 ?_
  refine z_sipush ok dX3_makes_31 (x := 145) (by decide) ?_
  refine z_mld48 ok dX3_makes_34 hN 145 rfl (by omega) ?_
  refine z_if_ne ok dX3_makes_35 42 (by decide) (fun c4 => ?_) (fun c4 => ?_)
  · rw [if_neg c4] at hT
    exact z_vret ok hE dX3_makes_42 hT
  · rw [if_pos c4] at hT
    refine z_aload_n ok dX3_makes_38 0 rfl ?_
    refine z_callVv ok old dX3_makes_39 [] (c_X3_turns G N hN hg w3 ) zy_X3_turns zw_683 47 (by omega) (zE_47 G w3) rfl rfl rfl rfl rfl (by decide) (Nat.le_of_ble_eq_true rfl) ?_
    replace hT := zlet_open hT
    obtain ⟨w5, hw5, hT⟩ := hT
    rw [← hw5]
    exact z_vret ok hE dX3_makes_42 hT

def d_X3_passes (w : xW)  : xW :=
  zlet (xs w 11 147 ((xg w 11 147) + 1)) fun w1 =>
  if (xg w1 11 148) = 1 then (zlet (xs w1 11 145 2) fun w5 =>
  zlet (((d_X3_springs w5 0) - (d_X3_springs w5 1))) fun x6 =>
  zlet (if x6 ≤ 0 then (if 0 ≤ x6 then ((-1))
  else (1))
  else (0) : Int32) fun x7 =>
  zlet (xs w5 11 146 x7) fun w8 =>
  w8)
  else (zlet (xs w1 11 148 1) fun w3 =>
  zlet (d_X3_turns w3) fun w4 =>
  w4)
set_option maxRecDepth 100000 in
set_option maxHeartbeats 4000000 in
theorem c_X3_passes (G : zG) (N : Nat) (hN : 54 ≤ N) (hg : zGeo G N) (w : xW) : zM yX3_passes cX3_passes 2 none 2 43 G N [.ref (zad G 47)] w none (d_X3_passes w) := by
  generalize hT : d_X3_passes w = u
  unfold d_X3_passes at hT
  refine zM_of zy_X3_passes.2.2.2.2.2.2.2 hg ⟨Nat.le_of_ble_eq_true rfl, by decide⟩ rfl (fun k ok hE hI => ?_)
  have old := hE.old
  refine z_aload_n ok dX3_passes_0 0 rfl ?_
  refine z_get_X3_st ok dX3_passes_1 hN zw_549 ?_
  refine z_sipush ok dX3_passes_4 (x := 147) (by decide) ?_
  refine z_dup2 ok dX3_passes_7 rfl rfl ?_
  refine z_mld48 ok dX3_passes_8 hN 147 rfl (by omega) ?_
  refine z_iconst ok dX3_passes_9 (x := 1) (by decide) ?_
  refine z_iadd ok dX3_passes_10 ?_
  refine z_mst48 ok dX3_passes_11 hN 147 rfl (by omega) ?_
  replace hT := zlet_open hT
  obtain ⟨w1, hw1, hT⟩ := hT
  rw [← hw1]
  refine z_aload_n ok dX3_passes_12 0 rfl ?_
  refine z_get_X3_st ok dX3_passes_13 hN zw_549 ?_
  refine z_sipush ok dX3_passes_16 (x := 148) (by decide) ?_
  refine z_mld48 ok dX3_passes_19 hN 148 rfl (by omega) ?_
  refine z_iconst ok dX3_passes_20 (x := 1) (by decide) ?_
  refine z_icmp_ne ok dX3_passes_21 73 (by decide) (fun c2 => ?_) (fun c2 => ?_)
  · rw [if_neg c2] at hT
    refine z_aload_n ok dX3_passes_73 0 rfl ?_
    refine z_get_X3_st ok dX3_passes_74 hN zw_549 ?_
    refine z_sipush ok dX3_passes_77 (x := 148) (by decide) ?_
    refine z_iconst ok dX3_passes_80 (x := 1) (by decide) ?_
    refine z_mst48 ok dX3_passes_81 hN 148 rfl (by omega) ?_
    replace hT := zlet_open hT
    obtain ⟨w3, hw3, hT⟩ := hT
    rw [← hw3]
    refine z_aload_n ok dX3_passes_82 0 rfl ?_
    refine z_callVv ok old dX3_passes_83 [] (c_X3_turns G N hN hg w3 ) zy_X3_turns zw_683 47 (by omega) (zE_47 G w3) rfl rfl rfl rfl rfl (by decide) (Nat.le_of_ble_eq_true rfl) ?_
    replace hT := zlet_open hT
    obtain ⟨w4, hw4, hT⟩ := hT
    rw [← hw4]
    exact z_vret ok hE dX3_passes_86 hT
  · rw [if_pos c2] at hT
    refine z_aload_n ok dX3_passes_24 0 rfl ?_
    refine z_get_X3_st ok dX3_passes_25 hN zw_549 ?_
    refine z_sipush ok dX3_passes_28 (x := 145) (by decide) ?_
    refine z_iconst ok dX3_passes_31 (x := 2) (by decide) ?_
    refine z_mst48 ok dX3_passes_32 hN 145 rfl (by omega) ?_
    replace hT := zlet_open hT
    obtain ⟨w5, hw5, hT⟩ := hT
    rw [← hw5]
    refine z_aload_n ok dX3_passes_33 0 rfl ?_
    refine z_iconst ok dX3_passes_34 (x := 0) (by decide) ?_
    refine z_callVi ok old dX3_passes_35 [] (c_X3_springs G N hN hg w5 0) zy_X3_springs zw_545 47 (by omega) (zE_47 G w5) rfl rfl rfl rfl rfl (by decide) (Nat.le_of_ble_eq_true rfl) ?_
    refine z_aload_n ok dX3_passes_38 0 rfl ?_
    refine z_iconst ok dX3_passes_39 (x := 1) (by decide) ?_
    refine z_callVi ok old dX3_passes_40 [.int (d_X3_springs w5 0)] (c_X3_springs G N hN hg w5 1) zy_X3_springs zw_545 47 (by omega) (zE_47 G w5) rfl rfl rfl rfl rfl (by decide) (Nat.le_of_ble_eq_true rfl) ?_
    refine z_isub ok dX3_passes_43 ?_
    replace hT := zlet_open hT
    obtain ⟨x6, hx6, hT⟩ := hT
    rw [← hx6]
    refine z_istore_n ok dX3_passes_44 (hI 1 (by decide)) (lv' := [(1, .int x6), (0, .ref (zad G 47))]) rfl ?_
    refine z_aload_n ok dX3_passes_45 1 rfl ?_
    refine z_get_X3_st ok dX3_passes_46 hN zw_549 ?_
    refine z_sipush ok dX3_passes_49 (x := 146) (by decide) ?_
    refine z_iload_n ok dX3_passes_52 0 rfl ?_
    replace hT := zlet_open hT
    obtain ⟨x7, hx7, hT⟩ := hT
    have hsx7 := hx7.symm
    have hJx7 : zZ k G N w5 69 [(0, .ref (zad G 47)), (1, .int x6)] [.int x7, .int 146, .ref (zad G 48)] := by
      refine z_mst48 ok dX3_passes_69 hN 146 rfl (by omega) ?_
      replace hT := zlet_open hT
      obtain ⟨w8, hw8, hT⟩ := hT
      rw [← hw8]
      refine z_goto ok dX3_passes_70 86 (by decide) ?_
      exact z_vret ok hE dX3_passes_86 hT
    refine z_if_le ok dX3_passes_53 60 (by decide) (fun c9 => ?_) (fun c9 => ?_)
    · rw [if_pos c9] at hsx7
      refine z_iload_n ok dX3_passes_60 0 rfl ?_
      refine z_if_ge ok dX3_passes_61 68 (by decide) (fun c10 => ?_) (fun c10 => ?_)
      · rw [if_pos c10] at hsx7
        refine z_iconst ok dX3_passes_68 (x := (-1)) (by decide) ?_
        rw [← hsx7] at hJx7
        refine z_locs [1, 0] (lv' := [(0, .ref (zad G 47)), (1, .int x6)]) rfl ?_
        exact hJx7
      · rw [if_neg c10] at hsx7
        refine z_iconst ok dX3_passes_64 (x := 1) (by decide) ?_
        refine z_goto ok dX3_passes_65 69 (by decide) ?_
        rw [← hsx7] at hJx7
        refine z_locs [1, 0] (lv' := [(0, .ref (zad G 47)), (1, .int x6)]) rfl ?_
        exact hJx7
    · rw [if_neg c9] at hsx7
      refine z_iconst ok dX3_passes_56 (x := 0) (by decide) ?_
      refine z_goto ok dX3_passes_57 69 (by decide) ?_
      rw [← hsx7] at hJx7
      refine z_locs [1, 0] (lv' := [(0, .ref (zad G 47)), (1, .int x6)]) rfl ?_
      exact hJx7

def d_X3_refuses (w : xW) (f : Nat) (t : Nat) : Int32 :=
  if (xg w 11 145) ≤ 0 then (if (xg w 11 f) = (-1) then (3)
  else (if (xg w 11 f) = (xg w 11 144) then (if (xg w 11 t) = (xg w 11 144) then (5)
  else (if 0 ≤ (d_X3_costOf w f t) then (if (d_X3_canGo w f t) = 0 then (7)
  else (0))
  else (6)))
  else (4)))
  else (2)
set_option maxRecDepth 100000 in
set_option maxHeartbeats 4000000 in
theorem c_X3_refuses (G : zG) (N : Nat) (hN : 54 ≤ N) (hg : zGeo G N) (w : xW) (f : Nat) (h_f : f < 36) (t : Nat) (h_t : t < 36) : zM yX3_refuses cX3_refuses 3 (some .int) 5 117 G N [.ref (zad G 47), .int (nI f), .int (nI t)] w (some (d_X3_refuses w f t)) w := by
  generalize hT : d_X3_refuses w f t = r
  unfold d_X3_refuses at hT
  refine zM_of zy_X3_refuses.2.2.2.2.2.2.2 hg ⟨Nat.le_of_ble_eq_true rfl, by decide⟩ rfl (fun k ok hE hI => ?_)
  have old := hE.old
  refine z_aload_n ok dX3_refuses_0 0 rfl ?_
  refine z_get_X3_st ok dX3_refuses_1 hN zw_549 ?_
  refine z_sipush ok dX3_refuses_4 (x := 145) (by decide) ?_
  refine z_mld48 ok dX3_refuses_7 hN 145 rfl (by omega) ?_
  refine z_if_le ok dX3_refuses_8 13 (by decide) (fun c1 => ?_) (fun c1 => ?_)
  · rw [if_pos c1] at hT
    refine z_aload_n ok dX3_refuses_13 0 rfl ?_
    refine z_get_X3_st ok dX3_refuses_14 hN zw_549 ?_
    refine z_iconst ok dX3_refuses_17 (x := 0) (by decide) ?_
    refine z_iload_n ok dX3_refuses_18 1 rfl ?_
    refine z_iadd_0 ok dX3_refuses_19 ?_
    refine z_mld48 ok dX3_refuses_20 hN f rfl (by omega) ?_
    refine z_iconst ok dX3_refuses_21 (x := (-1)) (by decide) ?_
    refine z_icmp_ne ok dX3_refuses_22 27 (by decide) (fun c2 => ?_) (fun c2 => ?_)
    · rw [if_neg c2] at hT
      refine z_aload_n ok dX3_refuses_27 0 rfl ?_
      refine z_get_X3_st ok dX3_refuses_28 hN zw_549 ?_
      refine z_iconst ok dX3_refuses_31 (x := 0) (by decide) ?_
      refine z_iload_n ok dX3_refuses_32 1 rfl ?_
      refine z_iadd_0 ok dX3_refuses_33 ?_
      refine z_mld48 ok dX3_refuses_34 hN f rfl (by omega) ?_
      refine z_aload_n ok dX3_refuses_35 0 rfl ?_
      refine z_get_X3_st ok dX3_refuses_36 hN zw_549 ?_
      refine z_sipush ok dX3_refuses_39 (x := 144) (by decide) ?_
      refine z_mld48 ok dX3_refuses_42 hN 144 rfl (by omega) ?_
      refine z_icmp_eq ok dX3_refuses_43 48 (by decide) (fun c3 => ?_) (fun c3 => ?_)
      · rw [if_pos c3] at hT
        refine z_aload_n ok dX3_refuses_48 0 rfl ?_
        refine z_get_X3_st ok dX3_refuses_49 hN zw_549 ?_
        refine z_iconst ok dX3_refuses_52 (x := 0) (by decide) ?_
        refine z_iload_n ok dX3_refuses_53 2 rfl ?_
        refine z_iadd_0 ok dX3_refuses_54 ?_
        refine z_mld48 ok dX3_refuses_55 hN t rfl (by omega) ?_
        refine z_aload_n ok dX3_refuses_56 0 rfl ?_
        refine z_get_X3_st ok dX3_refuses_57 hN zw_549 ?_
        refine z_sipush ok dX3_refuses_60 (x := 144) (by decide) ?_
        refine z_mld48 ok dX3_refuses_63 hN 144 rfl (by omega) ?_
        refine z_icmp_ne ok dX3_refuses_64 69 (by decide) (fun c4 => ?_) (fun c4 => ?_)
        · rw [if_neg c4] at hT
          refine z_aload_n ok dX3_refuses_69 0 rfl ?_
          refine z_iload_n ok dX3_refuses_70 1 rfl ?_
          refine z_iload_n ok dX3_refuses_71 2 rfl ?_
          refine z_callVi ok old dX3_refuses_72 [] (c_X3_costOf G N hN hg w f (by omega) t (by omega)) zy_X3_costOf zw_638 47 (by omega) (zE_47 G w) rfl rfl rfl rfl rfl (by decide) (Nat.le_of_ble_eq_true rfl) ?_
          refine z_if_ge ok dX3_refuses_75 83 (by decide) (fun c5 => ?_) (fun c5 => ?_)
          · rw [if_pos c5] at hT
            refine z_aload_n ok dX3_refuses_83 0 rfl ?_
            refine z_iload_n ok dX3_refuses_84 1 rfl ?_
            refine z_iload_n ok dX3_refuses_85 2 rfl ?_
            refine z_callVi ok old dX3_refuses_86 [] (c_X3_canGo G N hN hg w f (by omega) t (by omega)) zy_X3_canGo zw_634 47 (by omega) (zE_47 G w) rfl rfl rfl rfl rfl (by decide) (Nat.le_of_ble_eq_true rfl) ?_
            refine z_if_eq ok dX3_refuses_89 96 (by decide) (fun c6 => ?_) (fun c6 => ?_)
            · rw [if_pos c6] at hT
              refine z_bipush ok dX3_refuses_96 (x := 7) (by decide) ?_
              exact z_iret ok hE dX3_refuses_98 rfl ⟨hT, rfl⟩
            · rw [if_neg c6] at hT
              refine z_iconst ok dX3_refuses_92 (x := 0) (by decide) ?_
              refine z_goto ok dX3_refuses_93 98 (by decide) ?_
              exact z_iret ok hE dX3_refuses_98 rfl ⟨hT, rfl⟩
          · rw [if_neg c5] at hT
            refine z_bipush ok dX3_refuses_78 (x := 6) (by decide) ?_
            refine z_goto ok dX3_refuses_80 98 (by decide) ?_
            exact z_iret ok hE dX3_refuses_98 rfl ⟨hT, rfl⟩
        · rw [if_pos c4] at hT
          refine z_iconst ok dX3_refuses_67 (x := 5) (by decide) ?_
          exact z_iret ok hE dX3_refuses_68 rfl ⟨hT, rfl⟩
      · rw [if_neg c3] at hT
        refine z_iconst ok dX3_refuses_46 (x := 4) (by decide) ?_
        exact z_iret ok hE dX3_refuses_47 rfl ⟨hT, rfl⟩
    · rw [if_pos c2] at hT
      refine z_iconst ok dX3_refuses_25 (x := 3) (by decide) ?_
      exact z_iret ok hE dX3_refuses_26 rfl ⟨hT, rfl⟩
  · rw [if_neg c1] at hT
    refine z_iconst ok dX3_refuses_11 (x := 2) (by decide) ?_
    exact z_iret ok hE dX3_refuses_12 rfl ⟨hT, rfl⟩

def d_X3_refusesPass (w : xW)  : Int32 :=
  if (xg w 11 145) ≤ 0 then (if (d_X3_movesOf w (xg w 11 144)) ≤ 0 then (0)
  else (8))
  else (2)
set_option maxRecDepth 100000 in
set_option maxHeartbeats 4000000 in
theorem c_X3_refusesPass (G : zG) (N : Nat) (hN : 54 ≤ N) (hg : zGeo G N) (w : xW) : zM yX3_refusesPass cX3_refusesPass 1 (some .int) 7 163 G N [.ref (zad G 47)] w (some (d_X3_refusesPass w)) w := by
  generalize hT : d_X3_refusesPass w = r
  unfold d_X3_refusesPass at hT
  refine zM_of zy_X3_refusesPass.2.2.2.2.2.2.2 hg ⟨Nat.le_of_ble_eq_true rfl, by decide⟩ rfl (fun k ok hE hI => ?_)
  have old := hE.old
  refine z_aload_n ok dX3_refusesPass_0 0 rfl ?_
  refine z_get_X3_st ok dX3_refusesPass_1 hN zw_549 ?_
  refine z_sipush ok dX3_refusesPass_4 (x := 145) (by decide) ?_
  refine z_mld48 ok dX3_refusesPass_7 hN 145 rfl (by omega) ?_
  refine z_if_le ok dX3_refusesPass_8 15 (by decide) (fun c1 => ?_) (fun c1 => ?_)
  · rw [if_pos c1] at hT
    refine z_aload_n ok dX3_refusesPass_15 0 rfl ?_
    refine z_aload_n ok dX3_refusesPass_16 0 rfl ?_
    refine z_get_X3_st ok dX3_refusesPass_17 hN zw_549 ?_
    refine z_sipush ok dX3_refusesPass_20 (x := 144) (by decide) ?_
    refine z_mld48 ok dX3_refusesPass_23 hN 144 rfl (by omega) ?_
    refine z_callVi ok old dX3_refusesPass_24 [] (c_X3_movesOf G N hN hg w (xg w 11 144)) zy_X3_movesOf zw_695 47 (by omega) (zE_47 G w) rfl rfl rfl rfl rfl (by decide) (Nat.le_of_ble_eq_true rfl) ?_
    refine z_if_le ok dX3_refusesPass_27 35 (by decide) (fun c2 => ?_) (fun c2 => ?_)
    · rw [if_pos c2] at hT
      refine z_iconst ok dX3_refusesPass_35 (x := 0) (by decide) ?_
      exact z_iret ok hE dX3_refusesPass_36 rfl ⟨hT, rfl⟩
    · rw [if_neg c2] at hT
      refine z_bipush ok dX3_refusesPass_30 (x := 8) (by decide) ?_
      refine z_goto ok dX3_refusesPass_32 36 (by decide) ?_
      exact z_iret ok hE dX3_refusesPass_36 rfl ⟨hT, rfl⟩
  · rw [if_neg c1] at hT
    refine z_iconst ok dX3_refusesPass_11 (x := 2) (by decide) ?_
    refine z_goto ok dX3_refusesPass_12 36 (by decide) ?_
    exact z_iret ok hE dX3_refusesPass_36 rfl ⟨hT, rfl⟩

def d_X3_move (w : xW) (frm : Int32) (dst : Int32) : Int32 × xW :=
  if (d_X3_isCell w frm) = 0 then (((-1), w))
  else (if (d_X3_isCell w dst) = 0 then (((-1), w))
  else (zlet frm.toNatClampNeg fun c_frm =>
  zlet dst.toNatClampNeg fun c_dst =>
  if (d_X3_refuses w c_frm c_dst) = 0 then (zlet (d_X3_records w) fun w4 =>
  zlet ((d_X3_costOf w4 c_frm c_dst)) fun x5 =>
  zlet (d_X3_makes w4 c_frm c_dst) fun w6 =>
  (x5, w6))
  else (((-2), w))))
set_option maxRecDepth 100000 in
set_option maxHeartbeats 4000000 in
theorem c_X3_move (G : zG) (N : Nat) (hN : 54 ≤ N) (hg : zGeo G N) (w : xW) (frm : Int32) (dst : Int32) (h_p : (∃ p, p ≤ 5 ∧ xg w 17 0 = nI p)) : zM yX3_move cX3_move 4 (some .int) 6 145 G N [.ref (zad G 47), .int frm, .int dst] w (some (d_X3_move w frm dst).1) (d_X3_move w frm dst).2 := by
  obtain ⟨r, u, hT⟩ := zpair (d_X3_move w frm dst)
  rw [hT]
  dsimp only
  unfold d_X3_move at hT
  refine zM_of zy_X3_move.2.2.2.2.2.2.2 hg ⟨Nat.le_of_ble_eq_true rfl, by decide⟩ rfl (fun k ok hE hI => ?_)
  have old := hE.old
  refine z_iload_n ok dX3_move_0 1 rfl ?_
  refine z_callSi ok old dX3_move_1 [] (c_X3_isCell G N hN hg w frm) zy_X3_isCell zw_615 rfl rfl (by decide) (Nat.le_of_ble_eq_true rfl) ?_
  refine z_if_eq ok dX3_move_4 14 (by decide) (fun c1 => ?_) (fun c1 => ?_)
  · rw [if_pos c1] at hT
    refine z_iconst ok dX3_move_14 (x := (-1)) (by decide) ?_
    exact z_iret ok hE dX3_move_15 rfl ⟨congrArg Prod.fst hT, congrArg Prod.snd hT⟩
  · rw [if_neg c1] at hT
    refine z_iload_n ok dX3_move_7 2 rfl ?_
    refine z_callSi ok old dX3_move_8 [] (c_X3_isCell G N hN hg w dst) zy_X3_isCell zw_615 rfl rfl (by decide) (Nat.le_of_ble_eq_true rfl) ?_
    refine z_if_ne ok dX3_move_11 16 (by decide) (fun c2 => ?_) (fun c2 => ?_)
    · rw [if_neg c2] at hT
      replace hT := zlet_open hT
      obtain ⟨c_frm, hc_frm, hT⟩ := hT
      obtain ⟨lc_frm, ec_frm⟩ := zcellx (zisCell3 (by assumption)) hc_frm
      subst ec_frm
      replace hT := zlet_open hT
      obtain ⟨c_dst, hc_dst, hT⟩ := hT
      obtain ⟨lc_dst, ec_dst⟩ := zcellx (zisCell3 (by assumption)) hc_dst
      subst ec_dst
      refine z_aload_n ok dX3_move_16 0 rfl ?_
      refine z_iload_n ok dX3_move_17 1 rfl ?_
      refine z_iload_n ok dX3_move_18 2 rfl ?_
      refine z_callVi ok old dX3_move_19 [] (c_X3_refuses G N hN hg w c_frm (by omega) c_dst (by omega)) zy_X3_refuses zw_668 47 (by omega) (zE_47 G w) rfl rfl rfl rfl rfl (by decide) (Nat.le_of_ble_eq_true rfl) ?_
      refine z_if_eq ok dX3_move_22 28 (by decide) (fun c3 => ?_) (fun c3 => ?_)
      · rw [if_pos c3] at hT
        refine z_aload_n ok dX3_move_28 0 rfl ?_
        refine z_callVv ok old dX3_move_29 [] (c_X3_records G N hN hg w (by first | assumption | omega)) zy_X3_records zw_597 47 (by omega) (zE_47 G w) rfl rfl rfl rfl rfl (by decide) (Nat.le_of_ble_eq_true rfl) ?_
        replace hT := zlet_open hT
        obtain ⟨w4, hw4, hT⟩ := hT
        rw [← hw4]
        refine z_aload_n ok dX3_move_32 0 rfl ?_
        refine z_iload_n ok dX3_move_33 1 rfl ?_
        refine z_iload_n ok dX3_move_34 2 rfl ?_
        refine z_callVi ok old dX3_move_35 [] (c_X3_costOf G N hN hg w4 c_frm (by omega) c_dst (by omega)) zy_X3_costOf zw_638 47 (by omega) (zE_47 G w4) rfl rfl rfl rfl rfl (by decide) (Nat.le_of_ble_eq_true rfl) ?_
        replace hT := zlet_open hT
        obtain ⟨x5, hx5, hT⟩ := hT
        rw [← hx5]
        refine z_istore_n ok dX3_move_38 (hI 3 (by decide)) (lv' := [(3, .int x5), (0, .ref (zad G 47)), (1, .int (nI c_frm)), (2, .int (nI c_dst))]) rfl ?_
        refine z_aload_n ok dX3_move_39 1 rfl ?_
        refine z_iload_n ok dX3_move_40 2 rfl ?_
        refine z_iload_n ok dX3_move_41 3 rfl ?_
        refine z_callVv ok old dX3_move_42 [] (c_X3_makes G N hN hg w4 c_frm (by omega) c_dst (by omega)) zy_X3_makes zw_672 47 (by omega) (zE_47 G w4) rfl rfl rfl rfl rfl (by decide) (Nat.le_of_ble_eq_true rfl) ?_
        replace hT := zlet_open hT
        obtain ⟨w6, hw6, hT⟩ := hT
        rw [← hw6]
        refine z_iload_n ok dX3_move_45 0 rfl ?_
        exact z_iret ok hE dX3_move_46 rfl ⟨congrArg Prod.fst hT, congrArg Prod.snd hT⟩
      · rw [if_neg c3] at hT
        refine z_bipush ok dX3_move_25 (x := (-2)) (by decide) ?_
        exact z_iret ok hE dX3_move_27 rfl ⟨congrArg Prod.fst hT, congrArg Prod.snd hT⟩
    · rw [if_pos c2] at hT
      refine z_iconst ok dX3_move_14 (x := (-1)) (by decide) ?_
      exact z_iret ok hE dX3_move_15 rfl ⟨congrArg Prod.fst hT, congrArg Prod.snd hT⟩

def d_X3_pass (w : xW)  : Int32 × xW :=
  if (d_X3_refusesPass w) = 0 then (zlet (d_X3_records w) fun w2 =>
  zlet (d_X3_passes w2) fun w3 =>
  if (xg w3 11 145) ≤ 0 then ((0, w3))
  else ((1, w3)))
  else (((-2), w))
set_option maxRecDepth 100000 in
set_option maxHeartbeats 4000000 in
theorem c_X3_pass (G : zG) (N : Nat) (hN : 54 ≤ N) (hg : zGeo G N) (w : xW) (h_p : (∃ p, p ≤ 5 ∧ xg w 17 0 = nI p)) : zM yX3_pass cX3_pass 1 (some .int) 8 183 G N [.ref (zad G 47)] w (some (d_X3_pass w).1) (d_X3_pass w).2 := by
  obtain ⟨r, u, hT⟩ := zpair (d_X3_pass w)
  rw [hT]
  dsimp only
  unfold d_X3_pass at hT
  refine zM_of zy_X3_pass.2.2.2.2.2.2.2 hg ⟨Nat.le_of_ble_eq_true rfl, by decide⟩ rfl (fun k ok hE hI => ?_)
  have old := hE.old
  refine z_aload_n ok dX3_pass_0 0 rfl ?_
  refine z_callVi ok old dX3_pass_1 [] (c_X3_refusesPass G N hN hg w ) zy_X3_refusesPass zw_691 47 (by omega) (zE_47 G w) rfl rfl rfl rfl rfl (by decide) (Nat.le_of_ble_eq_true rfl) ?_
  refine z_if_eq ok dX3_pass_4 10 (by decide) (fun c1 => ?_) (fun c1 => ?_)
  · rw [if_pos c1] at hT
    refine z_aload_n ok dX3_pass_10 0 rfl ?_
    refine z_callVv ok old dX3_pass_11 [] (c_X3_records G N hN hg w (by first | assumption | omega)) zy_X3_records zw_597 47 (by omega) (zE_47 G w) rfl rfl rfl rfl rfl (by decide) (Nat.le_of_ble_eq_true rfl) ?_
    replace hT := zlet_open hT
    obtain ⟨w2, hw2, hT⟩ := hT
    rw [← hw2]
    refine z_aload_n ok dX3_pass_14 0 rfl ?_
    refine z_callVv ok old dX3_pass_15 [] (c_X3_passes G N hN hg w2 ) zy_X3_passes zw_699 47 (by omega) (zE_47 G w2) rfl rfl rfl rfl rfl (by decide) (Nat.le_of_ble_eq_true rfl) ?_
    replace hT := zlet_open hT
    obtain ⟨w3, hw3, hT⟩ := hT
    rw [← hw3]
    refine z_aload_n ok dX3_pass_18 0 rfl ?_
    refine z_get_X3_st ok dX3_pass_19 hN zw_549 ?_
    refine z_sipush ok dX3_pass_22 (x := 145) (by decide) ?_
    refine z_mld48 ok dX3_pass_25 hN 145 rfl (by omega) ?_
    refine z_if_le ok dX3_pass_26 33 (by decide) (fun c4 => ?_) (fun c4 => ?_)
    · rw [if_pos c4] at hT
      refine z_iconst ok dX3_pass_33 (x := 0) (by decide) ?_
      exact z_iret ok hE dX3_pass_34 rfl ⟨congrArg Prod.fst hT, congrArg Prod.snd hT⟩
    · rw [if_neg c4] at hT
      refine z_iconst ok dX3_pass_29 (x := 1) (by decide) ?_
      refine z_goto ok dX3_pass_30 34 (by decide) ?_
      exact z_iret ok hE dX3_pass_34 rfl ⟨congrArg Prod.fst hT, congrArg Prod.snd hT⟩
  · rw [if_neg c1] at hT
    refine z_bipush ok dX3_pass_7 (x := (-2)) (by decide) ?_
    exact z_iret ok hE dX3_pass_9 rfl ⟨congrArg Prod.fst hT, congrArg Prod.snd hT⟩

def d_X3_refusal (w : xW) (frm : Int32) (dst : Int32) : Int32 :=
  if (d_X3_isCell w frm) = 0 then ((-1))
  else (if (d_X3_isCell w dst) = 0 then ((-1))
  else (zlet frm.toNatClampNeg fun c_frm =>
  zlet dst.toNatClampNeg fun c_dst =>
  (d_X3_refuses w c_frm c_dst)))
set_option maxRecDepth 100000 in
set_option maxHeartbeats 4000000 in
theorem c_X3_refusal (G : zG) (N : Nat) (hN : 54 ≤ N) (hg : zGeo G N) (w : xW) (frm : Int32) (dst : Int32) : zM yX3_refusal cX3_refusal 3 (some .int) 6 139 G N [.ref (zad G 47), .int frm, .int dst] w (some (d_X3_refusal w frm dst)) w := by
  generalize hT : d_X3_refusal w frm dst = r
  unfold d_X3_refusal at hT
  refine zM_of zy_X3_refusal.2.2.2.2.2.2.2 hg ⟨Nat.le_of_ble_eq_true rfl, by decide⟩ rfl (fun k ok hE hI => ?_)
  have old := hE.old
  refine z_iload_n ok dX3_refusal_0 1 rfl ?_
  refine z_callSi ok old dX3_refusal_1 [] (c_X3_isCell G N hN hg w frm) zy_X3_isCell zw_615 rfl rfl (by decide) (Nat.le_of_ble_eq_true rfl) ?_
  refine z_if_eq ok dX3_refusal_4 23 (by decide) (fun c1 => ?_) (fun c1 => ?_)
  · rw [if_pos c1] at hT
    refine z_iconst ok dX3_refusal_23 (x := (-1)) (by decide) ?_
    exact z_iret ok hE dX3_refusal_24 rfl ⟨hT, rfl⟩
  · rw [if_neg c1] at hT
    refine z_iload_n ok dX3_refusal_7 2 rfl ?_
    refine z_callSi ok old dX3_refusal_8 [] (c_X3_isCell G N hN hg w dst) zy_X3_isCell zw_615 rfl rfl (by decide) (Nat.le_of_ble_eq_true rfl) ?_
    refine z_if_eq ok dX3_refusal_11 23 (by decide) (fun c2 => ?_) (fun c2 => ?_)
    · rw [if_pos c2] at hT
      refine z_iconst ok dX3_refusal_23 (x := (-1)) (by decide) ?_
      exact z_iret ok hE dX3_refusal_24 rfl ⟨hT, rfl⟩
    · rw [if_neg c2] at hT
      refine z_aload_n ok dX3_refusal_14 0 rfl ?_
      refine z_iload_n ok dX3_refusal_15 1 rfl ?_
      replace hT := zlet_open hT
      obtain ⟨c_frm, hc_frm, hT⟩ := hT
      obtain ⟨lc_frm, ec_frm⟩ := zcellx (zisCell3 (by assumption)) hc_frm
      subst ec_frm
      replace hT := zlet_open hT
      obtain ⟨c_dst, hc_dst, hT⟩ := hT
      obtain ⟨lc_dst, ec_dst⟩ := zcellx (zisCell3 (by assumption)) hc_dst
      subst ec_dst
      refine z_iload_n ok dX3_refusal_16 2 rfl ?_
      refine z_callVi ok old dX3_refusal_17 [] (c_X3_refuses G N hN hg w c_frm (by omega) c_dst (by omega)) zy_X3_refuses zw_668 47 (by omega) (zE_47 G w) rfl rfl rfl rfl rfl (by decide) (Nat.le_of_ble_eq_true rfl) ?_
      refine z_goto ok dX3_refusal_20 24 (by decide) ?_
      exact z_iret ok hE dX3_refusal_24 rfl ⟨hT, rfl⟩

def d_X3_cost (w : xW) (frm : Int32) (dst : Int32) : Int32 :=
  if (d_X3_isCell w frm) = 0 then ((-1))
  else (if (d_X3_isCell w dst) = 0 then ((-1))
  else (zlet frm.toNatClampNeg fun c_frm =>
  zlet dst.toNatClampNeg fun c_dst =>
  zlet (if (xg w 11 c_frm) = (-1) then ((-1))
  else ((d_X3_costOf w c_frm c_dst)) : Int32) fun x3 =>
  if 0 ≤ x3 then (x3)
  else ((-4))))
set_option maxRecDepth 100000 in
set_option maxHeartbeats 4000000 in
theorem c_X3_cost (G : zG) (N : Nat) (hN : 54 ≤ N) (hg : zGeo G N) (w : xW) (frm : Int32) (dst : Int32) : zM yX3_cost cX3_cost 4 (some .int) 4 94 G N [.ref (zad G 47), .int frm, .int dst] w (some (d_X3_cost w frm dst)) w := by
  generalize hT : d_X3_cost w frm dst = r
  unfold d_X3_cost at hT
  refine zM_of zy_X3_cost.2.2.2.2.2.2.2 hg ⟨Nat.le_of_ble_eq_true rfl, by decide⟩ rfl (fun k ok hE hI => ?_)
  have old := hE.old
  refine z_iload_n ok dX3_cost_0 1 rfl ?_
  refine z_callSi ok old dX3_cost_1 [] (c_X3_isCell G N hN hg w frm) zy_X3_isCell zw_615 rfl rfl (by decide) (Nat.le_of_ble_eq_true rfl) ?_
  refine z_if_eq ok dX3_cost_4 14 (by decide) (fun c1 => ?_) (fun c1 => ?_)
  · rw [if_pos c1] at hT
    refine z_iconst ok dX3_cost_14 (x := (-1)) (by decide) ?_
    exact z_iret ok hE dX3_cost_15 rfl ⟨hT, rfl⟩
  · rw [if_neg c1] at hT
    refine z_iload_n ok dX3_cost_7 2 rfl ?_
    refine z_callSi ok old dX3_cost_8 [] (c_X3_isCell G N hN hg w dst) zy_X3_isCell zw_615 rfl rfl (by decide) (Nat.le_of_ble_eq_true rfl) ?_
    refine z_if_ne ok dX3_cost_11 16 (by decide) (fun c2 => ?_) (fun c2 => ?_)
    · rw [if_neg c2] at hT
      replace hT := zlet_open hT
      obtain ⟨c_frm, hc_frm, hT⟩ := hT
      obtain ⟨lc_frm, ec_frm⟩ := zcellx (zisCell3 (by assumption)) hc_frm
      subst ec_frm
      replace hT := zlet_open hT
      obtain ⟨c_dst, hc_dst, hT⟩ := hT
      obtain ⟨lc_dst, ec_dst⟩ := zcellx (zisCell3 (by assumption)) hc_dst
      subst ec_dst
      refine z_aload_n ok dX3_cost_16 0 rfl ?_
      refine z_get_X3_st ok dX3_cost_17 hN zw_549 ?_
      refine z_iconst ok dX3_cost_20 (x := 0) (by decide) ?_
      refine z_iload_n ok dX3_cost_21 1 rfl ?_
      refine z_iadd_0 ok dX3_cost_22 ?_
      refine z_mld48 ok dX3_cost_23 hN c_frm rfl (by omega) ?_
      refine z_iconst ok dX3_cost_24 (x := (-1)) (by decide) ?_
      replace hT := zlet_open hT
      obtain ⟨x3, hx3, hT⟩ := hT
      have hsx3 := hx3.symm
      have hJx3 : zZ k G N w 38 [(0, .ref (zad G 47)), (1, .int (nI c_frm)), (2, .int (nI c_dst))] [.int x3] := by
        refine z_istore_n ok dX3_cost_38 (hI 3 (by decide)) (lv' := [(3, .int x3), (0, .ref (zad G 47)), (1, .int (nI c_frm)), (2, .int (nI c_dst))]) rfl ?_
        refine z_iload_n ok dX3_cost_39 0 rfl ?_
        refine z_if_ge ok dX3_cost_40 48 (by decide) (fun c4 => ?_) (fun c4 => ?_)
        · rw [if_pos c4] at hT
          refine z_iload_n ok dX3_cost_48 0 rfl ?_
          exact z_iret ok hE dX3_cost_49 rfl ⟨hT, rfl⟩
        · rw [if_neg c4] at hT
          refine z_bipush ok dX3_cost_43 (x := (-4)) (by decide) ?_
          refine z_goto ok dX3_cost_45 49 (by decide) ?_
          exact z_iret ok hE dX3_cost_49 rfl ⟨hT, rfl⟩
      refine z_icmp_ne ok dX3_cost_25 32 (by decide) (fun c5 => ?_) (fun c5 => ?_)
      · rw [if_neg c5] at hsx3
        refine z_aload_n ok dX3_cost_32 0 rfl ?_
        refine z_iload_n ok dX3_cost_33 1 rfl ?_
        refine z_iload_n ok dX3_cost_34 2 rfl ?_
        refine z_callVi ok old dX3_cost_35 [] (c_X3_costOf G N hN hg w c_frm (by omega) c_dst (by omega)) zy_X3_costOf zw_638 47 (by omega) (zE_47 G w) rfl rfl rfl rfl rfl (by decide) (Nat.le_of_ble_eq_true rfl) ?_
        rw [← hsx3] at hJx3
        refine z_locs [0, 1, 2] (lv' := [(0, .ref (zad G 47)), (1, .int (nI c_frm)), (2, .int (nI c_dst))]) rfl ?_
        exact hJx3
      · rw [if_pos c5] at hsx3
        refine z_iconst ok dX3_cost_28 (x := (-1)) (by decide) ?_
        refine z_goto ok dX3_cost_29 38 (by decide) ?_
        rw [← hsx3] at hJx3
        refine z_locs [0, 1, 2] (lv' := [(0, .ref (zad G 47)), (1, .int (nI c_frm)), (2, .int (nI c_dst))]) rfl ?_
        exact hJx3
    · rw [if_pos c2] at hT
      refine z_iconst ok dX3_cost_14 (x := (-1)) (by decide) ?_
      exact z_iret ok hE dX3_cost_15 rfl ⟨hT, rfl⟩

def d_X3_moves (w : xW) (side : Int32) : Int32 :=
  if (d_X3_isSide w side) = 0 then ((-1))
  else ((d_X3_movesOf w side))
set_option maxRecDepth 100000 in
set_option maxHeartbeats 4000000 in
theorem c_X3_moves (G : zG) (N : Nat) (hN : 54 ≤ N) (hg : zGeo G N) (w : xW) (side : Int32) : zM yX3_moves cX3_moves 2 (some .int) 7 163 G N [.ref (zad G 47), .int side] w (some (d_X3_moves w side)) w := by
  generalize hT : d_X3_moves w side = r
  unfold d_X3_moves at hT
  refine zM_of zy_X3_moves.2.2.2.2.2.2.2 hg ⟨Nat.le_of_ble_eq_true rfl, by decide⟩ rfl (fun k ok hE hI => ?_)
  have old := hE.old
  refine z_iload_n ok dX3_moves_0 1 rfl ?_
  refine z_callSi ok old dX3_moves_1 [] (c_X3_isSide G N hN hg w side) zy_X3_isSide zw_715 rfl rfl (by decide) (Nat.le_of_ble_eq_true rfl) ?_
  refine z_if_eq ok dX3_moves_4 15 (by decide) (fun c1 => ?_) (fun c1 => ?_)
  · rw [if_pos c1] at hT
    refine z_iconst ok dX3_moves_15 (x := (-1)) (by decide) ?_
    exact z_iret ok hE dX3_moves_16 rfl ⟨hT, rfl⟩
  · rw [if_neg c1] at hT
    refine z_aload_n ok dX3_moves_7 0 rfl ?_
    refine z_iload_n ok dX3_moves_8 1 rfl ?_
    refine z_callVi ok old dX3_moves_9 [] (c_X3_movesOf G N hN hg w side) zy_X3_movesOf zw_695 47 (by omega) (zE_47 G w) rfl rfl rfl rfl rfl (by decide) (Nat.le_of_ble_eq_true rfl) ?_
    refine z_goto ok dX3_moves_12 16 (by decide) ?_
    exact z_iret ok hE dX3_moves_16 rfl ⟨hT, rfl⟩

def d_X3_listed (w : xW) (side : Int32) (index : Int32) : Int32 :=
  if (d_X3_isSide w side) = 0 then ((-1))
  else (if 0 ≤ index then (zlet ((d_X3_moveAt w side index)) fun x3 =>
  if 0 ≤ x3 then (x3)
  else ((-4)))
  else ((-1)))
set_option maxRecDepth 100000 in
set_option maxHeartbeats 4000000 in
theorem c_X3_listed (G : zG) (N : Nat) (hN : 54 ≤ N) (hg : zGeo G N) (w : xW) (side : Int32) (index : Int32) : zM yX3_listed cX3_listed 4 (some .int) 6 141 G N [.ref (zad G 47), .int side, .int index] w (some (d_X3_listed w side index)) w := by
  generalize hT : d_X3_listed w side index = r
  unfold d_X3_listed at hT
  refine zM_of zy_X3_listed.2.2.2.2.2.2.2 hg ⟨Nat.le_of_ble_eq_true rfl, by decide⟩ rfl (fun k ok hE hI => ?_)
  have old := hE.old
  refine z_iload_n ok dX3_listed_0 1 rfl ?_
  refine z_callSi ok old dX3_listed_1 [] (c_X3_isSide G N hN hg w side) zy_X3_isSide zw_715 rfl rfl (by decide) (Nat.le_of_ble_eq_true rfl) ?_
  refine z_if_eq ok dX3_listed_4 11 (by decide) (fun c1 => ?_) (fun c1 => ?_)
  · rw [if_pos c1] at hT
    refine z_iconst ok dX3_listed_11 (x := (-1)) (by decide) ?_
    exact z_iret ok hE dX3_listed_12 rfl ⟨hT, rfl⟩
  · rw [if_neg c1] at hT
    refine z_iload_n ok dX3_listed_7 2 rfl ?_
    refine z_if_ge ok dX3_listed_8 13 (by decide) (fun c2 => ?_) (fun c2 => ?_)
    · rw [if_pos c2] at hT
      refine z_aload_n ok dX3_listed_13 0 rfl ?_
      refine z_iload_n ok dX3_listed_14 1 rfl ?_
      refine z_iload_n ok dX3_listed_15 2 rfl ?_
      refine z_callVi ok old dX3_listed_16 [] (c_X3_moveAt G N hN hg w side index) zy_X3_moveAt zw_722 47 (by omega) (zE_47 G w) rfl rfl rfl rfl rfl (by decide) (Nat.le_of_ble_eq_true rfl) ?_
      replace hT := zlet_open hT
      obtain ⟨x3, hx3, hT⟩ := hT
      rw [← hx3]
      refine z_istore_n ok dX3_listed_19 (hI 3 (by decide)) (lv' := [(3, .int x3), (0, .ref (zad G 47)), (1, .int side), (2, .int index)]) rfl ?_
      refine z_iload_n ok dX3_listed_20 0 rfl ?_
      refine z_if_ge ok dX3_listed_21 29 (by decide) (fun c4 => ?_) (fun c4 => ?_)
      · rw [if_pos c4] at hT
        refine z_iload_n ok dX3_listed_29 0 rfl ?_
        exact z_iret ok hE dX3_listed_30 rfl ⟨hT, rfl⟩
      · rw [if_neg c4] at hT
        refine z_bipush ok dX3_listed_24 (x := (-4)) (by decide) ?_
        refine z_goto ok dX3_listed_26 30 (by decide) ?_
        exact z_iret ok hE dX3_listed_30 rfl ⟨hT, rfl⟩
    · rw [if_neg c2] at hT
      refine z_iconst ok dX3_listed_11 (x := (-1)) (by decide) ?_
      exact z_iret ok hE dX3_listed_12 rfl ⟨hT, rfl⟩

def d_X3_struck_35k (w4 : xW) (e5_3 : Int32) (e5_4 : Nat) : Int32 × xW :=
  zlet (d_X3_bringsBack w4) fun w6 =>
  (e5_3, w6)
def d_X3_struck_35 (side : Int32) (c_cell : Nat) (w4 : xW) (kt5 : Int32 → Nat → (Int32 × xW)) : Nat → Int32 → Nat → Int32 × xW
  | 0, _, _ => default
  | n5 + 1, v5_3, v5_4 => if 36 ≤ v5_4 then (kt5 v5_3 v5_4)
  else (zlet (if (xg w4 11 v5_4) = side then (if (d_X3_canGo w4 v5_4 c_cell) = 0 then (0)
  else (1))
  else (0) : Int32) fun x8 =>
  zlet ((v5_3 + x8)) fun x9 =>
  d_X3_struck_35 side c_cell w4 kt5 n5 x9 (v5_4 + 1))
def d_X3_struck (w : xW) (cell : Int32) (side : Int32) : Int32 × xW :=
  if (d_X3_isCell w cell) = 0 then (((-1), w))
  else (if (d_X3_isSide w side) = 0 then (((-1), w))
  else (zlet cell.toNatClampNeg fun c_cell =>
  zlet (d_X3_laysAside w) fun w3 =>
  zlet (d_X3_lays w3 c_cell (1 - side) 1 0) fun w4 =>
  d_X3_struck_35 side c_cell w4 (d_X3_struck_35k w4) 37 0 0))
set_option maxRecDepth 100000 in
set_option maxHeartbeats 4000000 in
theorem c_X3_struck (G : zG) (N : Nat) (hN : 54 ≤ N) (hg : zGeo G N) (w : xW) (cell : Int32) (side : Int32) : zM yX3_struck cX3_struck 5 (some .int) 5 117 G N [.ref (zad G 47), .int cell, .int side] w (some (d_X3_struck w cell side).1) (d_X3_struck w cell side).2 := by
  obtain ⟨r, u, hT⟩ := zpair (d_X3_struck w cell side)
  rw [hT]
  dsimp only
  unfold d_X3_struck at hT
  refine zM_of zy_X3_struck.2.2.2.2.2.2.2 hg ⟨Nat.le_of_ble_eq_true rfl, by decide⟩ rfl (fun k ok hE hI => ?_)
  have old := hE.old
  refine z_iload_n ok dX3_struck_0 1 rfl ?_
  refine z_callSi ok old dX3_struck_1 [] (c_X3_isCell G N hN hg w cell) zy_X3_isCell zw_615 rfl rfl (by decide) (Nat.le_of_ble_eq_true rfl) ?_
  refine z_if_eq ok dX3_struck_4 14 (by decide) (fun c1 => ?_) (fun c1 => ?_)
  · rw [if_pos c1] at hT
    refine z_iconst ok dX3_struck_14 (x := (-1)) (by decide) ?_
    exact z_iret ok hE dX3_struck_15 rfl ⟨congrArg Prod.fst hT, congrArg Prod.snd hT⟩
  · rw [if_neg c1] at hT
    refine z_iload_n ok dX3_struck_7 2 rfl ?_
    refine z_callSi ok old dX3_struck_8 [] (c_X3_isSide G N hN hg w side) zy_X3_isSide zw_715 rfl rfl (by decide) (Nat.le_of_ble_eq_true rfl) ?_
    refine z_if_ne ok dX3_struck_11 16 (by decide) (fun c2 => ?_) (fun c2 => ?_)
    · rw [if_neg c2] at hT
      replace hT := zlet_open hT
      obtain ⟨c_cell, hc_cell, hT⟩ := hT
      obtain ⟨lc_cell, ec_cell⟩ := zcellx (zisCell3 (by assumption)) hc_cell
      subst ec_cell
      refine z_aload_n ok dX3_struck_16 0 rfl ?_
      refine z_callVv ok old dX3_struck_17 [] (c_X3_laysAside G N hN hg w ) zy_X3_laysAside zw_730 47 (by omega) (zE_47 G w) rfl rfl rfl rfl rfl (by decide) (Nat.le_of_ble_eq_true rfl) ?_
      replace hT := zlet_open hT
      obtain ⟨w3, hw3, hT⟩ := hT
      rw [← hw3]
      refine z_aload_n ok dX3_struck_20 0 rfl ?_
      refine z_iload_n ok dX3_struck_21 1 rfl ?_
      refine z_iconst ok dX3_struck_22 (x := 1) (by decide) ?_
      refine z_iload_n ok dX3_struck_23 2 rfl ?_
      refine z_isub ok dX3_struck_24 ?_
      refine z_iconst ok dX3_struck_25 (x := 1) (by decide) ?_
      refine z_iconst ok dX3_struck_26 (x := 0) (by decide) ?_
      refine z_callVv ok old dX3_struck_27 [] (c_X3_lays G N hN hg w3 c_cell (by omega) (1 - side) 1 0) zy_X3_lays zw_537 47 (by omega) (zE_47 G w3) rfl rfl rfl rfl rfl (by decide) (Nat.le_of_ble_eq_true rfl) ?_
      replace hT := zlet_open hT
      obtain ⟨w4, hw4, hT⟩ := hT
      rw [← hw4]
      refine z_iconst ok dX3_struck_30 (x := 0) (by decide) ?_
      refine z_istore_n ok dX3_struck_31 (hI 3 (by decide)) (lv' := [(3, .int 0), (0, .ref (zad G 47)), (1, .int (nI c_cell)), (2, .int side)]) rfl ?_
      refine z_iconst ok dX3_struck_32 (x := 0) (by decide) ?_
      refine z_istore ok dX3_struck_33 (hI 4 (by decide)) (lv' := [(4, .int 0), (3, .int 0), (0, .ref (zad G 47)), (1, .int (nI c_cell)), (2, .int side)]) rfl ?_
      refine z_locs [2, 3, 4, 1, 0] (lv' := [(0, .ref (zad G 47)), (1, .int (nI c_cell)), (2, .int side), (3, .int 0), (4, .int 0)]) rfl ?_
      obtain ⟨kt5, hkt5⟩ : ∃ z, z = (d_X3_struck_35k w4) := ⟨_, rfl⟩
      rw [← hkt5] at hT
      have hk5 : ∀ (e5_3 : Int32) (e5_4 : Nat), e5_4 ≤ 36 → kt5 e5_3 e5_4 = (r, u) → zZ k G N w4 79 [(0, .ref (zad G 47)), (1, .int (nI c_cell)), (2, .int side), (3, .int e5_3), (4, .int (nI e5_4))] [] := by
        intro e5_3 e5_4 q5_0 hT5
        rw [hkt5, d_X3_struck_35k] at hT5
        refine z_aload_n ok dX3_struck_79 0 rfl ?_
        refine z_callVv ok old dX3_struck_80 [] (c_X3_bringsBack G N hN hg w4 ) zy_X3_bringsBack zw_734 47 (by omega) (zE_47 G w4) rfl rfl rfl rfl rfl (by decide) (Nat.le_of_ble_eq_true rfl) ?_
        replace hT5 := zlet_open hT5
        obtain ⟨w6, hw6, hT5⟩ := hT5
        rw [← hw6]
        refine z_iload_n ok dX3_struck_83 3 rfl ?_
        exact z_iret ok hE dX3_struck_84 rfl ⟨congrArg Prod.fst hT5, congrArg Prod.snd hT5⟩
      have hl5 : ∀ (n5 : Nat) (v5_3 : Int32) (v5_4 : Nat), 36 < v5_4 + n5 → v5_4 ≤ 36 → d_X3_struck_35 side c_cell w4 kt5 n5 v5_3 v5_4 = (r, u) → zZ k G N w4 35 [(0, .ref (zad G 47)), (1, .int (nI c_cell)), (2, .int side), (3, .int v5_3), (4, .int (nI v5_4))] [] := by
        intro n5
        induction n5 with
        | zero =>
          intro v5_3 v5_4 q5_0 q5_1
          exact absurd q5_0 (by omega)
        | succ n5 ih5 =>
          intro v5_3 v5_4 q5_0 q5_1 hT5
          rw [d_X3_struck_35] at hT5
          refine z_iload ok dX3_struck_35 4 rfl ?_
          refine z_bipush ok dX3_struck_37 (x := 36) (by decide) ?_
          refine z_icmp_ge_n ok dX3_struck_39 79 (by decide) v5_4 36 rfl rfl (by omega) (fun c7 => ?_) (fun c7 => ?_)
          · rw [if_pos c7] at hT5
            refine z_locs [0, 1, 2, 3, 4] (lv' := [(0, .ref (zad G 47)), (1, .int (nI c_cell)), (2, .int side), (3, .int v5_3), (4, .int (nI v5_4))]) rfl ?_
            exact hk5 v5_3 v5_4 (by omega) hT5
          · rw [if_neg c7] at hT5
            refine z_iload_n ok dX3_struck_42 3 rfl ?_
            refine z_aload_n ok dX3_struck_43 0 rfl ?_
            refine z_get_X3_st ok dX3_struck_44 hN zw_549 ?_
            refine z_iconst ok dX3_struck_47 (x := 0) (by decide) ?_
            refine z_iload ok dX3_struck_48 4 rfl ?_
            refine z_iadd_0 ok dX3_struck_50 ?_
            refine z_mld48 ok dX3_struck_51 hN v5_4 rfl (by omega) ?_
            refine z_iload_n ok dX3_struck_52 2 rfl ?_
            replace hT5 := zlet_open hT5
            obtain ⟨x8, hx8, hT5⟩ := hT5
            have hsx8 := hx8.symm
            have hJx8 : zZ k G N w4 71 [(0, .ref (zad G 47)), (1, .int (nI c_cell)), (2, .int side), (3, .int v5_3), (4, .int (nI v5_4))] [.int x8, .int v5_3] := by
              refine z_iadd ok dX3_struck_71 ?_
              replace hT5 := zlet_open hT5
              obtain ⟨x9, hx9, hT5⟩ := hT5
              rw [← hx9]
              refine z_istore_n ok dX3_struck_72 (hI 3 (by decide)) (lv' := [(3, .int x9), (0, .ref (zad G 47)), (1, .int (nI c_cell)), (2, .int side), (4, .int (nI v5_4))]) rfl ?_
              refine z_iinc ok dX3_struck_73 (hI 4 (by decide)) 4 rfl (y := (nI (v5_4 + 1))) (z_incn v5_4 1) (lv' := [(4, .int (nI (v5_4 + 1))), (3, .int x9), (0, .ref (zad G 47)), (1, .int (nI c_cell)), (2, .int side)]) rfl ?_
              refine z_goto ok dX3_struck_76 35 (by decide) ?_
              refine z_locs [2, 3, 4, 1, 0] (lv' := [(0, .ref (zad G 47)), (1, .int (nI c_cell)), (2, .int side), (3, .int x9), (4, .int (nI (v5_4 + 1)))]) rfl ?_
              exact ih5 x9 (v5_4 + 1) (by omega) (by omega) hT5
            refine z_icmp_ne ok dX3_struck_53 70 (by decide) (fun c10 => ?_) (fun c10 => ?_)
            · rw [if_neg c10] at hsx8
              refine z_iconst ok dX3_struck_70 (x := 0) (by decide) ?_
              rw [← hsx8] at hJx8
              refine z_locs [0, 1, 2, 3, 4] (lv' := [(0, .ref (zad G 47)), (1, .int (nI c_cell)), (2, .int side), (3, .int v5_3), (4, .int (nI v5_4))]) rfl ?_
              exact hJx8
            · rw [if_pos c10] at hsx8
              refine z_aload_n ok dX3_struck_56 0 rfl ?_
              refine z_iload ok dX3_struck_57 4 rfl ?_
              refine z_iload_n ok dX3_struck_59 1 rfl ?_
              refine z_callVi ok old dX3_struck_60 [.int v5_3] (c_X3_canGo G N hN hg w4 v5_4 (by omega) c_cell (by omega)) zy_X3_canGo zw_634 47 (by omega) (zE_47 G w4) rfl rfl rfl rfl rfl (by decide) (Nat.le_of_ble_eq_true rfl) ?_
              refine z_if_eq ok dX3_struck_63 70 (by decide) (fun c11 => ?_) (fun c11 => ?_)
              · rw [if_pos c11] at hsx8
                refine z_iconst ok dX3_struck_70 (x := 0) (by decide) ?_
                rw [← hsx8] at hJx8
                refine z_locs [0, 1, 2, 3, 4] (lv' := [(0, .ref (zad G 47)), (1, .int (nI c_cell)), (2, .int side), (3, .int v5_3), (4, .int (nI v5_4))]) rfl ?_
                exact hJx8
              · rw [if_neg c11] at hsx8
                refine z_iconst ok dX3_struck_66 (x := 1) (by decide) ?_
                refine z_goto ok dX3_struck_67 71 (by decide) ?_
                rw [← hsx8] at hJx8
                refine z_locs [0, 1, 2, 3, 4] (lv' := [(0, .ref (zad G 47)), (1, .int (nI c_cell)), (2, .int side), (3, .int v5_3), (4, .int (nI v5_4))]) rfl ?_
                exact hJx8
      exact hl5 37 0 0 (by omega) (by omega) hT
    · rw [if_pos c2] at hT
      refine z_iconst ok dX3_struck_14 (x := (-1)) (by decide) ?_
      exact z_iret ok hE dX3_struck_15 rfl ⟨congrArg Prod.fst hT, congrArg Prod.snd hT⟩

def d_X3_goesOn_142k  (e2_3 : Nat) (ew2 : xW) : xW :=
  ew2
def d_X3_goesOn_142  (kt2 : Nat → xW → xW) : Nat → Nat → xW → xW
  | 0, _, _ => default
  | n2 + 1, v2_3, vw2 => if 36 ≤ v2_3 then (kt2 v2_3 vw2)
  else (zlet (xs vw2 15 v2_3 (xg vw2 16 v2_3)) fun w4 =>
  d_X3_goesOn_142  kt2 n2 (v2_3 + 1) w4)
def d_X3_goesOn_2k  (e1_3 : Nat) (ew1 : xW) : xW :=
  d_X3_goesOn_142  d_X3_goesOn_142k 37 0 ew1
def d_X3_goesOn_23 (side : Int32) (kind : Int32) (v1_3 : Nat) (kt7 : Nat → xW → xW) : Nat → Nat → xW → xW
  | 0, _, _ => default
  | n7 + 1, v7_4, vw7 => if 36 ≤ v7_4 then (kt7 v7_4 vw7)
  else (if (xg vw7 11 v1_3) = (-1) then (zlet (if 0 ≤ (xg vw7 15 v7_4) then ((d_X3_costBy vw7 side kind v7_4 v1_3))
  else ((-1)) : Int32) fun x10 =>
  zlet (if x10 < 0 then (0)
  else (if ((xg vw7 15 v7_4) - x10) ≤ (xg vw7 16 v1_3) then (0)
  else (1)) : Int32) fun x11 =>
  zlet (if x11 = 0 then ((xg vw7 16 v1_3))
  else (((xg vw7 15 v7_4) - x10)) : Int32) fun x12 =>
  zlet (xs vw7 16 v1_3 x12) fun w13 =>
  d_X3_goesOn_23 side kind v1_3 kt7 n7 (v7_4 + 1) w13)
  else (kt7 v7_4 vw7))
def d_X3_goesOn_2 (side : Int32) (kind : Int32) (kt1 : Nat → xW → xW) : Nat → Nat → xW → xW
  | 0, _, _ => default
  | n1 + 1, v1_3, vw1 => if 36 ≤ v1_3 then (kt1 v1_3 vw1)
  else (zlet (xs vw1 16 v1_3 (xg vw1 15 v1_3)) fun w6 =>
  d_X3_goesOn_23 side kind v1_3 (fun e7_4 ew7 => (d_X3_goesOn_2 side kind kt1 n1 (v1_3 + 1) ew7)) 37 0 w6)
def d_X3_goesOn (w : xW) (side : Int32) (kind : Int32) : xW :=
  d_X3_goesOn_2 side kind d_X3_goesOn_2k 37 0 w
set_option maxRecDepth 100000 in
set_option maxHeartbeats 4000000 in
theorem c_X3_goesOn (G : zG) (N : Nat) (hN : 54 ≤ N) (hg : zGeo G N) (w : xW) (side : Int32) (kind : Int32) : zM yX3_goesOn cX3_goesOn 7 none 3 72 G N [.ref (zad G 47), .int side, .int kind] w none (d_X3_goesOn w side kind) := by
  generalize hT : d_X3_goesOn w side kind = u
  unfold d_X3_goesOn at hT
  refine zM_of zy_X3_goesOn.2.2.2.2.2.2.2 hg ⟨Nat.le_of_ble_eq_true rfl, by decide⟩ rfl (fun k ok hE hI => ?_)
  have old := hE.old
  refine z_iconst ok dX3_goesOn_0 (x := 0) (by decide) ?_
  refine z_istore_n ok dX3_goesOn_1 (hI 3 (by decide)) (lv' := [(3, .int 0), (0, .ref (zad G 47)), (1, .int side), (2, .int kind)]) rfl ?_
  refine z_locs [1, 2, 3, 0] (lv' := [(0, .ref (zad G 47)), (1, .int side), (2, .int kind), (3, .int 0)]) rfl ?_
  obtain ⟨kt1, hkt1⟩ : ∃ z, z = d_X3_goesOn_2k := ⟨_, rfl⟩
  rw [← hkt1] at hT
  have hk1 : ∀ (e1_3 : Nat) (ew1 : xW), e1_3 ≤ 36 → kt1 e1_3 ew1 = u → zZ k G N ew1 140 [(0, .ref (zad G 47)), (1, .int side), (2, .int kind), (3, .int (nI e1_3))] [] := by
    intro e1_3 ew1 q1_0 hT1
    rw [hkt1, d_X3_goesOn_2k] at hT1
    refine z_iconst ok dX3_goesOn_140 (x := 0) (by decide) ?_
    refine z_istore_n ok dX3_goesOn_141 (hI 3 (by decide)) (lv' := [(3, .int 0), (0, .ref (zad G 47)), (1, .int side), (2, .int kind)]) rfl ?_
    refine z_locs [1, 2, 3, 0] (lv' := [(0, .ref (zad G 47)), (1, .int side), (2, .int kind), (3, .int 0)]) rfl ?_
    obtain ⟨kt2, hkt2⟩ : ∃ z, z = d_X3_goesOn_142k := ⟨_, rfl⟩
    rw [← hkt2] at hT1
    have hk2 : ∀ (e2_3 : Nat) (ew2 : xW), e2_3 ≤ 36 → kt2 e2_3 ew2 = u → zZ k G N ew2 166 [(0, .ref (zad G 47)), (1, .int side), (2, .int kind), (3, .int (nI e2_3))] [] := by
      intro e2_3 ew2 q2_0 hT2
      rw [hkt2, d_X3_goesOn_142k] at hT2
      exact z_vret ok hE dX3_goesOn_166 hT2
    have hl2 : ∀ (n2 : Nat) (v2_3 : Nat) (vw2 : xW), 36 < v2_3 + n2 → v2_3 ≤ 36 → d_X3_goesOn_142  kt2 n2 v2_3 vw2 = u → zZ k G N vw2 142 [(0, .ref (zad G 47)), (1, .int side), (2, .int kind), (3, .int (nI v2_3))] [] := by
      intro n2
      induction n2 with
      | zero =>
        intro v2_3 vw2 q2_0 q2_1
        exact absurd q2_0 (by omega)
      | succ n2 ih2 =>
        intro v2_3 vw2 q2_0 q2_1 hT2
        rw [d_X3_goesOn_142] at hT2
        refine z_iload_n ok dX3_goesOn_142 3 rfl ?_
        refine z_bipush ok dX3_goesOn_143 (x := 36) (by decide) ?_
        refine z_icmp_ge_n ok dX3_goesOn_145 166 (by decide) v2_3 36 rfl rfl (by omega) (fun c3 => ?_) (fun c3 => ?_)
        · rw [if_pos c3] at hT2
          refine z_locs [0, 1, 2, 3] (lv' := [(0, .ref (zad G 47)), (1, .int side), (2, .int kind), (3, .int (nI v2_3))]) rfl ?_
          exact hk2 v2_3 vw2 (by omega) hT2
        · rw [if_neg c3] at hT2
          refine z_aload_n ok dX3_goesOn_148 0 rfl ?_
          refine z_get_X3_most ok dX3_goesOn_149 hN zw_555 ?_
          refine z_iload_n ok dX3_goesOn_152 3 rfl ?_
          refine z_aload_n ok dX3_goesOn_153 0 rfl ?_
          refine z_get_X3_then ok dX3_goesOn_154 hN zw_556 ?_
          refine z_iload_n ok dX3_goesOn_157 3 rfl ?_
          refine z_mld53 ok dX3_goesOn_158 hN v2_3 rfl (by omega) ?_
          refine z_mst52 ok dX3_goesOn_159 hN v2_3 rfl (by omega) ?_
          replace hT2 := zlet_open hT2
          obtain ⟨w4, hw4, hT2⟩ := hT2
          rw [← hw4]
          refine z_iinc ok dX3_goesOn_160 (hI 3 (by decide)) 3 rfl (y := (nI (v2_3 + 1))) (z_incn v2_3 1) (lv' := [(3, .int (nI (v2_3 + 1))), (0, .ref (zad G 47)), (1, .int side), (2, .int kind)]) rfl ?_
          refine z_goto ok dX3_goesOn_163 142 (by decide) ?_
          refine z_locs [1, 2, 3, 0] (lv' := [(0, .ref (zad G 47)), (1, .int side), (2, .int kind), (3, .int (nI (v2_3 + 1)))]) rfl ?_
          exact ih2 (v2_3 + 1) w4 (by omega) (by omega) hT2
    exact hl2 37 0 ew1 (by omega) (by omega) hT1
  have hl1 : ∀ (n1 : Nat) (v1_3 : Nat) (vw1 : xW), 36 < v1_3 + n1 → v1_3 ≤ 36 → d_X3_goesOn_2 side kind kt1 n1 v1_3 vw1 = u → zZ k G N vw1 2 [(0, .ref (zad G 47)), (1, .int side), (2, .int kind), (3, .int (nI v1_3))] [] := by
    intro n1
    induction n1 with
    | zero =>
      intro v1_3 vw1 q1_0 q1_1
      exact absurd q1_0 (by omega)
    | succ n1 ih1 =>
      intro v1_3 vw1 q1_0 q1_1 hT1
      rw [d_X3_goesOn_2] at hT1
      refine z_iload_n ok dX3_goesOn_2 3 rfl ?_
      refine z_bipush ok dX3_goesOn_3 (x := 36) (by decide) ?_
      refine z_icmp_ge_n ok dX3_goesOn_5 140 (by decide) v1_3 36 rfl rfl (by omega) (fun c5 => ?_) (fun c5 => ?_)
      · rw [if_pos c5] at hT1
        refine z_locs [0, 1, 2, 3] (lv' := [(0, .ref (zad G 47)), (1, .int side), (2, .int kind), (3, .int (nI v1_3))]) rfl ?_
        exact hk1 v1_3 vw1 (by omega) hT1
      · rw [if_neg c5] at hT1
        refine z_aload_n ok dX3_goesOn_8 0 rfl ?_
        refine z_get_X3_then ok dX3_goesOn_9 hN zw_556 ?_
        refine z_iload_n ok dX3_goesOn_12 3 rfl ?_
        refine z_aload_n ok dX3_goesOn_13 0 rfl ?_
        refine z_get_X3_most ok dX3_goesOn_14 hN zw_555 ?_
        refine z_iload_n ok dX3_goesOn_17 3 rfl ?_
        refine z_mld52 ok dX3_goesOn_18 hN v1_3 rfl (by omega) ?_
        refine z_mst53 ok dX3_goesOn_19 hN v1_3 rfl (by omega) ?_
        replace hT1 := zlet_open hT1
        obtain ⟨w6, hw6, hT1⟩ := hT1
        rw [← hw6]
        refine z_iconst ok dX3_goesOn_20 (x := 0) (by decide) ?_
        refine z_istore ok dX3_goesOn_21 (hI 4 (by decide)) (lv' := [(4, .int 0), (0, .ref (zad G 47)), (1, .int side), (2, .int kind), (3, .int (nI v1_3))]) rfl ?_
        refine z_locs [1, 2, 3, 4, 0] (lv' := [(0, .ref (zad G 47)), (1, .int side), (2, .int kind), (3, .int (nI v1_3)), (4, .int 0)]) rfl ?_
        obtain ⟨kt7, hkt7⟩ : ∃ z, z = ((fun e7_4 ew7 => (d_X3_goesOn_2 side kind kt1 n1 (v1_3 + 1) ew7)) : Nat → xW → xW) := ⟨_, rfl⟩
        rw [← hkt7] at hT1
        have hk7 : ∀ (e7_4 : Nat) (ew7 : xW), e7_4 ≤ 36 → kt7 e7_4 ew7 = u → zZ k G N ew7 134 [(0, .ref (zad G 47)), (1, .int side), (2, .int kind), (3, .int (nI v1_3)), (4, .int (nI e7_4))] [] := by
          intro e7_4 ew7 q7_0 hT7
          rw [hkt7] at hT7
          dsimp only at hT7
          refine z_iinc ok dX3_goesOn_134 (hI 3 (by decide)) 3 rfl (y := (nI (v1_3 + 1))) (z_incn v1_3 1) (lv' := [(3, .int (nI (v1_3 + 1))), (0, .ref (zad G 47)), (1, .int side), (2, .int kind), (4, .int (nI e7_4))]) rfl ?_
          refine z_goto ok dX3_goesOn_137 2 (by decide) ?_
          refine z_locs [1, 2, 3, 0] (lv' := [(0, .ref (zad G 47)), (1, .int side), (2, .int kind), (3, .int (nI (v1_3 + 1)))]) rfl ?_
          exact ih1 (v1_3 + 1) ew7 (by omega) (by omega) hT7
        have hl7 : ∀ (n7 : Nat) (v7_4 : Nat) (vw7 : xW), 36 < v7_4 + n7 → v7_4 ≤ 36 → d_X3_goesOn_23 side kind v1_3 kt7 n7 v7_4 vw7 = u → zZ k G N vw7 23 [(0, .ref (zad G 47)), (1, .int side), (2, .int kind), (3, .int (nI v1_3)), (4, .int (nI v7_4))] [] := by
          intro n7
          induction n7 with
          | zero =>
            intro v7_4 vw7 q7_0 q7_1
            exact absurd q7_0 (by omega)
          | succ n7 ih7 =>
            intro v7_4 vw7 q7_0 q7_1 hT7
            rw [d_X3_goesOn_23] at hT7
            refine z_iload ok dX3_goesOn_23 4 rfl ?_
            refine z_bipush ok dX3_goesOn_25 (x := 36) (by decide) ?_
            refine z_icmp_ge_n ok dX3_goesOn_27 134 (by decide) v7_4 36 rfl rfl (by omega) (fun c8 => ?_) (fun c8 => ?_)
            · rw [if_pos c8] at hT7
              refine z_locs [0, 1, 2, 3, 4] (lv' := [(0, .ref (zad G 47)), (1, .int side), (2, .int kind), (3, .int (nI v1_3)), (4, .int (nI v7_4))]) rfl ?_
              exact hk7 v7_4 vw7 (by omega) hT7
            · rw [if_neg c8] at hT7
              refine z_aload_n ok dX3_goesOn_30 0 rfl ?_
              refine z_get_X3_st ok dX3_goesOn_31 hN zw_549 ?_
              refine z_iconst ok dX3_goesOn_34 (x := 0) (by decide) ?_
              refine z_iload_n ok dX3_goesOn_35 3 rfl ?_
              refine z_iadd_0 ok dX3_goesOn_36 ?_
              refine z_mld48 ok dX3_goesOn_37 hN v1_3 rfl (by omega) ?_
              refine z_iconst ok dX3_goesOn_38 (x := (-1)) (by decide) ?_
              refine z_icmp_ne ok dX3_goesOn_39 134 (by decide) (fun c9 => ?_) (fun c9 => ?_)
              · rw [if_neg c9] at hT7
                refine z_locs [0, 1, 2, 3, 4] (lv' := [(0, .ref (zad G 47)), (1, .int side), (2, .int kind), (3, .int (nI v1_3)), (4, .int (nI v7_4))]) rfl ?_
                exact hk7 v7_4 vw7 (by omega) hT7
              · rw [if_pos c9] at hT7
                refine z_aload_n ok dX3_goesOn_42 0 rfl ?_
                refine z_get_X3_most ok dX3_goesOn_43 hN zw_555 ?_
                refine z_iload ok dX3_goesOn_46 4 rfl ?_
                refine z_mld52 ok dX3_goesOn_48 hN v7_4 rfl (by omega) ?_
                replace hT7 := zlet_open hT7
                obtain ⟨x10, hx10, hT7⟩ := hT7
                have hsx10 := hx10.symm
                have hJx10 : zZ k G N vw7 65 [(0, .ref (zad G 47)), (1, .int side), (2, .int kind), (3, .int (nI v1_3)), (4, .int (nI v7_4))] [.int x10] := by
                  refine z_istore ok dX3_goesOn_65 (hI 5 (by decide)) (lv' := [(5, .int x10), (0, .ref (zad G 47)), (1, .int side), (2, .int kind), (3, .int (nI v1_3)), (4, .int (nI v7_4))]) rfl ?_
                  refine z_iload ok dX3_goesOn_67 0 rfl ?_
                  replace hT7 := zlet_open hT7
                  obtain ⟨x11, hx11, hT7⟩ := hT7
                  have hsx11 := hx11.symm
                  have hJx11 : zZ k G N vw7 96 [(0, .ref (zad G 47)), (1, .int side), (2, .int kind), (3, .int (nI v1_3)), (4, .int (nI v7_4)), (5, .int x10)] [.int x11] := by
                    refine z_istore ok dX3_goesOn_96 (hI 6 (by decide)) (lv' := [(6, .int x11), (0, .ref (zad G 47)), (1, .int side), (2, .int kind), (3, .int (nI v1_3)), (4, .int (nI v7_4)), (5, .int x10)]) rfl ?_
                    refine z_aload_n ok dX3_goesOn_98 1 rfl ?_
                    refine z_get_X3_then ok dX3_goesOn_99 hN zw_556 ?_
                    refine z_iload_n ok dX3_goesOn_102 4 rfl ?_
                    refine z_iload ok dX3_goesOn_103 0 rfl ?_
                    replace hT7 := zlet_open hT7
                    obtain ⟨x12, hx12, hT7⟩ := hT7
                    have hsx12 := hx12.symm
                    have hJx12 : zZ k G N vw7 127 [(0, .ref (zad G 47)), (1, .int side), (2, .int kind), (3, .int (nI v1_3)), (4, .int (nI v7_4)), (5, .int x10), (6, .int x11)] [.int x12, .int (nI v1_3), .ref (zad G 53)] := by
                      refine z_mst53 ok dX3_goesOn_127 hN v1_3 rfl (by omega) ?_
                      replace hT7 := zlet_open hT7
                      obtain ⟨w13, hw13, hT7⟩ := hT7
                      rw [← hw13]
                      refine z_iinc ok dX3_goesOn_128 (hI 4 (by decide)) 4 rfl (y := (nI (v7_4 + 1))) (z_incn v7_4 1) (lv' := [(4, .int (nI (v7_4 + 1))), (0, .ref (zad G 47)), (1, .int side), (2, .int kind), (3, .int (nI v1_3)), (5, .int x10), (6, .int x11)]) rfl ?_
                      refine z_goto ok dX3_goesOn_131 23 (by decide) ?_
                      refine z_locs [1, 2, 3, 4, 0] (lv' := [(0, .ref (zad G 47)), (1, .int side), (2, .int kind), (3, .int (nI v1_3)), (4, .int (nI (v7_4 + 1)))]) rfl ?_
                      exact ih7 (v7_4 + 1) w13 (by omega) (by omega) hT7
                    refine z_if_eq ok dX3_goesOn_105 121 (by decide) (fun c14 => ?_) (fun c14 => ?_)
                    · rw [if_pos c14] at hsx12
                      refine z_aload_n ok dX3_goesOn_121 1 rfl ?_
                      refine z_get_X3_then ok dX3_goesOn_122 hN zw_556 ?_
                      refine z_iload_n ok dX3_goesOn_125 4 rfl ?_
                      refine z_mld53 ok dX3_goesOn_126 hN v1_3 rfl (by omega) ?_
                      rw [← hsx12] at hJx12
                      refine z_locs [1, 2, 3, 4, 5, 6, 0] (lv' := [(0, .ref (zad G 47)), (1, .int side), (2, .int kind), (3, .int (nI v1_3)), (4, .int (nI v7_4)), (5, .int x10), (6, .int x11)]) rfl ?_
                      exact hJx12
                    · rw [if_neg c14] at hsx12
                      refine z_aload_n ok dX3_goesOn_108 1 rfl ?_
                      refine z_get_X3_most ok dX3_goesOn_109 hN zw_555 ?_
                      refine z_iload ok dX3_goesOn_112 5 rfl ?_
                      refine z_mld52 ok dX3_goesOn_114 hN v7_4 rfl (by omega) ?_
                      refine z_iload ok dX3_goesOn_115 6 rfl ?_
                      refine z_isub ok dX3_goesOn_117 ?_
                      refine z_goto ok dX3_goesOn_118 127 (by decide) ?_
                      rw [← hsx12] at hJx12
                      refine z_locs [1, 2, 3, 4, 5, 6, 0] (lv' := [(0, .ref (zad G 47)), (1, .int side), (2, .int kind), (3, .int (nI v1_3)), (4, .int (nI v7_4)), (5, .int x10), (6, .int x11)]) rfl ?_
                      exact hJx12
                  refine z_if_lt ok dX3_goesOn_69 95 (by decide) (fun c15 => ?_) (fun c15 => ?_)
                  · rw [if_pos c15] at hsx11
                    refine z_iconst ok dX3_goesOn_95 (x := 0) (by decide) ?_
                    rw [← hsx11] at hJx11
                    refine z_locs [1, 2, 3, 4, 5, 0] (lv' := [(0, .ref (zad G 47)), (1, .int side), (2, .int kind), (3, .int (nI v1_3)), (4, .int (nI v7_4)), (5, .int x10)]) rfl ?_
                    exact hJx11
                  · rw [if_neg c15] at hsx11
                    refine z_aload_n ok dX3_goesOn_72 1 rfl ?_
                    refine z_get_X3_most ok dX3_goesOn_73 hN zw_555 ?_
                    refine z_iload ok dX3_goesOn_76 5 rfl ?_
                    refine z_mld52 ok dX3_goesOn_78 hN v7_4 rfl (by omega) ?_
                    refine z_iload ok dX3_goesOn_79 0 rfl ?_
                    refine z_isub ok dX3_goesOn_81 ?_
                    refine z_aload_n ok dX3_goesOn_82 1 rfl ?_
                    refine z_get_X3_then ok dX3_goesOn_83 hN zw_556 ?_
                    refine z_iload_n ok dX3_goesOn_86 4 rfl ?_
                    refine z_mld53 ok dX3_goesOn_87 hN v1_3 rfl (by omega) ?_
                    refine z_icmp_le ok dX3_goesOn_88 95 (by decide) (fun c16 => ?_) (fun c16 => ?_)
                    · rw [if_pos c16] at hsx11
                      refine z_iconst ok dX3_goesOn_95 (x := 0) (by decide) ?_
                      rw [← hsx11] at hJx11
                      refine z_locs [1, 2, 3, 4, 5, 0] (lv' := [(0, .ref (zad G 47)), (1, .int side), (2, .int kind), (3, .int (nI v1_3)), (4, .int (nI v7_4)), (5, .int x10)]) rfl ?_
                      exact hJx11
                    · rw [if_neg c16] at hsx11
                      refine z_iconst ok dX3_goesOn_91 (x := 1) (by decide) ?_
                      refine z_goto ok dX3_goesOn_92 96 (by decide) ?_
                      rw [← hsx11] at hJx11
                      refine z_locs [1, 2, 3, 4, 5, 0] (lv' := [(0, .ref (zad G 47)), (1, .int side), (2, .int kind), (3, .int (nI v1_3)), (4, .int (nI v7_4)), (5, .int x10)]) rfl ?_
                      exact hJx11
                refine z_if_ge ok dX3_goesOn_49 56 (by decide) (fun c17 => ?_) (fun c17 => ?_)
                · rw [if_pos c17] at hsx10
                  refine z_aload_n ok dX3_goesOn_56 0 rfl ?_
                  refine z_iload_n ok dX3_goesOn_57 1 rfl ?_
                  refine z_iload_n ok dX3_goesOn_58 2 rfl ?_
                  refine z_iload ok dX3_goesOn_59 4 rfl ?_
                  refine z_iload_n ok dX3_goesOn_61 3 rfl ?_
                  refine z_callVi ok old dX3_goesOn_62 [] (c_X3_costBy G N hN hg vw7 side kind v7_4 (by omega) v1_3 (by omega)) zy_X3_costBy zw_642 47 (by omega) (zE_47 G vw7) rfl rfl rfl rfl rfl (by decide) (Nat.le_of_ble_eq_true rfl) ?_
                  rw [← hsx10] at hJx10
                  refine z_locs [0, 1, 2, 3, 4] (lv' := [(0, .ref (zad G 47)), (1, .int side), (2, .int kind), (3, .int (nI v1_3)), (4, .int (nI v7_4))]) rfl ?_
                  exact hJx10
                · rw [if_neg c17] at hsx10
                  refine z_iconst ok dX3_goesOn_52 (x := (-1)) (by decide) ?_
                  refine z_goto ok dX3_goesOn_53 65 (by decide) ?_
                  rw [← hsx10] at hJx10
                  refine z_locs [0, 1, 2, 3, 4] (lv' := [(0, .ref (zad G 47)), (1, .int side), (2, .int kind), (3, .int (nI v1_3)), (4, .int (nI v7_4))]) rfl ?_
                  exact hJx10
        exact hl7 37 0 w6 (by omega) (by omega) hT1
  exact hl1 37 0 w (by omega) (by omega) hT

def d_X3_reach_133k (w10 : xW) (e11_5 : Int32) (e11_6 : Nat) : Int32 × xW :=
  (e11_5, w10)
def d_X3_reach_133 (w10 : xW) (kt11 : Int32 → Nat → (Int32 × xW)) : Nat → Int32 → Nat → Int32 × xW
  | 0, _, _ => default
  | n11 + 1, v11_5, v11_6 => if 36 ≤ v11_6 then (kt11 v11_5 v11_6)
  else (zlet (if (xg w10 15 v11_6) < 0 then (0)
  else (1) : Int32) fun x13 =>
  zlet ((v11_5 + x13)) fun x14 =>
  d_X3_reach_133 w10 kt11 n11 x14 (v11_6 + 1))
def d_X3_reach_104k  (e9_5 : Nat) (ew9 : xW) : Int32 × xW :=
  zlet (d_X3_bringsBack ew9) fun w10 =>
  d_X3_reach_133 w10 (d_X3_reach_133k w10) 37 0 0
def d_X3_reach_104 (c_moves : Nat) (x3 : Int32) (x4 : Int32) (kt9 : Nat → xW → (Int32 × xW)) : Nat → Nat → xW → Int32 × xW
  | 0, _, _ => default
  | n9 + 1, v9_5, vw9 => if c_moves ≤ v9_5 then (kt9 v9_5 vw9)
  else (zlet (d_X3_goesOn vw9 x3 x4) fun w17 =>
  d_X3_reach_104 c_moves x3 x4 kt9 n9 (v9_5 + 1) w17)
def d_X3_reach_54k (c_cell : Nat) (c_moves : Nat) (x3 : Int32) (x4 : Int32) (e7_5 : Nat) (ew7 : xW) : Int32 × xW :=
  zlet (d_X3_lays ew7 c_cell (-1) 0 0) fun w8 =>
  d_X3_reach_104 c_moves x3 x4 d_X3_reach_104k (c_moves + 1) 0 w8
def d_X3_reach_54 (c_cell : Nat) (kt7 : Nat → xW → (Int32 × xW)) : Nat → Nat → xW → Int32 × xW
  | 0, _, _ => default
  | n7 + 1, v7_5, vw7 => if 36 ≤ v7_5 then (kt7 v7_5 vw7)
  else (zlet (if v7_5 = c_cell then ((xg vw7 11 (72 + c_cell)))
  else ((-1)) : Int32) fun x19 =>
  zlet (xs vw7 15 v7_5 x19) fun w20 =>
  d_X3_reach_54 c_cell kt7 n7 (v7_5 + 1) w20)
def d_X3_reach (w : xW) (cell : Int32) (moves : Int32) : Int32 × xW :=
  if (d_X3_isCell w cell) = 0 then (((-1), w))
  else (if (d_X3_in w moves 0 12) = 0 then (((-1), w))
  else (zlet cell.toNatClampNeg fun c_cell =>
  zlet moves.toNatClampNeg fun c_moves =>
  zlet ((xg w 11 c_cell)) fun x3 =>
  zlet ((xg w 11 (36 + c_cell))) fun x4 =>
  if x3 = (-1) then (((-4), w))
  else (zlet (d_X3_laysAside w) fun w6 =>
  d_X3_reach_54 c_cell (d_X3_reach_54k c_cell c_moves x3 x4) 37 0 w6)))
set_option maxRecDepth 100000 in
set_option maxHeartbeats 4000000 in
theorem c_X3_reach (G : zG) (N : Nat) (hN : 54 ≤ N) (hg : zGeo G N) (w : xW) (cell : Int32) (moves : Int32) : zM yX3_reach cX3_reach 7 (some .int) 4 98 G N [.ref (zad G 47), .int cell, .int moves] w (some (d_X3_reach w cell moves).1) (d_X3_reach w cell moves).2 := by
  obtain ⟨r, u, hT⟩ := zpair (d_X3_reach w cell moves)
  rw [hT]
  dsimp only
  unfold d_X3_reach at hT
  refine zM_of zy_X3_reach.2.2.2.2.2.2.2 hg ⟨Nat.le_of_ble_eq_true rfl, by decide⟩ rfl (fun k ok hE hI => ?_)
  have old := hE.old
  refine z_iload_n ok dX3_reach_0 1 rfl ?_
  refine z_callSi ok old dX3_reach_1 [] (c_X3_isCell G N hN hg w cell) zy_X3_isCell zw_615 rfl rfl (by decide) (Nat.le_of_ble_eq_true rfl) ?_
  refine z_if_eq ok dX3_reach_4 17 (by decide) (fun c1 => ?_) (fun c1 => ?_)
  · rw [if_pos c1] at hT
    refine z_iconst ok dX3_reach_17 (x := (-1)) (by decide) ?_
    exact z_iret ok hE dX3_reach_18 rfl ⟨congrArg Prod.fst hT, congrArg Prod.snd hT⟩
  · rw [if_neg c1] at hT
    refine z_iload_n ok dX3_reach_7 2 rfl ?_
    refine z_iconst ok dX3_reach_8 (x := 0) (by decide) ?_
    refine z_bipush ok dX3_reach_9 (x := 12) (by decide) ?_
    refine z_callSi ok old dX3_reach_11 [] (c_X3_in G N hN hg w moves 0 12) zy_X3_in zw_608 rfl rfl (by decide) (Nat.le_of_ble_eq_true rfl) ?_
    refine z_if_ne ok dX3_reach_14 19 (by decide) (fun c2 => ?_) (fun c2 => ?_)
    · rw [if_neg c2] at hT
      replace hT := zlet_open hT
      obtain ⟨c_cell, hc_cell, hT⟩ := hT
      obtain ⟨lc_cell, ec_cell⟩ := zcellx (zisCell3 (by assumption)) hc_cell
      subst ec_cell
      replace hT := zlet_open hT
      obtain ⟨c_moves, hc_moves, hT⟩ := hT
      obtain ⟨lc_moves, ec_moves⟩ := zcellx (zin0_12 (by assumption)) hc_moves
      subst ec_moves
      refine z_aload_n ok dX3_reach_19 0 rfl ?_
      refine z_get_X3_st ok dX3_reach_20 hN zw_549 ?_
      refine z_iconst ok dX3_reach_23 (x := 0) (by decide) ?_
      refine z_iload_n ok dX3_reach_24 1 rfl ?_
      refine z_iadd_0 ok dX3_reach_25 ?_
      refine z_mld48 ok dX3_reach_26 hN c_cell rfl (by omega) ?_
      replace hT := zlet_open hT
      obtain ⟨x3, hx3, hT⟩ := hT
      rw [← hx3]
      refine z_istore_n ok dX3_reach_27 (hI 3 (by decide)) (lv' := [(3, .int x3), (0, .ref (zad G 47)), (1, .int (nI c_cell)), (2, .int (nI c_moves))]) rfl ?_
      refine z_aload_n ok dX3_reach_28 1 rfl ?_
      refine z_get_X3_st ok dX3_reach_29 hN zw_549 ?_
      refine z_bipush ok dX3_reach_32 (x := 36) (by decide) ?_
      refine z_iload_n ok dX3_reach_34 2 rfl ?_
      refine z_iadd_n ok dX3_reach_35 36 c_cell rfl rfl ?_
      refine z_mld48 ok dX3_reach_36 hN (36 + c_cell) rfl (by omega) ?_
      replace hT := zlet_open hT
      obtain ⟨x4, hx4, hT⟩ := hT
      rw [← hx4]
      refine z_istore ok dX3_reach_37 (hI 4 (by decide)) (lv' := [(4, .int x4), (3, .int x3), (0, .ref (zad G 47)), (1, .int (nI c_cell)), (2, .int (nI c_moves))]) rfl ?_
      refine z_iload_n ok dX3_reach_39 1 rfl ?_
      refine z_iconst ok dX3_reach_40 (x := (-1)) (by decide) ?_
      refine z_icmp_ne ok dX3_reach_41 47 (by decide) (fun c5 => ?_) (fun c5 => ?_)
      · rw [if_neg c5] at hT
        refine z_aload_n ok dX3_reach_47 2 rfl ?_
        refine z_callVv ok old dX3_reach_48 [] (c_X3_laysAside G N hN hg w ) zy_X3_laysAside zw_730 47 (by omega) (zE_47 G w) rfl rfl rfl rfl rfl (by decide) (Nat.le_of_ble_eq_true rfl) ?_
        replace hT := zlet_open hT
        obtain ⟨w6, hw6, hT⟩ := hT
        rw [← hw6]
        refine z_iconst ok dX3_reach_51 (x := 0) (by decide) ?_
        refine z_istore ok dX3_reach_52 (hI 5 (by decide)) (lv' := [(5, .int 0), (4, .int x4), (3, .int x3), (0, .ref (zad G 47)), (1, .int (nI c_cell)), (2, .int (nI c_moves))]) rfl ?_
        refine z_locs [3, 4, 5, 2, 1, 0] (lv' := [(0, .ref (zad G 47)), (1, .int (nI c_cell)), (2, .int (nI c_moves)), (3, .int x3), (4, .int x4), (5, .int 0)]) rfl ?_
        obtain ⟨kt7, hkt7⟩ : ∃ z, z = (d_X3_reach_54k c_cell c_moves x3 x4) := ⟨_, rfl⟩
        rw [← hkt7] at hT
        have hk7 : ∀ (e7_5 : Nat) (ew7 : xW), e7_5 ≤ 36 → kt7 e7_5 ew7 = (r, u) → zZ k G N ew7 93 [(0, .ref (zad G 47)), (1, .int (nI c_cell)), (2, .int (nI c_moves)), (3, .int x3), (4, .int x4), (5, .int (nI e7_5))] [] := by
          intro e7_5 ew7 q7_0 hT7
          rw [hkt7, d_X3_reach_54k] at hT7
          refine z_aload_n ok dX3_reach_93 0 rfl ?_
          refine z_iload_n ok dX3_reach_94 1 rfl ?_
          refine z_iconst ok dX3_reach_95 (x := (-1)) (by decide) ?_
          refine z_iconst ok dX3_reach_96 (x := 0) (by decide) ?_
          refine z_iconst ok dX3_reach_97 (x := 0) (by decide) ?_
          refine z_callVv ok old dX3_reach_98 [] (c_X3_lays G N hN hg ew7 c_cell (by omega) (-1) 0 0) zy_X3_lays zw_537 47 (by omega) (zE_47 G ew7) rfl rfl rfl rfl rfl (by decide) (Nat.le_of_ble_eq_true rfl) ?_
          replace hT7 := zlet_open hT7
          obtain ⟨w8, hw8, hT7⟩ := hT7
          rw [← hw8]
          refine z_iconst ok dX3_reach_101 (x := 0) (by decide) ?_
          refine z_istore ok dX3_reach_102 (hI 5 (by decide)) (lv' := [(5, .int 0), (0, .ref (zad G 47)), (1, .int (nI c_cell)), (2, .int (nI c_moves)), (3, .int x3), (4, .int x4)]) rfl ?_
          refine z_locs [1, 2, 3, 4, 5, 0] (lv' := [(0, .ref (zad G 47)), (1, .int (nI c_cell)), (2, .int (nI c_moves)), (3, .int x3), (4, .int x4), (5, .int 0)]) rfl ?_
          obtain ⟨kt9, hkt9⟩ : ∃ z, z = d_X3_reach_104k := ⟨_, rfl⟩
          rw [← hkt9] at hT7
          have hk9 : ∀ (e9_5 : Nat) (ew9 : xW), e9_5 ≤ c_moves → kt9 e9_5 ew9 = (r, u) → zZ k G N ew9 123 [(0, .ref (zad G 47)), (1, .int (nI c_cell)), (2, .int (nI c_moves)), (3, .int x3), (4, .int x4), (5, .int (nI e9_5))] [] := by
            intro e9_5 ew9 q9_0 hT9
            rw [hkt9, d_X3_reach_104k] at hT9
            refine z_aload_n ok dX3_reach_123 0 rfl ?_
            refine z_callVv ok old dX3_reach_124 [] (c_X3_bringsBack G N hN hg ew9 ) zy_X3_bringsBack zw_734 47 (by omega) (zE_47 G ew9) rfl rfl rfl rfl rfl (by decide) (Nat.le_of_ble_eq_true rfl) ?_
            replace hT9 := zlet_open hT9
            obtain ⟨w10, hw10, hT9⟩ := hT9
            rw [← hw10]
            refine z_iconst ok dX3_reach_127 (x := 0) (by decide) ?_
            refine z_istore ok dX3_reach_128 (hI 5 (by decide)) (lv' := [(5, .int 0), (0, .ref (zad G 47)), (1, .int (nI c_cell)), (2, .int (nI c_moves)), (3, .int x3), (4, .int x4)]) rfl ?_
            refine z_iconst ok dX3_reach_130 (x := 0) (by decide) ?_
            refine z_istore ok dX3_reach_131 (hI 6 (by decide)) (lv' := [(6, .int 0), (5, .int 0), (0, .ref (zad G 47)), (1, .int (nI c_cell)), (2, .int (nI c_moves)), (3, .int x3), (4, .int x4)]) rfl ?_
            refine z_locs [2, 3, 4, 5, 6, 1, 0] (lv' := [(0, .ref (zad G 47)), (1, .int (nI c_cell)), (2, .int (nI c_moves)), (3, .int x3), (4, .int x4), (5, .int 0), (6, .int 0)]) rfl ?_
            obtain ⟨kt11, hkt11⟩ : ∃ z, z = (d_X3_reach_133k w10) := ⟨_, rfl⟩
            rw [← hkt11] at hT9
            have hk11 : ∀ (e11_5 : Int32) (e11_6 : Nat), e11_6 ≤ 36 → kt11 e11_5 e11_6 = (r, u) → zZ k G N w10 166 [(0, .ref (zad G 47)), (1, .int (nI c_cell)), (2, .int (nI c_moves)), (3, .int x3), (4, .int x4), (5, .int e11_5), (6, .int (nI e11_6))] [] := by
              intro e11_5 e11_6 q11_0 hT11
              rw [hkt11, d_X3_reach_133k] at hT11
              refine z_iload ok dX3_reach_166 5 rfl ?_
              exact z_iret ok hE dX3_reach_168 rfl ⟨congrArg Prod.fst hT11, congrArg Prod.snd hT11⟩
            have hl11 : ∀ (n11 : Nat) (v11_5 : Int32) (v11_6 : Nat), 36 < v11_6 + n11 → v11_6 ≤ 36 → d_X3_reach_133 w10 kt11 n11 v11_5 v11_6 = (r, u) → zZ k G N w10 133 [(0, .ref (zad G 47)), (1, .int (nI c_cell)), (2, .int (nI c_moves)), (3, .int x3), (4, .int x4), (5, .int v11_5), (6, .int (nI v11_6))] [] := by
              intro n11
              induction n11 with
              | zero =>
                intro v11_5 v11_6 q11_0 q11_1
                exact absurd q11_0 (by omega)
              | succ n11 ih11 =>
                intro v11_5 v11_6 q11_0 q11_1 hT11
                rw [d_X3_reach_133] at hT11
                refine z_iload ok dX3_reach_133 6 rfl ?_
                refine z_bipush ok dX3_reach_135 (x := 36) (by decide) ?_
                refine z_icmp_ge_n ok dX3_reach_137 166 (by decide) v11_6 36 rfl rfl (by omega) (fun c12 => ?_) (fun c12 => ?_)
                · rw [if_pos c12] at hT11
                  refine z_locs [0, 1, 2, 3, 4, 5, 6] (lv' := [(0, .ref (zad G 47)), (1, .int (nI c_cell)), (2, .int (nI c_moves)), (3, .int x3), (4, .int x4), (5, .int v11_5), (6, .int (nI v11_6))]) rfl ?_
                  exact hk11 v11_5 v11_6 (by omega) hT11
                · rw [if_neg c12] at hT11
                  refine z_iload ok dX3_reach_140 5 rfl ?_
                  refine z_aload_n ok dX3_reach_142 0 rfl ?_
                  refine z_get_X3_most ok dX3_reach_143 hN zw_555 ?_
                  refine z_iload ok dX3_reach_146 6 rfl ?_
                  refine z_mld52 ok dX3_reach_148 hN v11_6 rfl (by omega) ?_
                  replace hT11 := zlet_open hT11
                  obtain ⟨x13, hx13, hT11⟩ := hT11
                  have hsx13 := hx13.symm
                  have hJx13 : zZ k G N w10 157 [(0, .ref (zad G 47)), (1, .int (nI c_cell)), (2, .int (nI c_moves)), (3, .int x3), (4, .int x4), (5, .int v11_5), (6, .int (nI v11_6))] [.int x13, .int v11_5] := by
                    refine z_iadd ok dX3_reach_157 ?_
                    replace hT11 := zlet_open hT11
                    obtain ⟨x14, hx14, hT11⟩ := hT11
                    rw [← hx14]
                    refine z_istore ok dX3_reach_158 (hI 5 (by decide)) (lv' := [(5, .int x14), (0, .ref (zad G 47)), (1, .int (nI c_cell)), (2, .int (nI c_moves)), (3, .int x3), (4, .int x4), (6, .int (nI v11_6))]) rfl ?_
                    refine z_iinc ok dX3_reach_160 (hI 6 (by decide)) 6 rfl (y := (nI (v11_6 + 1))) (z_incn v11_6 1) (lv' := [(6, .int (nI (v11_6 + 1))), (5, .int x14), (0, .ref (zad G 47)), (1, .int (nI c_cell)), (2, .int (nI c_moves)), (3, .int x3), (4, .int x4)]) rfl ?_
                    refine z_goto ok dX3_reach_163 133 (by decide) ?_
                    refine z_locs [2, 3, 4, 5, 6, 1, 0] (lv' := [(0, .ref (zad G 47)), (1, .int (nI c_cell)), (2, .int (nI c_moves)), (3, .int x3), (4, .int x4), (5, .int x14), (6, .int (nI (v11_6 + 1)))]) rfl ?_
                    exact ih11 x14 (v11_6 + 1) (by omega) (by omega) hT11
                  refine z_if_lt ok dX3_reach_149 156 (by decide) (fun c15 => ?_) (fun c15 => ?_)
                  · rw [if_pos c15] at hsx13
                    refine z_iconst ok dX3_reach_156 (x := 0) (by decide) ?_
                    rw [← hsx13] at hJx13
                    refine z_locs [0, 1, 2, 3, 4, 5, 6] (lv' := [(0, .ref (zad G 47)), (1, .int (nI c_cell)), (2, .int (nI c_moves)), (3, .int x3), (4, .int x4), (5, .int v11_5), (6, .int (nI v11_6))]) rfl ?_
                    exact hJx13
                  · rw [if_neg c15] at hsx13
                    refine z_iconst ok dX3_reach_152 (x := 1) (by decide) ?_
                    refine z_goto ok dX3_reach_153 157 (by decide) ?_
                    rw [← hsx13] at hJx13
                    refine z_locs [0, 1, 2, 3, 4, 5, 6] (lv' := [(0, .ref (zad G 47)), (1, .int (nI c_cell)), (2, .int (nI c_moves)), (3, .int x3), (4, .int x4), (5, .int v11_5), (6, .int (nI v11_6))]) rfl ?_
                    exact hJx13
            exact hl11 37 0 0 (by omega) (by omega) hT9
          have hl9 : ∀ (n9 : Nat) (v9_5 : Nat) (vw9 : xW), c_moves < v9_5 + n9 → v9_5 ≤ c_moves → d_X3_reach_104 c_moves x3 x4 kt9 n9 v9_5 vw9 = (r, u) → zZ k G N vw9 104 [(0, .ref (zad G 47)), (1, .int (nI c_cell)), (2, .int (nI c_moves)), (3, .int x3), (4, .int x4), (5, .int (nI v9_5))] [] := by
            intro n9
            induction n9 with
            | zero =>
              intro v9_5 vw9 q9_0 q9_1
              exact absurd q9_0 (by omega)
            | succ n9 ih9 =>
              intro v9_5 vw9 q9_0 q9_1 hT9
              rw [d_X3_reach_104] at hT9
              refine z_iload ok dX3_reach_104 5 rfl ?_
              refine z_iload_n ok dX3_reach_106 2 rfl ?_
              refine z_icmp_ge_n ok dX3_reach_107 123 (by decide) v9_5 c_moves rfl rfl (by omega) (fun c16 => ?_) (fun c16 => ?_)
              · rw [if_pos c16] at hT9
                refine z_locs [0, 1, 2, 3, 4, 5] (lv' := [(0, .ref (zad G 47)), (1, .int (nI c_cell)), (2, .int (nI c_moves)), (3, .int x3), (4, .int x4), (5, .int (nI v9_5))]) rfl ?_
                exact hk9 v9_5 vw9 (by omega) hT9
              · rw [if_neg c16] at hT9
                refine z_aload_n ok dX3_reach_110 0 rfl ?_
                refine z_iload_n ok dX3_reach_111 3 rfl ?_
                refine z_iload ok dX3_reach_112 4 rfl ?_
                refine z_callVv ok old dX3_reach_114 [] (c_X3_goesOn G N hN hg vw9 x3 x4) zy_X3_goesOn zw_742 47 (by omega) (zE_47 G vw9) rfl rfl rfl rfl rfl (by decide) (Nat.le_of_ble_eq_true rfl) ?_
                replace hT9 := zlet_open hT9
                obtain ⟨w17, hw17, hT9⟩ := hT9
                rw [← hw17]
                refine z_iinc ok dX3_reach_117 (hI 5 (by decide)) 5 rfl (y := (nI (v9_5 + 1))) (z_incn v9_5 1) (lv' := [(5, .int (nI (v9_5 + 1))), (0, .ref (zad G 47)), (1, .int (nI c_cell)), (2, .int (nI c_moves)), (3, .int x3), (4, .int x4)]) rfl ?_
                refine z_goto ok dX3_reach_120 104 (by decide) ?_
                refine z_locs [1, 2, 3, 4, 5, 0] (lv' := [(0, .ref (zad G 47)), (1, .int (nI c_cell)), (2, .int (nI c_moves)), (3, .int x3), (4, .int x4), (5, .int (nI (v9_5 + 1)))]) rfl ?_
                exact ih9 (v9_5 + 1) w17 (by omega) (by omega) hT9
          exact hl9 (c_moves + 1) 0 w8 (by omega) (by omega) hT7
        have hl7 : ∀ (n7 : Nat) (v7_5 : Nat) (vw7 : xW), 36 < v7_5 + n7 → v7_5 ≤ 36 → d_X3_reach_54 c_cell kt7 n7 v7_5 vw7 = (r, u) → zZ k G N vw7 54 [(0, .ref (zad G 47)), (1, .int (nI c_cell)), (2, .int (nI c_moves)), (3, .int x3), (4, .int x4), (5, .int (nI v7_5))] [] := by
          intro n7
          induction n7 with
          | zero =>
            intro v7_5 vw7 q7_0 q7_1
            exact absurd q7_0 (by omega)
          | succ n7 ih7 =>
            intro v7_5 vw7 q7_0 q7_1 hT7
            rw [d_X3_reach_54] at hT7
            refine z_iload ok dX3_reach_54 5 rfl ?_
            refine z_bipush ok dX3_reach_56 (x := 36) (by decide) ?_
            refine z_icmp_ge_n ok dX3_reach_58 93 (by decide) v7_5 36 rfl rfl (by omega) (fun c18 => ?_) (fun c18 => ?_)
            · rw [if_pos c18] at hT7
              refine z_locs [0, 1, 2, 3, 4, 5] (lv' := [(0, .ref (zad G 47)), (1, .int (nI c_cell)), (2, .int (nI c_moves)), (3, .int x3), (4, .int x4), (5, .int (nI v7_5))]) rfl ?_
              exact hk7 v7_5 vw7 (by omega) hT7
            · rw [if_neg c18] at hT7
              refine z_aload_n ok dX3_reach_61 0 rfl ?_
              refine z_get_X3_most ok dX3_reach_62 hN zw_555 ?_
              refine z_iload ok dX3_reach_65 5 rfl ?_
              refine z_iload ok dX3_reach_67 5 rfl ?_
              refine z_iload_n ok dX3_reach_69 1 rfl ?_
              replace hT7 := zlet_open hT7
              obtain ⟨x19, hx19, hT7⟩ := hT7
              have hsx19 := hx19.symm
              have hJx19 : zZ k G N vw7 86 [(0, .ref (zad G 47)), (1, .int (nI c_cell)), (2, .int (nI c_moves)), (3, .int x3), (4, .int x4), (5, .int (nI v7_5))] [.int x19, .int (nI v7_5), .ref (zad G 52)] := by
                refine z_mst52 ok dX3_reach_86 hN v7_5 rfl (by omega) ?_
                replace hT7 := zlet_open hT7
                obtain ⟨w20, hw20, hT7⟩ := hT7
                rw [← hw20]
                refine z_iinc ok dX3_reach_87 (hI 5 (by decide)) 5 rfl (y := (nI (v7_5 + 1))) (z_incn v7_5 1) (lv' := [(5, .int (nI (v7_5 + 1))), (0, .ref (zad G 47)), (1, .int (nI c_cell)), (2, .int (nI c_moves)), (3, .int x3), (4, .int x4)]) rfl ?_
                refine z_goto ok dX3_reach_90 54 (by decide) ?_
                refine z_locs [1, 2, 3, 4, 5, 0] (lv' := [(0, .ref (zad G 47)), (1, .int (nI c_cell)), (2, .int (nI c_moves)), (3, .int x3), (4, .int x4), (5, .int (nI (v7_5 + 1)))]) rfl ?_
                exact ih7 (v7_5 + 1) w20 (by omega) (by omega) hT7
              refine z_icmp_ne_n ok dX3_reach_70 85 (by decide) v7_5 c_cell rfl rfl (by omega) (fun c21 => ?_) (fun c21 => ?_)
              · rw [if_neg c21] at hsx19
                refine z_iconst ok dX3_reach_85 (x := (-1)) (by decide) ?_
                rw [← hsx19] at hJx19
                refine z_locs [0, 1, 2, 3, 4, 5] (lv' := [(0, .ref (zad G 47)), (1, .int (nI c_cell)), (2, .int (nI c_moves)), (3, .int x3), (4, .int x4), (5, .int (nI v7_5))]) rfl ?_
                exact hJx19
              · rw [if_pos c21] at hsx19
                refine z_aload_n ok dX3_reach_73 0 rfl ?_
                refine z_get_X3_st ok dX3_reach_74 hN zw_549 ?_
                refine z_bipush ok dX3_reach_77 (x := 72) (by decide) ?_
                refine z_iload_n ok dX3_reach_79 1 rfl ?_
                refine z_iadd_n ok dX3_reach_80 72 c_cell rfl rfl ?_
                refine z_mld48 ok dX3_reach_81 hN (72 + c_cell) rfl (by omega) ?_
                refine z_goto ok dX3_reach_82 86 (by decide) ?_
                rw [← hsx19] at hJx19
                refine z_locs [0, 1, 2, 3, 4, 5] (lv' := [(0, .ref (zad G 47)), (1, .int (nI c_cell)), (2, .int (nI c_moves)), (3, .int x3), (4, .int x4), (5, .int (nI v7_5))]) rfl ?_
                exact hJx19
        exact hl7 37 0 w6 (by omega) (by omega) hT
      · rw [if_pos c5] at hT
        refine z_bipush ok dX3_reach_44 (x := (-4)) (by decide) ?_
        exact z_iret ok hE dX3_reach_46 rfl ⟨congrArg Prod.fst hT, congrArg Prod.snd hT⟩
    · rw [if_pos c2] at hT
      refine z_iconst ok dX3_reach_17 (x := (-1)) (by decide) ?_
      exact z_iret ok hE dX3_reach_18 rfl ⟨congrArg Prod.fst hT, congrArg Prod.snd hT⟩

def d_X3_goodFor (w : xW) (side : Int32) : Int32 :=
  if (xg w 11 145) ≤ 0 then ((((d_X3_springs w side) - (d_X3_springs w (1 - side))) + 0))
  else ((((d_X3_springs w side) - (d_X3_springs w (1 - side))) + 10000))
set_option maxRecDepth 100000 in
set_option maxHeartbeats 4000000 in
theorem c_X3_goodFor (G : zG) (N : Nat) (hN : 54 ≤ N) (hg : zGeo G N) (w : xW) (side : Int32) : zM yX3_goodFor cX3_goodFor 2 (some .int) 1 23 G N [.ref (zad G 47), .int side] w (some (d_X3_goodFor w side)) w := by
  generalize hT : d_X3_goodFor w side = r
  unfold d_X3_goodFor at hT
  refine zM_of zy_X3_goodFor.2.2.2.2.2.2.2 hg ⟨Nat.le_of_ble_eq_true rfl, by decide⟩ rfl (fun k ok hE hI => ?_)
  have old := hE.old
  refine z_aload_n ok dX3_goodFor_0 0 rfl ?_
  refine z_iload_n ok dX3_goodFor_1 1 rfl ?_
  refine z_callVi ok old dX3_goodFor_2 [] (c_X3_springs G N hN hg w side) zy_X3_springs zw_545 47 (by omega) (zE_47 G w) rfl rfl rfl rfl rfl (by decide) (Nat.le_of_ble_eq_true rfl) ?_
  refine z_aload_n ok dX3_goodFor_5 0 rfl ?_
  refine z_iconst ok dX3_goodFor_6 (x := 1) (by decide) ?_
  refine z_iload_n ok dX3_goodFor_7 1 rfl ?_
  refine z_isub ok dX3_goodFor_8 ?_
  refine z_callVi ok old dX3_goodFor_9 [.int (d_X3_springs w side)] (c_X3_springs G N hN hg w (1 - side)) zy_X3_springs zw_545 47 (by omega) (zE_47 G w) rfl rfl rfl rfl rfl (by decide) (Nat.le_of_ble_eq_true rfl) ?_
  refine z_isub ok dX3_goodFor_12 ?_
  refine z_aload_n ok dX3_goodFor_13 0 rfl ?_
  refine z_get_X3_st ok dX3_goodFor_14 hN zw_549 ?_
  refine z_sipush ok dX3_goodFor_17 (x := 145) (by decide) ?_
  refine z_mld48 ok dX3_goodFor_20 hN 145 rfl (by omega) ?_
  refine z_if_le ok dX3_goodFor_21 30 (by decide) (fun c1 => ?_) (fun c1 => ?_)
  · rw [if_pos c1] at hT
    refine z_iconst ok dX3_goodFor_30 (x := 0) (by decide) ?_
    refine z_iadd ok dX3_goodFor_31 ?_
    exact z_iret ok hE dX3_goodFor_32 rfl ⟨hT, rfl⟩
  · rw [if_neg c1] at hT
    refine z_sipush ok dX3_goodFor_24 (x := 10000) (by decide +kernel) ?_
    refine z_goto ok dX3_goodFor_27 31 (by decide) ?_
    refine z_iadd ok dX3_goodFor_31 ?_
    exact z_iret ok hE dX3_goodFor_32 rfl ⟨hT, rfl⟩

def d_X3_type (w : xW) (ch : Int32) : Int32 × xW :=
  if (d_X3_in w ch 32 126) = 0 then (((-1), w))
  else (if (xg w 17 1) = 80 then (((-3), w))
  else (zlet (xs w 14 ((xg w 17 1)).toNatClampNeg ch) fun w3 =>
  zlet (xs w3 17 1 ((xg w3 17 1) + 1)) fun w4 =>
  ((xg w4 17 1), w4)))
set_option maxRecDepth 100000 in
set_option maxHeartbeats 4000000 in
theorem c_X3_type (G : zG) (N : Nat) (hN : 54 ≤ N) (hg : zGeo G N) (w : xW) (ch : Int32) (h_l : ∃ n, n ≤ 80 ∧ xg w 17 1 = nI n) : zM yX3_type cX3_type 2 (some .int) 1 22 G N [.ref (zad G 47), .int ch] w (some (d_X3_type w ch).1) (d_X3_type w ch).2 := by
  obtain ⟨r, u, hT⟩ := zpair (d_X3_type w ch)
  rw [hT]
  dsimp only
  unfold d_X3_type at hT
  refine zM_of zy_X3_type.2.2.2.2.2.2.2 hg ⟨Nat.le_of_ble_eq_true rfl, by decide⟩ rfl (fun k ok hE hI => ?_)
  have old := hE.old
  refine z_iload_n ok dX3_type_0 1 rfl ?_
  refine z_bipush ok dX3_type_1 (x := 32) (by decide) ?_
  refine z_bipush ok dX3_type_3 (x := 126) (by decide) ?_
  refine z_callSi ok old dX3_type_5 [] (c_X3_in G N hN hg w ch 32 126) zy_X3_in zw_608 rfl rfl (by decide) (Nat.le_of_ble_eq_true rfl) ?_
  refine z_if_ne ok dX3_type_8 13 (by decide) (fun c1 => ?_) (fun c1 => ?_)
  · rw [if_neg c1] at hT
    refine z_aload_n ok dX3_type_13 0 rfl ?_
    refine z_get_X3_length ok dX3_type_14 hN zw_554 ?_
    refine z_bipush ok dX3_type_17 (x := 80) (by decide) ?_
    refine z_icmp_ne ok dX3_type_19 25 (by decide) (fun c2 => ?_) (fun c2 => ?_)
    · rw [if_neg c2] at hT
      refine z_aload_n ok dX3_type_25 0 rfl ?_
      refine z_get_X3_text ok dX3_type_26 hN zw_553 ?_
      refine z_aload_n ok dX3_type_29 0 rfl ?_
      refine z_get_X3_length ok dX3_type_30 hN zw_554 ?_
      refine z_iload_n ok dX3_type_33 1 rfl ?_
      refine z_mst51 ok dX3_type_34 hN ((xg w 17 1)).toNatClampNeg (zidx_len (by assumption) (by assumption)).1 (zidx_len (by assumption) (by assumption)).2 ?_
      replace hT := zlet_open hT
      obtain ⟨w3, hw3, hT⟩ := hT
      rw [← hw3]
      refine z_aload_n ok dX3_type_35 0 rfl ?_
      refine z_dup ok dX3_type_36 rfl ?_
      refine z_get_X3_length ok dX3_type_37 hN zw_554 ?_
      refine z_iconst ok dX3_type_40 (x := 1) (by decide) ?_
      refine z_iadd ok dX3_type_41 ?_
      refine z_put_X3_length ok dX3_type_42 hN zw_554 ?_
      replace hT := zlet_open hT
      obtain ⟨w4, hw4, hT⟩ := hT
      rw [← hw4]
      refine z_aload_n ok dX3_type_45 0 rfl ?_
      refine z_get_X3_length ok dX3_type_46 hN zw_554 ?_
      exact z_iret ok hE dX3_type_49 rfl ⟨congrArg Prod.fst hT, congrArg Prod.snd hT⟩
    · rw [if_pos c2] at hT
      refine z_bipush ok dX3_type_22 (x := (-3)) (by decide) ?_
      exact z_iret ok hE dX3_type_24 rfl ⟨congrArg Prod.fst hT, congrArg Prod.snd hT⟩
  · rw [if_pos c1] at hT
    refine z_iconst ok dX3_type_11 (x := (-1)) (by decide) ?_
    exact z_iret ok hE dX3_type_12 rfl ⟨congrArg Prod.fst hT, congrArg Prod.snd hT⟩

def d_X3_clearText (w : xW)  : Int32 × xW :=
  zlet ((xg w 17 1)) fun x1 =>
  zlet (xs w 17 1 0) fun w2 =>
  (x1, w2)
set_option maxRecDepth 100000 in
set_option maxHeartbeats 4000000 in
theorem c_X3_clearText (G : zG) (N : Nat) (hN : 54 ≤ N) (hg : zGeo G N) (w : xW) : zM yX3_clearText cX3_clearText 2 (some .int) 0 0 G N [.ref (zad G 47)] w (some (d_X3_clearText w).1) (d_X3_clearText w).2 := by
  obtain ⟨r, u, hT⟩ := zpair (d_X3_clearText w)
  rw [hT]
  dsimp only
  unfold d_X3_clearText at hT
  refine zM_of zy_X3_clearText.2.2.2.2.2.2.2 hg ⟨Nat.le_of_ble_eq_true rfl, by decide⟩ rfl (fun k ok hE hI => ?_)
  have old := hE.old
  refine z_aload_n ok dX3_clearText_0 0 rfl ?_
  refine z_get_X3_length ok dX3_clearText_1 hN zw_554 ?_
  replace hT := zlet_open hT
  obtain ⟨x1, hx1, hT⟩ := hT
  rw [← hx1]
  refine z_istore_n ok dX3_clearText_4 (hI 1 (by decide)) (lv' := [(1, .int x1), (0, .ref (zad G 47))]) rfl ?_
  refine z_aload_n ok dX3_clearText_5 1 rfl ?_
  refine z_iconst ok dX3_clearText_6 (x := 0) (by decide) ?_
  refine z_put_X3_length ok dX3_clearText_7 hN zw_554 ?_
  replace hT := zlet_open hT
  obtain ⟨w2, hw2, hT⟩ := hT
  rw [← hw2]
  refine z_iload_n ok dX3_clearText_10 0 rfl ?_
  exact z_iret ok hE dX3_clearText_11 rfl ⟨congrArg Prod.fst hT, congrArg Prod.snd hT⟩
