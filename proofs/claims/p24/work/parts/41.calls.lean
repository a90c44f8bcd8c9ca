theorem int32_eq_of {x : Int32} {a : Nat} (h1 : ¬ x < nI a) (h2 : ¬ nI a < x) : x = nI a := Int32.le_antisymm (Int32.not_lt.mp h2) (Int32.not_lt.mp h1)
theorem in_of {v : Int32} {a b : Nat} (hb : b < 2 ^ 31) : s_in v (nI a) (nI b) = 0 ∨ (s_in v (nI a) (nI b) = 1 ∧ (0 ≤ nI a → a < 2 ^ 31 → ∃ k, a ≤ k ∧ k ≤ b ∧ v = nI k)) := by
  unfold s_in
  by_cases h : v < nI a
  · rw [if_pos h]; exact Or.inl rfl
  · rw [if_neg h]
    by_cases h2 : nI b < v
    · rw [if_pos h2]; exact Or.inl rfl
    · rw [if_neg h2]
      refine Or.inr ⟨rfl, fun h0 ha => ?_⟩
      obtain ⟨k, hk, e⟩ := nI_of2 (n := b) (M := nI b) (nI_toInt hb) (Int32.not_lt.mpr (Int32.le_trans h0 (Int32.not_lt.mp h))) (Int32.not_lt.mp h2)
      refine ⟨k, ?_, hk, e⟩
      rw [e] at h
      exact Nat.le_of_not_lt (fun q => h (nI_lt q ha))
theorem k_isSetting (w : xW) (what v : Int32) : d_X2_isSetting w what v = s_canBe what v := by
  rw [d_X2_isSetting]
  unfold s_canBe
  by_cases h0 : what = 0
  · rw [if_pos h0, if_pos h0]; rfl
  · rw [if_neg h0, if_neg h0]
    have e5 : (if s_in v 0 5 = 0 then (0 : Int32) else 1) = s_in v 0 5 := by
      unfold s_in
      by_cases a : v < 0
      · rw [if_pos a]; rfl
      · rw [if_neg a]
        by_cases b : 5 < v
        · rw [if_pos b]; rfl
        · rw [if_neg b]; rfl
    rw [e5]
    by_cases h1 : what = 1
    · rw [if_pos h1, if_neg (show ¬ s_in what 1 2 = 0 by rw [h1]; decide)]; rfl
    · rw [if_neg h1]
      by_cases h2 : what = 2
      · rw [if_pos h2, if_neg (show ¬ s_in what 1 2 = 0 by rw [h2]; decide)]; rfl
      · rw [if_neg h2]
        rcases in_of (v := what) (a := 1) (b := 2) (by omega) with h | ⟨h, q⟩
        · exact (if_pos (show s_in what 1 2 = 0 from h)).symm
        · obtain ⟨k, k1, k2, e⟩ := q (by decide) (by omega)
          have : k = 1 ∨ k = 2 := by omega
          rcases this with r | r
          · exact absurd (by rw [e, r]; rfl) h1
          · exact absurd (by rw [e, r]; rfl) h2
theorem canBe_of {what v : Int32} (h : ¬ s_canBe what v = 0) : (what = nI 0 ∧ ∃ m, 1 ≤ m ∧ m ≤ 12 ∧ v = nI m) ∨ ((what = nI 1 ∨ what = nI 2) ∧ ∃ m, m ≤ 5 ∧ v = nI m) := by
  unfold s_canBe at h
  by_cases h0 : what = 0
  · rw [if_pos h0] at h
    rcases in_of (v := v) (a := 1) (b := 12) (by omega) with q | ⟨q, r⟩
    · exact absurd q h
    · obtain ⟨k, k1, k2, e⟩ := r (by decide) (by omega)
      exact Or.inl ⟨h0, k, k1, k2, e⟩
  · rw [if_neg h0] at h
    rcases in_of (v := what) (a := 1) (b := 2) (by omega) with q | ⟨q, r⟩
    · exact absurd (if_pos q) h
    · rw [if_neg (show ¬ s_in what 1 2 = 0 from fun z => by rw [show s_in what 1 2 = 1 from q] at z; exact absurd z (by decide))] at h
      obtain ⟨k, k1, k2, e⟩ := r (by decide) (by omega)
      rcases in_of (v := v) (a := 0) (b := 5) (by omega) with q' | ⟨q', r'⟩
      · exact absurd (if_pos q') h
      · obtain ⟨m, m1, m2, e'⟩ := r' (by decide) (by omega)
        refine Or.inr ⟨?_, m, m2, e'⟩
        have : k = 1 ∨ k = 2 := by omega
        rcases this with z | z
        · exact Or.inl (by rw [e, z])
        · exact Or.inr (by rw [e, z])
theorem spr_diff {S : Nat → Int32} (h : zInv S) {j : Nat} (hj : j = 150 ∨ j = 151) (x : Int32) : ∀ c, c < 36 → zU S j x (72 + c) - zU S j x 149 ≤ 0 := by
  intro c hc
  rw [zU_ne _ _ (by omega), zU_ne _ _ (by omega)]
  obtain ⟨k, L, h1, h2, h3, h4⟩ := h.2.2.1 c hc
  rw [h3, h4]
  exact (nI_diff k L (by omega) h2).mpr h1
/-- the row after a piece is laid or taken -/
def s_put (S : Nat → Int32) (c : Nat) (side kind spring : Int32) : Nat → Int32 := if side = -1 then zU (s_lays S c (-1) 0 0) 158 (S 158 + (s_lays S c (-1) 0 0 (72 + c) - S (72 + c))) else zU (s_lays S c side kind spring) 158 (S 158 + (s_lays S c side kind spring (72 + c) - S (72 + c)))
theorem i32_sa (a b c : Int32) : a - b + c = a + (c - b) := by
  rw [Int32.sub_eq_add_neg, Int32.add_assoc, Int32.add_comm (-b), ← Int32.sub_eq_add_neg]
theorem k_putInstead (w : xW) (g : Nat) {c : Nat} (hc : c < 36) (side kind spring : Int32) : d_X1_putInstead w g c side kind spring = xv w g (s_put (w.1 g) c side kind spring) := by
  rw [d_X1_putInstead, zlet_def, k_springOn w g hc, xg_row, xs_xv]
  unfold s_put
  by_cases h : side = -1
  · rw [if_pos h, if_pos h, zlet_def, zlet_def, k_empty _ g hc, xv_row, xv_xv, k_springOn _ g hc, xv_row, xs_xv11, xg_xv', lays_zU _ hc (by omega), zU_eq, zU_ne _ _ (by omega), i32_sa]
    congr 1
    funext j
    rw [zU_at, zU_at, zU_at]
    by_cases e : j = 158
    · rw [if_pos e, if_pos e]
    · rw [if_neg e, if_neg e, if_neg e]
  · rw [if_neg h, if_neg h, zlet_def, zlet_def, k_place _ g hc, xv_row, xv_xv, k_springOn _ g hc, xv_row, xs_xv11, xg_xv', lays_zU _ hc (by omega), zU_eq, zU_ne _ _ (by omega), i32_sa]
    congr 1
    funext j
    rw [zU_at, zU_at, zU_at]
    by_cases e : j = 158
    · rw [if_pos e, if_pos e]
    · rw [if_neg e, if_neg e, if_neg e]
theorem inv_put {S : Nat → Int32} (h : zInv S) {c : Nat} (hc : c < 36) (side kind spring : Int32) (h1 : ¬ s_in side (-1) 1 = 0) (h3 : ¬ s_in spring 0 (S 149) = 0) : zInv (s_put S c side kind spring) := by
  unfold s_put
  by_cases hs : side = -1
  · rw [if_pos hs]
    exact inv_free (inv_lays h hc _ (Or.inl rfl) (zspr_0 h)) (by omega) _
  · rw [if_neg hs]
    obtain ⟨L, l1, l2, l3⟩ := h.2.2.2.2.2.2.2.2.1
    refine inv_free (inv_lays h hc _ ?_ ?_) (by omega) _
    · unfold s_in at h1
      by_cases a : side < -1
      · rw [if_pos a] at h1; exact absurd rfl h1
      · rw [if_neg a] at h1
        by_cases b : 1 < side
        · rw [if_pos b] at h1; exact absurd rfl h1
        · have n0 : ¬ side < 0 := by
            intro z
            have q1 : side.toInt < 0 := Int32.lt_iff_toInt_lt.mp z
            have q2 : ¬ side.toInt < -1 := fun y => a (Int32.lt_iff_toInt_lt.mpr y)
            exact hs (Int32.toInt_inj.mp (by show side.toInt = -1; omega))
          obtain ⟨k, hk, e⟩ := nI_of2 (n := 1) (M := 1) (by decide) n0 (Int32.not_lt.mp b)
          have : k = 0 ∨ k = 1 := by omega
          rcases this with z | z
          · exact Or.inr (Or.inl (by rw [e, z]; rfl))
          · exact Or.inr (Or.inr (by rw [e, z]; rfl))
    · rw [l3] at h3 ⊢
      rcases in_of (v := spring) (a := 0) (b := L) (by omega) with q | ⟨q, r⟩
      · exact absurd q h3
      · obtain ⟨k, _, k2, e⟩ := r (by decide) (by omega)
        exact ⟨k, L, k2, l2, rfl, e⟩
theorem side_11 (w : xW) (side : Int32) : (if d_X2_isSide w side = 0 then (if side = -1 then (1 : Int32) else 0) else 1) = s_in side (-1) 1 := by
  rw [d_X2_isSide]
  unfold s_in
  by_cases h0 : side = 0
  · rw [if_pos h0, if_neg (by decide), h0]; rfl
  · rw [if_neg h0]
    by_cases h1 : side = 1
    · rw [if_pos h1, if_neg (by decide), h1]; rfl
    · rw [if_neg h1, if_pos rfl]
      by_cases h2 : side = -1
      · rw [if_pos h2, h2]; rfl
      · rw [if_neg h2]
        by_cases a : side < -1
        · rw [if_pos a]
        · rw [if_neg a, if_pos]
          refine Int32.lt_iff_toInt_lt.mpr ?_
          have q2 : ¬ side.toInt < -1 := fun y => a (Int32.lt_iff_toInt_lt.mpr y)
          have n0 : ¬ side.toInt = 0 := fun y => h0 (Int32.toInt_inj.mp y)
          have n1 : ¬ side.toInt = 1 := fun y => h1 (Int32.toInt_inj.mp y)
          have n2 : ¬ side.toInt = -1 := fun y => h2 (Int32.toInt_inj.mp y)
          show 1 < side.toInt
          omega
