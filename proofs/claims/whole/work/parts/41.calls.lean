theorem int32_eq_of {x : Int32} {a : Nat} (h1 : ¬ x < nI a) (h2 : ¬ nI a < x) : x = nI a := Int32.le_antisymm (Int32.not_lt.mp h2) (Int32.not_lt.mp h1)
theorem in_of {v : Int32} {a b : Nat} (hb : b < 2 ^ 31) : s_in v (nI a) (nI b) = 0 ∨ (s_in v (nI a) (nI b) = 1 ∧ (0 ≤ nI a → a < 2 ^ 31 → ∃ k, a ≤ k ∧ k ≤ b ∧ v = nI k)) := by
  unfold s_in
  by_cases h : v < nI a
  · rw [if_pos h]; exact Or.inl rfl
  · rw [if_neg h]
    by_cases h2 : nI b < v
    · rw [if_pos h2]; exact Or.inl rfl
    · rw [if_neg h2]
      refine Or.inr ⟨rfl, fun h0 ha => ?_⟩
      obtain ⟨k, hk, e⟩ := nI_of2 (n := b) (M := nI b) (nI_toInt hb) (Int32.not_lt.mpr (Int32.le_trans h0 (Int32.not_lt.mp h))) (Int32.not_lt.mp h2)
      refine ⟨k, ?_, hk, e⟩
      rw [e] at h
      exact Nat.le_of_not_lt (fun q => h (nI_lt q ha))
theorem k_isSetting (w : xW) (what v : Int32) : d_X2_isSetting w what v = s_canBe what v := by
  rw [d_X2_isSetting]
  unfold s_canBe
  by_cases h0 : what = 0
  · rw [if_pos h0, if_pos h0]; rfl
  · rw [if_neg h0, if_neg h0]
    have e5 : (if s_in v 0 5 = 0 then (0 : Int32) else 1) = s_in v 0 5 := by
      unfold s_in
      by_cases a : v < 0
      · rw [if_pos a]; rfl
      · rw [if_neg a]
        by_cases b : 5 < v
        · rw [if_pos b]; rfl
        · rw [if_neg b]; rfl
    rw [e5]
    by_cases h1 : what = 1
    · rw [if_pos h1, if_neg (show ¬ s_in what 1 2 = 0 by rw [h1]; decide)]; rfl
    · rw [if_neg h1]
      by_cases h2 : what = 2
      · rw [if_pos h2, if_neg (show ¬ s_in what 1 2 = 0 by rw [h2]; decide)]; rfl
      · rw [if_neg h2]
        rcases in_of (v := what) (a := 1) (b := 2) (by omega) with h | ⟨h, q⟩
        · exact (if_pos (show s_in what 1 2 = 0 from h)).symm
        · obtain ⟨k, k1, k2, e⟩ := q (by decide) (by omega)
          have : k = 1 ∨ k = 2 := by omega
          rcases this with r | r
          · exact absurd (by rw [e, r]; rfl) h1
          · exact absurd (by rw [e, r]; rfl) h2
theorem canBe_of {what v : Int32} (h : ¬ s_canBe what v = 0) : (what = nI 0 ∧ ∃ m, 1 ≤ m ∧ m ≤ 12 ∧ v = nI m) ∨ ((what = nI 1 ∨ what = nI 2) ∧ ∃ m, m ≤ 5 ∧ v = nI m) := by
  unfold s_canBe at h
  by_cases h0 : what = 0
  · rw [if_pos h0] at h
    rcases in_of (v := v) (a := 1) (b := 12) (by omega) with q | ⟨q, r⟩
    · exact absurd q h
    · obtain ⟨k, k1, k2, e⟩ := r (by decide) (by omega)
      exact Or.inl ⟨h0, k, k1, k2, e⟩
  · rw [if_neg h0] at h
    rcases in_of (v := what) (a := 1) (b := 2) (by omega) with q | ⟨q, r⟩
    · exact absurd (if_pos q) h
    · rw [if_neg (show ¬ s_in what 1 2 = 0 from fun z => by rw [show s_in what 1 2 = 1 from q] at z; exact absurd z (by decide))] at h
      obtain ⟨k, k1, k2, e⟩ := r (by decide) (by omega)
      rcases in_of (v := v) (a := 0) (b := 5) (by omega) with q' | ⟨q', r'⟩
      · exact absurd (if_pos q') h
      · obtain ⟨m, m1, m2, e'⟩ := r' (by decide) (by omega)
        refine Or.inr ⟨?_, m, m2, e'⟩
        have : k = 1 ∨ k = 2 := by omega
        rcases this with z | z
        · exact Or.inl (by rw [e, z])
        · exact Or.inr (by rw [e, z])
theorem spr_diff {S : Nat → Int32} (h : zInv S) {j : Nat} (hj : j = 150 ∨ j = 151) (x : Int32) : ∀ c, c < 36 → zU S j x (72 + c) - zU S j x 149 ≤ 0 := by
  intro c hc
  rw [zU_ne _ _ (by omega), zU_ne _ _ (by omega)]
  obtain ⟨k, L, h1, h2, h3, h4⟩ := h.2.2.1 c hc
  rw [h3, h4]
  exact (nI_diff k L (by omega) h2).mpr h1
theorem m_set_eq (u : xW) {S : Nat → Int32} (hu : u.1 11 = S) (hp : ∃ p, p ≤ 5 ∧ u.1 17 0 = nI p) {what v : Int32} (hb : ¬ s_canBe what v = 0) {k : Nat} (hk : k ≤ 2) (e : what = nI k) : d_X3_set u what v = (S (149 + k), xv (d_X3_records u) 11 (s_cut 36 0 (zU S (149 + k) v))) := by
  rw [d_X3_set, m_canBe, if_neg hb, zlet_def, zlet_def, zlet_def, zlet_def, e, nI_clamp (by omega), xg_row, m_rec_11 u hp, hu, xs_xv, m_rec_11 u hp, hu, m_cut _ _ 37 36 0 _ (by omega) (by omega)]
  rfl
theorem P_set {w : xW} {A : xA} (h : zSim w A) (what v : Int32) : zLike (d_X2_set w what v) (fun u => d_X3_set u what v) := by
  have hI := h.2.2.1
  have r0 := rec_0 h.1
  rw [d_X2_set, k_isSetting]
  by_cases hb : s_canBe what v = 0
  · rw [if_pos hb]
    exact like_no h (by show d_X3_set w what v = _; rw [d_X3_set, m_canBe, if_pos hb])
  · rw [if_neg hb, zlet_def, zlet_def, zlet_def, d_X1_setting, xg_row, xg_row, xg_row, r0, d_X1_changeSetting]
    rcases canBe_of hb with ⟨e, m, m1, m2, em⟩ | ⟨e, m, m2, em⟩
    · rw [if_pos (show what = 0 from e), if_pos (show what = 0 from e), zlet_def, zlet_def, d_X1_cutSprings, xs_xv, k_cut _ 0 _ 37 36 0 _ (by omega) (by omega), d_X1_cutSprings_2k, r0]
      refine like_rec h (by rw [em]; exact inv_cut hI m1 m2) (fun u hu hp => m_set_eq u hu hp hb (k := 0) (by omega) e)
    · rcases e with e | e
      · rw [if_neg (show ¬ what = 0 by rw [e]; decide), if_pos (show what = 1 from e), if_neg (show ¬ what = 0 by rw [e]; decide), if_pos (show what = 1 from e), zlet_def, xs_xv, r0]
        refine like_rec h (by rw [em]; exact inv_15x hI (Or.inl rfl) m2) (fun u hu hp => ?_)
        rw [m_set_eq u hu hp hb (k := 1) (by omega) e, s_cut_id 36 0 _ (by omega) (spr_diff hI (Or.inl rfl) v)]
      · rw [if_neg (show ¬ what = 0 by rw [e]; decide), if_neg (show ¬ what = 1 by rw [e]; decide), if_neg (show ¬ what = 0 by rw [e]; decide), if_neg (show ¬ what = 1 by rw [e]; decide), zlet_def, xs_xv, r0]
        refine like_rec h (by rw [em]; exact inv_15x hI (Or.inr rfl) m2) (fun u hu hp => ?_)
        rw [m_set_eq u hu hp hb (k := 2) (by omega) e, s_cut_id 36 0 _ (by omega) (spr_diff hI (Or.inr rfl) v)]
/-- the row after a piece is laid or taken -/
def s_put (S : Nat → Int32) (c : Nat) (side kind spring : Int32) : Nat → Int32 := if side = -1 then zU (s_lays S c (-1) 0 0) 158 (S 158 + (s_lays S c (-1) 0 0 (72 + c) - S (72 + c))) else zU (s_lays S c side kind spring) 158 (S 158 + (s_lays S c side kind spring (72 + c) - S (72 + c)))
theorem i32_sa (a b c : Int32) : a - b + c = a + (c - b) := by
  rw [Int32.sub_eq_add_neg, Int32.add_assoc, Int32.add_comm (-b), ← Int32.sub_eq_add_neg]
theorem k_putInstead (w : xW) (g : Nat) {c : Nat} (hc : c < 36) (side kind spring : Int32) : d_X1_putInstead w g c side kind spring = xv w g (s_put (w.1 g) c side kind spring) := by
  rw [d_X1_putInstead, zlet_def, k_springOn w g hc, xg_row, xs_xv]
  unfold s_put
  by_cases h : side = -1
  · rw [if_pos h, if_pos h, zlet_def, zlet_def, k_empty _ g hc, xv_row, xv_xv, k_springOn _ g hc, xv_row, xs_xv11, xg_xv', lays_zU _ hc (by omega), zU_eq, zU_ne _ _ (by omega), i32_sa]
    congr 1
    funext j
    rw [zU_at, zU_at, zU_at]
    by_cases e : j = 158
    · rw [if_pos e, if_pos e]
    · rw [if_neg e, if_neg e, if_neg e]
  · rw [if_neg h, if_neg h, zlet_def, zlet_def, k_place _ g hc, xv_row, xv_xv, k_springOn _ g hc, xv_row, xs_xv11, xg_xv', lays_zU _ hc (by omega), zU_eq, zU_ne _ _ (by omega), i32_sa]
    congr 1
    funext j
    rw [zU_at, zU_at, zU_at]
    by_cases e : j = 158
    · rw [if_pos e, if_pos e]
    · rw [if_neg e, if_neg e, if_neg e]
theorem m_put_eq (u : xW) {S : Nat → Int32} (hu : u.1 11 = S) (hp : ∃ p, p ≤ 5 ∧ u.1 17 0 = nI p) {c : Nat} (hc : c < 36) (side kind spring : Int32) (h1 : ¬ s_in side (-1) 1 = 0) (h2 : ¬ s_in kind 0 4 = 0) (h3 : ¬ s_in spring 0 (S 149) = 0) (h4 : S 145 ≤ 0) : d_X3_put u (nI c) side kind spring = ((if S c = -1 then 0 else 1), xv (d_X3_records u) 11 (s_put S c side kind spring)) := by
  have hcell : ¬ s_isCell (nI c) = 0 := by
    have e : s_isCell (nI c) = 1 := by
      unfold s_isCell s_in
      rw [if_neg (nI_pos (by omega)), if_neg (show ¬ (35 : Int32) < nI c from nI_nlt (b := c) (a := 35) (by omega) (by omega))]
    rw [e]; decide
  rw [d_X3_put, m_isCell, if_neg hcell, m_in, if_neg h1, m_in, if_neg h2, m_in, xg_row, hu, if_neg h3, zlet_def, nI_clamp (by omega), xg_row, hu, if_pos h4, zlet_def, zlet_def, zlet_def, zlet_def, zlet_def, xg_row, xg_row, m_rec_11 u hp, hu]
  unfold s_put
  by_cases h : side = -1
  · rw [if_pos h, if_pos h, zlet_def, m_lays, xs_xv11, xg_xv', xv_row, xg_row, m_rec_11 u hp, hu, s_lays_hi S _ _ _ hc (show 108 ≤ 158 by omega)]
  · rw [if_neg h, if_neg h, zlet_def, m_lays, xs_xv11, xg_xv', xv_row, xg_row, m_rec_11 u hp, hu, s_lays_hi S _ _ _ hc (show 108 ≤ 158 by omega)]
theorem inv_put {S : Nat → Int32} (h : zInv S) {c : Nat} (hc : c < 36) (side kind spring : Int32) (h1 : ¬ s_in side (-1) 1 = 0) (h3 : ¬ s_in spring 0 (S 149) = 0) : zInv (s_put S c side kind spring) := by
  unfold s_put
  by_cases hs : side = -1
  · rw [if_pos hs]
    exact inv_free (inv_lays h hc _ (Or.inl rfl) (zspr_0 h)) (by omega) _
  · rw [if_neg hs]
    obtain ⟨L, l1, l2, l3⟩ := h.2.2.2.2.2.2.2.2.1
    refine inv_free (inv_lays h hc _ ?_ ?_) (by omega) _
    · unfold s_in at h1
      by_cases a : side < -1
      · rw [if_pos a] at h1; exact absurd rfl h1
      · rw [if_neg a] at h1
        by_cases b : 1 < side
        · rw [if_pos b] at h1; exact absurd rfl h1
        · have n0 : ¬ side < 0 := by
            intro z
            have q1 : side.toInt < 0 := Int32.lt_iff_toInt_lt.mp z
            have q2 : ¬ side.toInt < -1 := fun y => a (Int32.lt_iff_toInt_lt.mpr y)
            exact hs (Int32.toInt_inj.mp (by show side.toInt = -1; omega))
          obtain ⟨k, hk, e⟩ := nI_of2 (n := 1) (M := 1) (by decide) n0 (Int32.not_lt.mp b)
          have : k = 0 ∨ k = 1 := by omega
          rcases this with z | z
          · exact Or.inr (Or.inl (by rw [e, z]; rfl))
          · exact Or.inr (Or.inr (by rw [e, z]; rfl))
    · rw [l3] at h3 ⊢
      rcases in_of (v := spring) (a := 0) (b := L) (by omega) with q | ⟨q, r⟩
      · exact absurd q h3
      · obtain ⟨k, _, k2, e⟩ := r (by decide) (by omega)
        exact ⟨k, L, k2, l2, rfl, e⟩
theorem side_11 (w : xW) (side : Int32) : (if d_X2_isSide w side = 0 then (if side = -1 then (1 : Int32) else 0) else 1) = s_in side (-1) 1 := by
  rw [d_X2_isSide]
  unfold s_in
  by_cases h0 : side = 0
  · rw [if_pos h0, if_neg (by decide), h0]; rfl
  · rw [if_neg h0]
    by_cases h1 : side = 1
    · rw [if_pos h1, if_neg (by decide), h1]; rfl
    · rw [if_neg h1, if_pos rfl]
      by_cases h2 : side = -1
      · rw [if_pos h2, h2]; rfl
      · rw [if_neg h2]
        by_cases a : side < -1
        · rw [if_pos a]
        · rw [if_neg a, if_pos]
          refine Int32.lt_iff_toInt_lt.mpr ?_
          have q2 : ¬ side.toInt < -1 := fun y => a (Int32.lt_iff_toInt_lt.mpr y)
          have n0 : ¬ side.toInt = 0 := fun y => h0 (Int32.toInt_inj.mp y)
          have n1 : ¬ side.toInt = 1 := fun y => h1 (Int32.toInt_inj.mp y)
          have n2 : ¬ side.toInt = -1 := fun y => h2 (Int32.toInt_inj.mp y)
          show 1 < side.toInt
          omega
theorem P_put {w : xW} {A : xA} (h : zSim w A) (cell side kind spring : Int32) : zLike (d_X2_put w cell side kind spring) (fun u => d_X3_put u cell side kind spring) := by
  have hI := h.2.2.1
  have r0 := rec_0 h.1
  have m11 := h.2.1.1
  have c0 := h.1.2.1
  rw [d_X2_put, side_11, zlet_def, zlet_def, zlet_def, k_isCell]
  show zLike (if s_isCell cell = 0 then (-1, w) else if s_in side (-1) 1 = 0 then (-1, w) else if s_in kind 0 4 = 0 then (-1, w) else if s_in spring 0 (w.1 0 149) = 0 then (-1, w) else _) _
  rw [c0]
  rcases is_cell cell with ex | ⟨ex, c, hc, rfl⟩
  · rw [if_pos ex]
    exact like_no h (by show d_X3_put w cell side kind spring = _; rw [d_X3_put, m_isCell, if_pos ex])
  · have hx : ¬ s_isCell (nI c) = 0 := by rw [ex]; decide
    rw [if_neg hx]
    by_cases h1 : s_in side (-1) 1 = 0
    · rw [if_pos h1]
      exact like_no h (by show d_X3_put w _ side kind spring = _; rw [d_X3_put, m_isCell, if_neg hx, m_in, if_pos h1])
    · rw [if_neg h1]
      by_cases h2 : s_in kind 0 4 = 0
      · rw [if_pos h2]
        exact like_no h (by show d_X3_put w _ side kind spring = _; rw [d_X3_put, m_isCell, if_neg hx, m_in, if_neg h1, m_in, if_pos h2])
      · rw [if_neg h2]
        by_cases h3 : s_in spring 0 (aS A 149) = 0
        · rw [if_pos h3]
          exact like_no h (by show d_X3_put w _ side kind spring = _; rw [d_X3_put, m_isCell, if_neg hx, m_in, if_neg h1, m_in, if_neg h2, m_in, xg_row, m11, if_pos h3])
        · rw [if_neg h3, zlet_def, k_isOver, c0]
          by_cases h4 : aS A 145 = 0
          · rw [if_pos h4, if_pos rfl, zlet_def, zlet_def, zlet_def, nI_clamp (by omega), k_hasPiece _ 0 hc, k_putInstead _ 0 hc, r0]
            have e : (if (if aS A c = -1 then (0 : Int32) else 1) = 0 then ((0 : Int32), xv (d_X2_record w) 0 (s_put (aS A) c side kind spring)) else (1, xv (d_X2_record w) 0 (s_put (aS A) c side kind spring))) = ((if aS A c = -1 then 0 else 1), xv (d_X2_record w) 0 (s_put (aS A) c side kind spring)) := by
              by_cases z : aS A c = -1
              · rw [if_pos z]; rfl
              · rw [if_neg z]; rfl
            rw [e]
            exact like_rec h (inv_put hI hc side kind spring h1 h3) (fun u hu hp => m_put_eq u hu hp hc side kind spring h1 h2 h3 (by rw [h4]; decide))
          · rw [if_neg h4, if_neg (by decide)]
            refine like_no h ?_
            show d_X3_put w _ side kind spring = _
            rw [d_X3_put, m_isCell, if_neg hx, m_in, if_neg h1, m_in, if_neg h2, m_in, xg_row, m11, if_neg h3, zlet_def, nI_clamp (by omega), xg_row, m11, if_neg]
            intro z
            rcases hI.2.2.2.2.2.2.1 with q | q | q
            · exact h4 q
            · rw [q] at z; exact absurd z (by decide)
            · rw [q] at z; exact absurd z (by decide)
