theorem k_isSide (w : xW) (s : Int32) : d_X2_isSide w s = s_isSide s := by
  rw [d_X2_isSide]
  unfold s_isSide
  by_cases h0 : s = 0
  · rw [if_pos h0, h0]; rfl
  · rw [if_neg h0]
    by_cases h1 : s = 1
    · rw [if_pos h1, h1]; rfl
    · rw [if_neg h1]
      rcases in_of (v := s) (a := 0) (b := 1) (by omega) with h | ⟨h, q⟩
      · exact h.symm
      · obtain ⟨k, k1, k2, e⟩ := q (by decide) (by omega)
        have : k = 0 ∨ k = 1 := by omega
        rcases this with r | r
        · exact absurd (by rw [e, r]; rfl) h0
        · exact absurd (by rw [e, r]; rfl) h1
theorem isSide_of {s : Int32} (h : ¬ s_isSide s = 0) : s = 0 ∨ s = 1 := by
  unfold s_isSide at h
  rcases in_of (v := s) (a := 0) (b := 1) (by omega) with q | ⟨q, r⟩
  · exact absurd q h
  · obtain ⟨k, k1, k2, e⟩ := r (by decide) (by omega)
    have : k = 0 ∨ k = 1 := by omega
    rcases this with z | z
    · exact Or.inl (by rw [e, z]; rfl)
    · exact Or.inr (by rw [e, z]; rfl)
