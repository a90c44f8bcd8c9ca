theorem P_cell {w : xW} {A : xA} (h : zSim w A) (x what : Int32) : d_X2_cell w x what = d_X3_cell w x what := by
  have hI := h.2.2.1
  have m11 := h.2.1.1
  have c0 := h.1.2.1
  rw [d_X2_cell, d_X3_cell, k_isCell, m_isCell, m_in]
  rcases is_cell x with ex | ⟨ex, c, hc, rfl⟩
  · rw [if_pos ex, if_pos ex]
  · have nx : ¬ s_isCell (nI c) = 0 := by rw [ex]; decide
    rw [if_neg nx, if_neg nx]
    rw [zlet_def, zlet_def, nI_clamp (by omega), k_isTower w 0 hc, k_hasPiece w 0 hc, k_sideOn w 0 hc, k_kindOn w 0 hc, k_springOn w 0 hc, xg_row, xg_row, xg_row, xg_row, m_movesFrom, c0, m11]
    unfold s_in
    by_cases a : what < 0
    · rw [if_pos a, if_pos a, if_pos rfl]
    · rw [if_neg a, if_neg a]
      by_cases b : what ≤ 4
      · rw [if_pos b, if_neg (show ¬ 4 < what from Int32.not_lt.mpr b), if_neg (show ¬ (1 : Int32) = 0 by decide)]
        by_cases e3 : what = 3
        · rw [if_pos e3, if_pos e3]
          rcases hI.2.2.2.1 c hc with z | z <;> rw [z] <;> rfl
        · rw [if_neg e3, if_neg e3]
          by_cases e : aS A c = -1
          · rw [if_pos e, if_pos e, if_pos rfl]
          · rw [if_neg e, if_neg e, if_neg (by decide), k_movesFrom w 0 hc (by rw [c0]; exact hI.2.1) (by rw [c0]; exact e), c0]
      · rw [if_neg b, if_pos (show 4 < what from Int32.not_le.mp b), if_pos rfl]
theorem isAcc_no (w : xW) {what : Int32} (h20 : ¬ what = 20) (h21 : ¬ what = 21) (h22 : ¬ what = 22) (h23 : ¬ what = 23) (h24 : ¬ what = 24) (h25 : ¬ what = 25) (h26 : ¬ what = 26) : d_X2_isAccount w (what - 20) = 0 := by
  rw [d_X2_isAccount]
  by_cases a : what - 20 < 0
  · rw [if_pos a]
  · rw [if_neg a]
    by_cases b : 6 < what - 20
    · rw [if_pos b]
    · obtain ⟨k, hk, e⟩ := nI_of2 (n := 6) (M := 6) (by decide) a (Int32.not_lt.mp b)
      have e2 : what = nI k + 20 := by rw [← e, Int32.sub_add_cancel]
      have : k = 0 ∨ k = 1 ∨ k = 2 ∨ k = 3 ∨ k = 4 ∨ k = 5 ∨ k = 6 := by omega
      rcases this with z | z | z | z | z | z | z <;> rw [z] at e2
      · exact absurd (e2.trans (by decide)) h20
      · exact absurd (e2.trans (by decide)) h21
      · exact absurd (e2.trans (by decide)) h22
      · exact absurd (e2.trans (by decide)) h23
      · exact absurd (e2.trans (by decide)) h24
      · exact absurd (e2.trans (by decide)) h25
      · exact absurd (e2.trans (by decide)) h26
theorem in_1012 {what : Int32} (h10 : ¬ what = 10) (h11 : ¬ what = 11) (h12 : ¬ what = 12) : s_in what 10 12 = 0 := by
  rcases in_of (v := what) (a := 10) (b := 12) (by omega) with q | ⟨q, r⟩
  · exact q
  · obtain ⟨k, k1, k2, e⟩ := r (by decide) (by omega)
    have : k = 10 ∨ k = 11 ∨ k = 12 := by omega
    rcases this with z | z | z <;> rw [z] at e
    · exact absurd e h10
    · exact absurd e h11
    · exact absurd e h12
theorem in_2026 {what : Int32} (h20 : ¬ what = 20) (h21 : ¬ what = 21) (h22 : ¬ what = 22) (h23 : ¬ what = 23) (h24 : ¬ what = 24) (h25 : ¬ what = 25) (h26 : ¬ what = 26) : s_in what 20 26 = 0 := by
  rcases in_of (v := what) (a := 20) (b := 26) (by omega) with q | ⟨q, r⟩
  · exact q
  · obtain ⟨k, k1, k2, e⟩ := r (by decide) (by omega)
    have : k = 20 ∨ k = 21 ∨ k = 22 ∨ k = 23 ∨ k = 24 ∨ k = 25 ∨ k = 26 := by omega
    rcases this with z | z | z | z | z | z | z <;> rw [z] at e
    · exact absurd e h20
    · exact absurd e h21
    · exact absurd e h22
    · exact absurd e h23
    · exact absurd e h24
    · exact absurd e h25
    · exact absurd e h26
theorem P_count {w : xW} {A : xA} (h : zSim w A) (what : Int32) : d_X2_count w what = d_X3_count w what := by
  have m11 := h.2.1.1
  have c0 := h.1.2.1
  have c10 := h.1.2.2.1
  have c11 := h.1.2.2.2.1
  have m17 := h.2.1.2.1
  have m18 := h.2.1.2.2.1
  rw [d_X2_count, d_X3_count]
  simp only [m_in, m_pieces, m_towers, m_springs, m_allSprings, k_pieces, k_towers, k_springsOf, xg_row, c0, m11, c10, c11, m17, m18, d_X1_setting, d_X1_account, k_springsInAll]
  by_cases h0 : what = 0
  · rw [if_pos h0, if_pos h0]
  by_cases h1 : what = 1
  · rw [if_neg h0, if_pos h1, if_neg h0, if_pos h1]
  by_cases h2 : what = 2
  · rw [if_neg h0, if_neg h1, if_pos h2, if_neg h0, if_neg h1, if_pos h2]
  by_cases h3 : what = 3
  · rw [if_neg h0, if_neg h1, if_neg h2, if_pos h3, if_neg h0, if_neg h1, if_neg h2, if_pos h3]
  by_cases h4 : what = 4
  · rw [if_neg h0, if_neg h1, if_neg h2, if_neg h3, if_pos h4, if_neg h0, if_neg h1, if_neg h2, if_neg h3, if_pos h4]
  by_cases h5 : what = 5
  · rw [if_neg h0, if_neg h1, if_neg h2, if_neg h3, if_neg h4, if_pos h5, if_neg h0, if_neg h1, if_neg h2, if_neg h3, if_neg h4, if_pos h5]
  by_cases h6 : what = 6
  · rw [if_neg h0, if_neg h1, if_neg h2, if_neg h3, if_neg h4, if_neg h5, if_pos h6, if_neg h0, if_neg h1, if_neg h2, if_neg h3, if_neg h4, if_neg h5, if_pos h6]
    rw [h6, show (6 : Int32) - 6 = 0 by decide]
  by_cases h7 : what = 7
  · rw [if_neg h0, if_neg h1, if_neg h2, if_neg h3, if_neg h4, if_neg h5, if_neg h6, if_pos h7, if_neg h0, if_neg h1, if_neg h2, if_neg h3, if_neg h4, if_neg h5, if_neg h6, if_pos h7]
    rw [h7, show (7 : Int32) - 6 = 1 by decide]
  by_cases h8 : what = 8
  · rw [if_neg h0, if_neg h1, if_neg h2, if_neg h3, if_neg h4, if_neg h5, if_neg h6, if_neg h7, if_pos h8, if_neg h0, if_neg h1, if_neg h2, if_neg h3, if_neg h4, if_neg h5, if_neg h6, if_neg h7, if_pos h8]
  by_cases h9 : what = 9
  · rw [if_neg h0, if_neg h1, if_neg h2, if_neg h3, if_neg h4, if_neg h5, if_neg h6, if_neg h7, if_neg h8, if_pos h9, if_neg h0, if_neg h1, if_neg h2, if_neg h3, if_neg h4, if_neg h5, if_neg h6, if_neg h7, if_neg h8, if_pos h9]
  by_cases h10 : what = 10
  · rw [if_neg h0, if_neg h1, if_neg h2, if_neg h3, if_neg h4, if_neg h5, if_neg h6, if_neg h7, if_neg h8, if_neg h9, if_pos h10, if_neg h0, if_neg h1, if_neg h2, if_neg h3, if_neg h4, if_neg h5, if_neg h6, if_neg h7, if_neg h8, if_neg h9, if_pos h10]
    rw [h10, if_pos (show (10 : Int32) - 10 = 0 by decide), if_neg (show ¬ s_in (10 : Int32) 10 12 = 0 by decide), zlet_def]
    rfl
  by_cases h11 : what = 11
  · rw [if_neg h0, if_neg h1, if_neg h2, if_neg h3, if_neg h4, if_neg h5, if_neg h6, if_neg h7, if_neg h8, if_neg h9, if_neg h10, if_pos h11, if_neg h0, if_neg h1, if_neg h2, if_neg h3, if_neg h4, if_neg h5, if_neg h6, if_neg h7, if_neg h8, if_neg h9, if_neg h10, if_pos h11]
    rw [h11, if_neg (show ¬ (11 : Int32) - 10 = 0 by decide), if_pos (show (11 : Int32) - 10 = 1 by decide), if_neg (show ¬ s_in (11 : Int32) 10 12 = 0 by decide), zlet_def]
    rfl
  by_cases h12 : what = 12
  · rw [if_neg h0, if_neg h1, if_neg h2, if_neg h3, if_neg h4, if_neg h5, if_neg h6, if_neg h7, if_neg h8, if_neg h9, if_neg h10, if_neg h11, if_pos h12, if_neg h0, if_neg h1, if_neg h2, if_neg h3, if_neg h4, if_neg h5, if_neg h6, if_neg h7, if_neg h8, if_neg h9, if_neg h10, if_neg h11, if_pos h12]
    rw [h12, if_neg (show ¬ (12 : Int32) - 10 = 0 by decide), if_neg (show ¬ (12 : Int32) - 10 = 1 by decide), if_neg (show ¬ s_in (12 : Int32) 10 12 = 0 by decide), zlet_def]
    rfl
  by_cases h20 : what = 20
  · rw [if_neg h0, if_neg h1, if_neg h2, if_neg h3, if_neg h4, if_neg h5, if_neg h6, if_neg h7, if_neg h8, if_neg h9, if_neg h10, if_neg h11, if_neg h12, if_neg (show ¬ d_X2_isAccount w (what - 20) = 0 by rw [h20, d_X2_isAccount]; decide), if_pos (show what - 20 = 0 by rw [h20]; decide)]
    rw [if_neg h0, if_neg h1, if_neg h2, if_neg h3, if_neg h4, if_neg h5, if_neg h6, if_neg h7, if_neg h8, if_neg h9, if_neg h10, if_neg h11, if_neg h12, if_neg (show ¬ what = 13 by rw [h20]; decide), if_neg (show ¬ what = 14 by rw [h20]; decide), if_neg (show ¬ what = 15 by rw [h20]; decide), if_neg (show ¬ what = 16 by rw [h20]; decide), if_neg (show ¬ what = 17 by rw [h20]; decide), if_neg (show ¬ what = 18 by rw [h20]; decide), if_neg (show ¬ what = 19 by rw [h20]; decide), if_pos h20]
    rw [h20, if_pos (show s_in (20 : Int32) 10 12 = 0 by decide), if_neg (show ¬ s_in (20 : Int32) 20 26 = 0 by decide), zlet_def]
    rfl
  by_cases h21 : what = 21
  · rw [if_neg h0, if_neg h1, if_neg h2, if_neg h3, if_neg h4, if_neg h5, if_neg h6, if_neg h7, if_neg h8, if_neg h9, if_neg h10, if_neg h11, if_neg h12, if_neg (show ¬ d_X2_isAccount w (what - 20) = 0 by rw [h21, d_X2_isAccount]; decide), if_neg (show ¬ what - 20 = 0 by rw [h21]; decide), if_pos (show what - 20 = 1 by rw [h21]; decide)]
    rw [if_neg h0, if_neg h1, if_neg h2, if_neg h3, if_neg h4, if_neg h5, if_neg h6, if_neg h7, if_neg h8, if_neg h9, if_neg h10, if_neg h11, if_neg h12, if_neg (show ¬ what = 13 by rw [h21]; decide), if_neg (show ¬ what = 14 by rw [h21]; decide), if_neg (show ¬ what = 15 by rw [h21]; decide), if_neg (show ¬ what = 16 by rw [h21]; decide), if_neg (show ¬ what = 17 by rw [h21]; decide), if_neg (show ¬ what = 18 by rw [h21]; decide), if_neg (show ¬ what = 19 by rw [h21]; decide), if_neg h20, if_pos h21]
    rw [h21, if_pos (show s_in (21 : Int32) 10 12 = 0 by decide), if_neg (show ¬ s_in (21 : Int32) 20 26 = 0 by decide), zlet_def]
    rfl
  by_cases h22 : what = 22
  · rw [if_neg h0, if_neg h1, if_neg h2, if_neg h3, if_neg h4, if_neg h5, if_neg h6, if_neg h7, if_neg h8, if_neg h9, if_neg h10, if_neg h11, if_neg h12, if_neg (show ¬ d_X2_isAccount w (what - 20) = 0 by rw [h22, d_X2_isAccount]; decide), if_neg (show ¬ what - 20 = 0 by rw [h22]; decide), if_neg (show ¬ what - 20 = 1 by rw [h22]; decide), if_pos (show what - 20 = 2 by rw [h22]; decide)]
    rw [if_neg h0, if_neg h1, if_neg h2, if_neg h3, if_neg h4, if_neg h5, if_neg h6, if_neg h7, if_neg h8, if_neg h9, if_neg h10, if_neg h11, if_neg h12, if_neg (show ¬ what = 13 by rw [h22]; decide), if_neg (show ¬ what = 14 by rw [h22]; decide), if_neg (show ¬ what = 15 by rw [h22]; decide), if_neg (show ¬ what = 16 by rw [h22]; decide), if_neg (show ¬ what = 17 by rw [h22]; decide), if_neg (show ¬ what = 18 by rw [h22]; decide), if_neg (show ¬ what = 19 by rw [h22]; decide), if_neg h20, if_neg h21, if_pos h22]
    rw [h22, if_pos (show s_in (22 : Int32) 10 12 = 0 by decide), if_neg (show ¬ s_in (22 : Int32) 20 26 = 0 by decide), zlet_def]
    rfl
  by_cases h23 : what = 23
  · rw [if_neg h0, if_neg h1, if_neg h2, if_neg h3, if_neg h4, if_neg h5, if_neg h6, if_neg h7, if_neg h8, if_neg h9, if_neg h10, if_neg h11, if_neg h12, if_neg (show ¬ d_X2_isAccount w (what - 20) = 0 by rw [h23, d_X2_isAccount]; decide), if_neg (show ¬ what - 20 = 0 by rw [h23]; decide), if_neg (show ¬ what - 20 = 1 by rw [h23]; decide), if_neg (show ¬ what - 20 = 2 by rw [h23]; decide), if_pos (show what - 20 = 3 by rw [h23]; decide)]
    rw [if_neg h0, if_neg h1, if_neg h2, if_neg h3, if_neg h4, if_neg h5, if_neg h6, if_neg h7, if_neg h8, if_neg h9, if_neg h10, if_neg h11, if_neg h12, if_neg (show ¬ what = 13 by rw [h23]; decide), if_neg (show ¬ what = 14 by rw [h23]; decide), if_neg (show ¬ what = 15 by rw [h23]; decide), if_neg (show ¬ what = 16 by rw [h23]; decide), if_neg (show ¬ what = 17 by rw [h23]; decide), if_neg (show ¬ what = 18 by rw [h23]; decide), if_neg (show ¬ what = 19 by rw [h23]; decide), if_neg h20, if_neg h21, if_neg h22, if_pos h23]
    rw [h23, if_pos (show s_in (23 : Int32) 10 12 = 0 by decide), if_neg (show ¬ s_in (23 : Int32) 20 26 = 0 by decide), zlet_def]
    rfl
  by_cases h24 : what = 24
  · rw [if_neg h0, if_neg h1, if_neg h2, if_neg h3, if_neg h4, if_neg h5, if_neg h6, if_neg h7, if_neg h8, if_neg h9, if_neg h10, if_neg h11, if_neg h12, if_neg (show ¬ d_X2_isAccount w (what - 20) = 0 by rw [h24, d_X2_isAccount]; decide), if_neg (show ¬ what - 20 = 0 by rw [h24]; decide), if_neg (show ¬ what - 20 = 1 by rw [h24]; decide), if_neg (show ¬ what - 20 = 2 by rw [h24]; decide), if_neg (show ¬ what - 20 = 3 by rw [h24]; decide), if_pos (show what - 20 = 4 by rw [h24]; decide)]
    rw [if_neg h0, if_neg h1, if_neg h2, if_neg h3, if_neg h4, if_neg h5, if_neg h6, if_neg h7, if_neg h8, if_neg h9, if_neg h10, if_neg h11, if_neg h12, if_neg (show ¬ what = 13 by rw [h24]; decide), if_neg (show ¬ what = 14 by rw [h24]; decide), if_neg (show ¬ what = 15 by rw [h24]; decide), if_neg (show ¬ what = 16 by rw [h24]; decide), if_neg (show ¬ what = 17 by rw [h24]; decide), if_neg (show ¬ what = 18 by rw [h24]; decide), if_neg (show ¬ what = 19 by rw [h24]; decide), if_neg h20, if_neg h21, if_neg h22, if_neg h23, if_pos h24]
    rw [h24, if_pos (show s_in (24 : Int32) 10 12 = 0 by decide), if_neg (show ¬ s_in (24 : Int32) 20 26 = 0 by decide), zlet_def]
    rfl
  by_cases h25 : what = 25
  · rw [if_neg h0, if_neg h1, if_neg h2, if_neg h3, if_neg h4, if_neg h5, if_neg h6, if_neg h7, if_neg h8, if_neg h9, if_neg h10, if_neg h11, if_neg h12, if_neg (show ¬ d_X2_isAccount w (what - 20) = 0 by rw [h25, d_X2_isAccount]; decide), if_neg (show ¬ what - 20 = 0 by rw [h25]; decide), if_neg (show ¬ what - 20 = 1 by rw [h25]; decide), if_neg (show ¬ what - 20 = 2 by rw [h25]; decide), if_neg (show ¬ what - 20 = 3 by rw [h25]; decide), if_neg (show ¬ what - 20 = 4 by rw [h25]; decide), if_pos (show what - 20 = 5 by rw [h25]; decide)]
    rw [if_neg h0, if_neg h1, if_neg h2, if_neg h3, if_neg h4, if_neg h5, if_neg h6, if_neg h7, if_neg h8, if_neg h9, if_neg h10, if_neg h11, if_neg h12, if_neg (show ¬ what = 13 by rw [h25]; decide), if_neg (show ¬ what = 14 by rw [h25]; decide), if_neg (show ¬ what = 15 by rw [h25]; decide), if_neg (show ¬ what = 16 by rw [h25]; decide), if_neg (show ¬ what = 17 by rw [h25]; decide), if_neg (show ¬ what = 18 by rw [h25]; decide), if_neg (show ¬ what = 19 by rw [h25]; decide), if_neg h20, if_neg h21, if_neg h22, if_neg h23, if_neg h24, if_pos h25]
  by_cases h26 : what = 26
  · rw [if_neg h0, if_neg h1, if_neg h2, if_neg h3, if_neg h4, if_neg h5, if_neg h6, if_neg h7, if_neg h8, if_neg h9, if_neg h10, if_neg h11, if_neg h12, if_neg (show ¬ d_X2_isAccount w (what - 20) = 0 by rw [h26, d_X2_isAccount]; decide), if_neg (show ¬ what - 20 = 0 by rw [h26]; decide), if_neg (show ¬ what - 20 = 1 by rw [h26]; decide), if_neg (show ¬ what - 20 = 2 by rw [h26]; decide), if_neg (show ¬ what - 20 = 3 by rw [h26]; decide), if_neg (show ¬ what - 20 = 4 by rw [h26]; decide), if_neg (show ¬ what - 20 = 5 by rw [h26]; decide)]
    rw [if_neg h0, if_neg h1, if_neg h2, if_neg h3, if_neg h4, if_neg h5, if_neg h6, if_neg h7, if_neg h8, if_neg h9, if_neg h10, if_neg h11, if_neg h12, if_neg (show ¬ what = 13 by rw [h26]; decide), if_neg (show ¬ what = 14 by rw [h26]; decide), if_neg (show ¬ what = 15 by rw [h26]; decide), if_neg (show ¬ what = 16 by rw [h26]; decide), if_neg (show ¬ what = 17 by rw [h26]; decide), if_neg (show ¬ what = 18 by rw [h26]; decide), if_neg (show ¬ what = 19 by rw [h26]; decide), if_neg h20, if_neg h21, if_neg h22, if_neg h23, if_neg h24, if_neg h25]
    rw [h26, if_pos (show s_in (26 : Int32) 10 12 = 0 by decide), if_neg (show ¬ s_in (26 : Int32) 20 26 = 0 by decide), zlet_def]
    rfl
  rw [if_neg h0, if_neg h1, if_neg h2, if_neg h3, if_neg h4, if_neg h5, if_neg h6, if_neg h7, if_neg h8, if_neg h9, if_neg h10, if_neg h11, if_neg h12, if_pos (isAcc_no w h20 h21 h22 h23 h24 h25 h26)]
  rw [if_neg h0, if_neg h1, if_neg h2, if_neg h3, if_neg h4, if_neg h5, if_neg h6, if_neg h7, if_neg h8, if_neg h9, if_neg h10, if_neg h11, if_neg h12, in_1012 h10 h11 h12, in_2026 h20 h21 h22 h23 h24 h25 h26]
  rw [if_pos rfl, if_pos rfl, if_neg h25]
  simp only [ite_self]
