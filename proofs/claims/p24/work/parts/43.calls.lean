theorem isAcc_no (w : xW) {what : Int32} (h20 : ¬ what = 20) (h21 : ¬ what = 21) (h22 : ¬ what = 22) (h23 : ¬ what = 23) (h24 : ¬ what = 24) (h25 : ¬ what = 25) (h26 : ¬ what = 26) : d_X2_isAccount w (what - 20) = 0 := by
  rw [d_X2_isAccount]
  by_cases a : what - 20 < 0
  · rw [if_pos a]
  · rw [if_neg a]
    by_cases b : 6 < what - 20
    · rw [if_pos b]
    · obtain ⟨k, hk, e⟩ := nI_of2 (n := 6) (M := 6) (by decide) a (Int32.not_lt.mp b)
      have e2 : what = nI k + 20 := by rw [← e, Int32.sub_add_cancel]
      have : k = 0 ∨ k = 1 ∨ k = 2 ∨ k = 3 ∨ k = 4 ∨ k = 5 ∨ k = 6 := by omega
      rcases this with z | z | z | z | z | z | z <;> rw [z] at e2
      · exact absurd (e2.trans (by decide)) h20
      · exact absurd (e2.trans (by decide)) h21
      · exact absurd (e2.trans (by decide)) h22
      · exact absurd (e2.trans (by decide)) h23
      · exact absurd (e2.trans (by decide)) h24
      · exact absurd (e2.trans (by decide)) h25
      · exact absurd (e2.trans (by decide)) h26
theorem in_1012 {what : Int32} (h10 : ¬ what = 10) (h11 : ¬ what = 11) (h12 : ¬ what = 12) : s_in what 10 12 = 0 := by
  rcases in_of (v := what) (a := 10) (b := 12) (by omega) with q | ⟨q, r⟩
  · exact q
  · obtain ⟨k, k1, k2, e⟩ := r (by decide) (by omega)
    have : k = 10 ∨ k = 11 ∨ k = 12 := by omega
    rcases this with z | z | z <;> rw [z] at e
    · exact absurd e h10
    · exact absurd e h11
    · exact absurd e h12
theorem in_2026 {what : Int32} (h20 : ¬ what = 20) (h21 : ¬ what = 21) (h22 : ¬ what = 22) (h23 : ¬ what = 23) (h24 : ¬ what = 24) (h25 : ¬ what = 25) (h26 : ¬ what = 26) : s_in what 20 26 = 0 := by
  rcases in_of (v := what) (a := 20) (b := 26) (by omega) with q | ⟨q, r⟩
  · exact q
  · obtain ⟨k, k1, k2, e⟩ := r (by decide) (by omega)
    have : k = 20 ∨ k = 21 ∨ k = 22 ∨ k = 23 ∨ k = 24 ∨ k = 25 ∨ k = 26 := by omega
    rcases this with z | z | z | z | z | z | z <;> rw [z] at e
    · exact absurd e h20
    · exact absurd e h21
    · exact absurd e h22
    · exact absurd e h23
    · exact absurd e h24
    · exact absurd e h25
    · exact absurd e h26
