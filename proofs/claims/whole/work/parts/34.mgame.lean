/-! the model's game, in the words of its row -/
theorem m_lays (w : xW) (c : Nat) (a b p : Int32) : d_X3_lays w c a b p = xv w 11 (s_lays (w.1 11) c a b p) := xs3 w 11 c (36 + c) (72 + c) a b p
theorem m_lays_xv (w : xW) (S : Nat → Int32) (c : Nat) (a b p : Int32) : d_X3_lays (xv w 11 S) c a b p = xv w 11 (s_lays S c a b p) := by
  rw [m_lays, xv_row, xv_xv]
theorem xs_xv11 (w : xW) (S : Nat → Int32) (v j : Nat) (x : Int32) : xs (xv w v S) v j x = xv w v (zU S j x) := by
  rw [xs_xv, xv_row, xv_xv]
theorem xg_xv' (w : xW) (S : Nat → Int32) (v j : Nat) : xg (xv w v S) v j = S j := by
  rw [xg_row, xv_row]
theorem m3_bg13 (kt : Nat → xW → xW) : ∀ (n j k : Nat) (w : xW), k + j = 36 → j < n → d_X3_begins_13 kt n k w = kt 36 (xv w 11 (q_A bg_tw j k (w.1 11))) := by
  intro n
  induction n with
  | zero => intro j k w h1 h2; omega
  | succ n ih =>
    intro j k w h1 h2
    rw [d_X3_begins_13]
    by_cases h : 36 ≤ k
    · have : j = 0 := by omega
      subst this
      rw [if_pos h, show k = 36 by omega, q_A, xv_self]
    · rw [if_neg h]
      obtain ⟨j', e⟩ : ∃ j', j = j' + 1 := ⟨j - 1, by omega⟩
      subst e
      rw [zlet_def, zlet_def, zlet_def, m_lays, xs_xv11, ih j' (k + 1) _ (by omega) (by omega), xv_row, xv_xv, q_A, bg_tw]
theorem m3_bg82 (x1 : Int32) (kt : Nat → xW → xW) : ∀ (n j k : Nat) (w : xW), k + j = 6 → j < n → d_X3_begins_82 x1 kt n k w = kt 6 (xv w 11 (q_B x1 j k (w.1 11))) := by
  intro n
  induction n with
  | zero => intro j k w h1 h2; omega
  | succ n ih =>
    intro j k w h1 h2
    rw [d_X3_begins_82]
    by_cases h : 6 ≤ k
    · have : j = 0 := by omega
      subst this
      rw [if_pos h, show k = 6 by omega, q_B, xv_self]
    · rw [if_neg h]
      obtain ⟨j', e⟩ : ∃ j', j = j' + 1 := ⟨j - 1, by omega⟩
      subst e
      rw [zlet_def, zlet_def, zlet_def, zlet_def, zlet_def, m_lays w, m_lays_xv, m_lays_xv, m_lays_xv, ih j' (k + 1) _ (by omega) (by omega), xv_row, xv_xv, q_B, bg_kd]
theorem m3_bg215 (kt : Nat → xW → xW) : ∀ (n j k : Nat) (w : xW), k + j = 7 → j < n → d_X3_begins_215 kt n k w = kt 7 (xv w 11 (q_C j k (w.1 11))) := by
  intro n
  induction n with
  | zero => intro j k w h1 h2; omega
  | succ n ih =>
    intro j k w h1 h2
    rw [d_X3_begins_215]
    by_cases h : 7 ≤ k
    · have : j = 0 := by omega
      subst this
      rw [if_pos h, show k = 7 by omega, q_C, xv_self]
    · rw [if_neg h]
      obtain ⟨j', e⟩ : ∃ j', j = j' + 1 := ⟨j - 1, by omega⟩
      subst e
      rw [zlet_def, xs_xv, ih j' (k + 1) _ (by omega) (by omega), xv_row, xv_xv, q_C]
theorem m_begins (w : xW) : d_X3_begins w = xv w 11 (s_begins (w.1 11)) := by
  rw [d_X3_begins, zlet_def, m3_bg13 _ 37 36 0 w (by omega) (by omega), d_X3_begins_13k, m3_bg82 _ _ 7 6 0 _ (by omega) (by omega), xv_row, xv_xv, d_X3_begins_82k]
  simp only [zlet_def, xs_xv11]
  rw [m3_bg215 _ 8 7 0 _ (by omega) (by omega), xv_row, xv_xv, d_X3_begins_215k, zlet_def, m_allSprings, xv_row, xs_xv11, s_begins_eq, bg_R, bg_G, xg_row]
theorem m_turns_20 (kt : Nat → xW → xW) (ks : Nat → (Nat → Int32) → (Nat → Int32)) (w0 : xW) (hk : ∀ k S, kt k (xv w0 11 S) = xv w0 11 (ks k S)) : ∀ (n k : Nat) (S : Nat → Int32), 36 < k + n → k ≤ 36 → d_X3_turns_20 kt n k (xv w0 11 S) = xv w0 11 (s_turns_20 ks n k S) := by
  intro n
  induction n with
  | zero => intro k S h h2; omega
  | succ n ih =>
    intro k S h h2
    rw [d_X3_turns_20, s_turns_20]
    by_cases h36 : 36 ≤ k
    · rw [if_pos h36, if_pos h36, hk]
    · rw [if_neg h36, if_neg h36, xg_xv']
      by_cases a : S (108 + k) = 1
      · rw [if_pos a, if_pos a, xg_xv', xg_xv']
        by_cases b : S k = S 144
        · rw [if_pos b, if_pos b]
          simp only [zlet_def, xg_xv', xs_xv11, m_lesser]
          exact ih (k + 1) _ (by omega) (by omega)
        · rw [if_neg b, if_neg b]
          exact ih (k + 1) _ (by omega) (by omega)
      · rw [if_neg a, if_neg a]
        exact ih (k + 1) _ (by omega) (by omega)
theorem m_turns (w : xW) : d_X3_turns w = xv w 11 (s_turns (w.1 11)) := by
  rw [d_X3_turns, s_turns, zlet_def, zlet_def, xs_xv]
  exact m_turns_20 _ _ w (fun _ _ => rfl) 37 0 _ (by omega) (by omega)
theorem m_turns_xv (w : xW) (S : Nat → Int32) : d_X3_turns (xv w 11 S) = xv w 11 (s_turns S) := by
  rw [m_turns, xv_row, xv_xv]
theorem m_goes (w : xW) (f t : Nat) : d_X3_goes w f t = xv w 11 (s_goes (w.1 11) f t) := by
  rw [d_X3_goes, s_goes]
  simp only [zlet_def, m_costOf, m_lesser, xg_row, xs_xv, xv_row, xv_xv]
  by_cases h : zU (w.1 11) 155 (w.1 11 155 + s_costOf (w.1 11) f t) t = -1
  · simp only [h, if_true, m_lays_xv]
  · simp only [h, if_false]
    generalize zU (zU (zU (w.1 11) 155 (w.1 11 155 + s_costOf (w.1 11) f t)) 154 _) 156 _ = Z
    by_cases h2 : Z (36 + t) = 0
    · simp only [h2, if_true, m_lays_xv]
    · simp only [h2, if_false, m_lays_xv]
theorem m_makes (w : xW) (f t : Nat) : d_X3_makes w f t = xv w 11 (s_makes (w.1 11) f t) := by
  rw [d_X3_makes, s_makes, zlet_def, zlet_def, m_goes]
  generalize s_goes (w.1 11) f t = Z
  rw [zlet_def, zlet_def, xs_xv11, xg_xv', zlet_def, zlet_def, xs_xv11, xg_xv']
  generalize zU (zU Z 147 (Z 147 + 1)) 148 0 = Y
  by_cases h : Y 145 = 0
  · rw [zlet_def Y, if_pos h, if_pos h, zlet_def, m_turns_xv]
  · rw [zlet_def Y, if_neg h, if_neg h]
theorem m_passes (w : xW) : d_X3_passes w = xv w 11 (s_passes (w.1 11)) := by
  rw [d_X3_passes, s_passes]
  simp only [zlet_def, m_springs, xg_row, xs_xv, xv_row, xv_xv]
  by_cases h : zU (w.1 11) 147 (w.1 11 147 + 1) 148 = 1
  · simp only [h, if_true]
  · simp only [h, if_false, m_turns_xv]
