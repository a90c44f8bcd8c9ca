/-! the class's game, its other methods -/
def zpx (S T : Nat → Int32) (n : Nat) : Nat → Int32 := fun b => if b < n then T b else S b
def zcp (S T : Nat → Int32) (o : Nat) : Nat → Int32 := fun b => if o ≤ b ∧ b < o + 36 then T b else S b
theorem zcp_0 (S T : Nat → Int32) : zcp S T 0 = zpx S T 36 := by
  funext b
  unfold zcp zpx
  by_cases h : b < 36
  · rw [if_pos ⟨Nat.zero_le _, by omega⟩, if_pos h]
  · rw [if_neg (fun q => h (by omega)), if_neg h]
theorem zcp_n (S T : Nat → Int32) (n : Nat) : zcp (zpx S T n) T n = zpx S T (n + 36) := by
  funext b
  unfold zcp zpx
  by_cases h : b < n
  · rw [if_neg (by omega), if_pos h, if_pos (by omega)]
  · by_cases h2 : b < n + 36
    · rw [if_pos ⟨by omega, h2⟩, if_pos h2]
    · rw [if_neg (by omega), if_neg h, if_neg h2]
theorem xcopy_xv (w : xW) {g h : Nat} (o : Nat) : xcopy w g o h o = xv w g (zcp (w.1 g) (w.1 h) o) := by
  refine Prod.ext ?_ rfl
  funext a b
  show (if a = g ∧ o ≤ b ∧ b < o + 36 then xg w h (o + (b - o)) else w.1 a b) = (if a = g then zcp (w.1 g) (w.1 h) o b else w.1 a b)
  unfold zcp
  by_cases ha : a = g
  · by_cases hb : o ≤ b ∧ b < o + 36
    · rw [if_pos ⟨ha, hb⟩, if_pos ha, if_pos hb, xg_row, Nat.add_sub_cancel' hb.1]
    · rw [if_neg (fun q => hb q.2), if_pos ha, if_neg hb, ha]
  · rw [if_neg (fun q => ha q.1), if_neg ha]
theorem k_copyBoard (w : xW) {g h : Nat} (hne : ¬ h = g) : d_X0_copyFrom w g h = xv w g (zpx (w.1 g) (w.1 h) 144) := by
  rw [d_X0_copyFrom, zlet_def, zlet_def, zlet_def, zlet_def]
  rw [xcopy_xv, xcopy_xv, xcopy_xv, xcopy_xv]
  simp only [xv_row, xv_xv, xv_ne _ _ hne]
  rw [zcp_0, zcp_n, zcp_n, zcp_n]
/-- what every row of a game keeps -/
def zRw (S : Nat → Int32) : Prop := S 157 = 0 ∧ (∀ j, 159 ≤ j → S j = 0) ∧ (S 148 = 0 ∨ S 148 = 1)
theorem zRw.h157 {S : Nat → Int32} (h : zRw S) : S 157 = 0 := h.1
theorem zRw.tail {S : Nat → Int32} (h : zRw S) : ∀ j, 159 ≤ j → S j = 0 := h.2.1
theorem zRw.h148 {S : Nat → Int32} (h : zRw S) : S 148 = 0 ∨ S 148 = 1 := h.2.2
theorem zb_01 {x : Int32} (h : x = 0 ∨ x = 1) : zb x = x := by
  rcases h with h | h <;> rw [h] <;> rfl
theorem k_copyFrom (w : xW) {g h : Nat} (hne : ¬ h = g) (h1 : zRw (w.1 g)) (h2 : zRw (w.1 h)) : d_X1_copyFrom w g h = xv w g (w.1 h) := by
  rw [d_X1_copyFrom]
  simp only [zlet_def]
  rw [k_copyBoard w hne]
  simp only [xs_xv11, xg_row, xv_ne _ _ hne, zb_01 h2.h148]
  congr 1
  funext j
  by_cases hj : j < 144
  · simp only [zU_at]
    rw [if_neg (by omega), if_neg (by omega), if_neg (by omega), if_neg (by omega), if_neg (by omega), if_neg (by omega), if_neg (by omega), if_neg (by omega), if_neg (by omega), if_neg (by omega), if_neg (by omega), if_neg (by omega), if_neg (by omega), if_neg (by omega)]
    exact if_pos hj
  · by_cases hj2 : 159 ≤ j
    · simp only [zU_at]
      rw [if_neg (by omega), if_neg (by omega), if_neg (by omega), if_neg (by omega), if_neg (by omega), if_neg (by omega), if_neg (by omega), if_neg (by omega), if_neg (by omega), if_neg (by omega), if_neg (by omega), if_neg (by omega), if_neg (by omega), if_neg (by omega)]
      rw [h2.tail j hj2, zpx, if_neg hj, h1.tail j hj2]
    · have e : j = 144 ∨ j = 145 ∨ j = 146 ∨ j = 147 ∨ j = 148 ∨ j = 149 ∨ j = 150 ∨ j = 151 ∨ j = 152 ∨ j = 153 ∨ j = 154 ∨ j = 155 ∨ j = 156 ∨ j = 157 ∨ j = 158 := by omega
      rcases e with e | e | e | e | e | e | e | e | e | e | e | e | e | e | e <;> subst e <;> simp [zU_at, zpx, h1.h157, h2.h157]
theorem k_isOver (w : xW) (g : Nat) : d_X1_isOver w g = if w.1 g 145 = 0 then 0 else 1 := by
  rw [d_X1_isOver, xg_row]
theorem k_isOver0 (w : xW) (g : Nat) : d_X1_isOver w g = 0 ↔ w.1 g 145 = 0 := by
  rw [k_isOver]
  by_cases h : w.1 g 145 = 0
  · rw [if_pos h]; exact ⟨fun _ => h, fun _ => rfl⟩
  · rw [if_neg h]; exact ⟨fun q => absurd q (by decide), fun q => absurd q h⟩
theorem k_makeMove (w : xW) (g : Nat) {f t : Nat} (hf : f < 36) (ht : t < 36) (hs : zsides (w.1 g)) (hm : w.1 g f = w.1 g 144) (h01 : w.1 g f = 0 ∨ w.1 g f = 1) (hc : ¬ s_costOf (w.1 g) f t < 0) (hne : f ≠ t) : d_X1_makeMove w g f t = (s_costOf (w.1 g) f t, xv w g (s_makes (w.1 g) f t)) := by
  rw [d_X1_makeMove, k_carryOut w g hf ht hs hm h01 hc hne, zlet_def (s_costOf (w.1 g) f t, xv w g (s_carry (w.1 g) f t))]
  dsimp only
  rw [k_isOver, xv_row, s_makes_eq, zlet_def, xg_xv', k_beginTurn]
  by_cases h : s_carry (w.1 g) f t 145 = 0
  · rw [if_pos h, if_pos rfl, if_pos h]
  · rw [if_neg h, if_neg (by decide), if_neg h]
theorem k_reasonAgainst (w : xW) (g : Nat) {f t : Nat} (hf : f < 36) (ht : t < 36) (hs : zsides (w.1 g)) (h145 : w.1 g 145 = 0 ∨ w.1 g 145 = 1 ∨ w.1 g 145 = 2) : d_X1_reasonAgainst w g f t = s_refuses (w.1 g) f t := by
  rw [d_X1_reasonAgainst, s_refuses, k_isOver, k_hasPiece w g hf, k_sideOn w g hf, k_sideOn w g ht, k_springOn w g hf, k_price w g hf ht (hs f hf) (hs t ht), xg_row]
  by_cases h : w.1 g 145 = 0
  · rw [if_pos h, if_pos rfl, if_pos (show w.1 g 145 ≤ 0 by rw [h]; decide)]
    by_cases h2 : w.1 g f = -1
    · rw [if_pos h2, if_pos rfl, if_pos h2]
    · rw [if_neg h2, if_neg (by decide), if_neg h2, if_neg h2]
      by_cases h3 : w.1 g f = w.1 g 144
      · rw [if_pos h3, if_pos h3]
        by_cases h4 : w.1 g t = w.1 g 144
        · rw [if_pos h4, if_pos h4]
        · rw [if_neg h4, if_neg h4, zlet_def]
          unfold s_pos
          by_cases h5 : 0 ≤ s_costOf (w.1 g) f t
          · rw [if_pos h5, if_neg (Int32.not_lt.mpr h5), if_neg (show ¬ s_costOf (w.1 g) f t = 0 from s_cost_nz _ _ _ hf ht)]
            rw [s_canGo, zlet_def]
            by_cases h6 : s_costOf (w.1 g) f t ≤ w.1 g (72 + f)
            · rw [if_pos h6, if_neg (Int32.not_lt.mpr h5), if_neg (Int32.not_lt.mpr h6), if_neg (by decide)]
            · rw [if_neg h6, if_neg (Int32.not_lt.mpr h5), if_pos (Int32.not_le.mp h6), if_pos rfl]
          · rw [if_neg h5, if_pos (Int32.not_le.mp h5), if_pos rfl]
      · rw [if_neg h3, if_neg h3]
  · rw [if_neg h, if_neg (by decide), if_neg (by rcases h145 with q | q | q <;> first | exact absurd q h | (rw [q]; decide))]
theorem k_reasonAgainstPass (w : xW) (g : Nat) (hs : zsides (w.1 g)) (h145 : w.1 g 145 = 0 ∨ w.1 g 145 = 1 ∨ w.1 g 145 = 2) (h144 : w.1 g 144 = 0 ∨ w.1 g 144 = 1) : d_X1_reasonAgainstPass w g = s_refusesPass (w.1 g) := by
  rw [d_X1_reasonAgainstPass, s_refusesPass, k_isOver, xg_row, k_movesOf w g _ hs (by rcases h144 with q | q <;> rw [q] <;> decide)]
  by_cases h : w.1 g 145 = 0
  · rw [if_pos h, if_pos rfl, if_pos (show w.1 g 145 ≤ 0 by rw [h]; decide)]
  · rw [if_neg h, if_neg (by decide), if_neg (by rcases h145 with q | q | q <;> first | exact absurd q h | (rw [q]; decide))]
theorem s_springs_zU (S : Nat → Int32) {j : Nat} (hj : 108 ≤ j) (x side : Int32) : s_springs (zU S j x) side = s_springs S side := by
  unfold s_springs
  exact s_springs_4_agree (fun i hi => zU_ne S x (by omega)) side _ _ _ _
theorem k_makePass (w : xW) (g : Nat) (h148 : w.1 g 148 = 0 ∨ w.1 g 148 = 1) (h146 : w.1 g 146 = -1) : d_X1_makePass w g = xv w g (s_passes (w.1 g)) := by
  rw [d_X1_makePass, s_passes]
  simp only [zlet_def, xs_xv, xv_row, xv_xv, xg_row, zU_ne _ _ (show 148 ≠ 147 by omega), zb_01 h148, k_beginTurn, k_springsOf]
  by_cases h : w.1 g 148 = 0
  · rw [if_pos h, if_neg (show ¬ w.1 g 148 = 1 by rw [h]; decide)]
  · rw [if_neg h, if_pos (h148.resolve_left h)]
    generalize s_springs (zU (zU (w.1 g) 147 (w.1 g 147 + 1)) 145 2) 0 - s_springs (zU (zU (w.1 g) 147 (w.1 g 147 + 1)) 145 2) 1 = x
    by_cases h2 : x = 0
    · rw [if_pos h2, if_pos (show x ≤ 0 by rw [h2]; decide), if_pos (show 0 ≤ x by rw [h2]; decide)]
      congr 1
      funext j
      rw [zU_at _ 146]
      by_cases hj : j = 146
      · rw [if_pos hj, hj, zU_ne _ _ (show 146 ≠ 145 by omega), zU_ne _ _ (show 146 ≠ 147 by omega), h146]
      · rw [if_neg hj]
    · rw [if_neg h2]
      by_cases h3 : x ≤ 0
      · rw [if_pos h3, if_pos h3, if_neg (show ¬ 0 ≤ x from fun q => h2 (Int32.le_antisymm h3 q))]
      · rw [if_neg h3, if_neg h3]
