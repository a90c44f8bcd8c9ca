/-! setting up: the model's row and the class's game -/
def bg_tw (c : Nat) : Int32 := if nI c = 0 then 1 else if c = 5 then 1 else if c = 14 then 1 else if c = 21 then 1 else if c = 30 then 1 else if c = 35 then 1 else 0
def bg_kd (x : Nat) : Int32 := if nI x = 0 then 1 else if x = 5 then 1 else if x = 2 then 0 else if x = 3 then 2 else 3
theorem s_lays_at (S : Nat → Int32) (c : Nat) (a b p : Int32) (j : Nat) : s_lays S c a b p j = if j = 72 + c then p else if j = 36 + c then b else if j = c then a else S j := rfl
theorem s_lays_hi (S : Nat → Int32) {c : Nat} (a b p : Int32) {j : Nat} (hc : c < 36) (hj : 108 ≤ j) : s_lays S c a b p j = S j := by
  rw [s_lays_at, if_neg (by omega), if_neg (by omega), if_neg (by omega)]
theorem s_lays_agree {S S' : Nat → Int32} (c : Nat) (a b p : Int32) {j : Nat} (h : S j = S' j) : s_lays S c a b p j = s_lays S' c a b p j := by
  rw [s_lays_at, s_lays_at, h]
theorem s_lays_comm (S : Nat → Int32) {c d : Nat} (hc : c < 36) (hd : d < 36) (hne : c ≠ d) (a b p a' b' p' : Int32) : s_lays (s_lays S c a b p) d a' b' p' = s_lays (s_lays S d a' b' p') c a b p := by
  funext j
  simp only [s_lays_at]
  by_cases h1 : j = 72 + c
  · rw [if_neg (by omega), if_neg (by omega), if_neg (by omega), if_pos h1, if_pos h1]
  by_cases h2 : j = 36 + c
  · rw [if_neg (by omega), if_neg (by omega), if_neg (by omega), if_neg h1, if_pos h2, if_neg h1, if_pos h2]
  by_cases h3 : j = c
  · rw [if_neg (by omega), if_neg (by omega), if_neg (by omega), if_neg h1, if_neg h2, if_pos h3, if_neg h1, if_neg h2, if_pos h3]
  rw [if_neg h1, if_neg h2, if_neg h3, if_neg h1, if_neg h2, if_neg h3]
def q_A (T : Nat → Int32) : Nat → Nat → (Nat → Int32) → (Nat → Int32)
  | 0, _, S => S
  | n + 1, k, S => q_A T n (k + 1) (zU (s_lays S k (-1) 0 0) (108 + k) (T k))
theorem q_A_lo (T T' : Nat → Int32) {j : Nat} (hj : j < 108 ∨ 144 ≤ j) : ∀ (n k : Nat) (S S' : Nat → Int32), k + n ≤ 36 → S j = S' j → q_A T n k S j = q_A T' n k S' j := by
  intro n
  induction n with
  | zero => intro k S S' _ h; exact h
  | succ n ih =>
    intro k S S' hk h
    refine ih (k + 1) _ _ (by omega) ?_
    rw [zU_at, zU_at, if_neg (by omega), if_neg (by omega)]
    exact s_lays_agree k _ _ _ h
theorem q_A_tw (T : Nat → Int32) {c : Nat} (hc : c < 36) : ∀ (n k : Nat) (S : Nat → Int32), k + n ≤ 36 → q_A T n k S (108 + c) = if k ≤ c ∧ c < k + n then T c else S (108 + c) := by
  intro n
  induction n with
  | zero => intro k S _; rw [if_neg (by omega)]; rfl
  | succ n ih =>
    intro k S hk
    rw [q_A, ih (k + 1) _ (by omega), zU_at]
    by_cases h : k = c
    · subst h
      rw [if_neg (by omega), if_pos rfl, if_pos (by omega)]
    · rw [if_neg (by omega : ¬ 108 + c = 108 + k), s_lays_hi S _ _ _ (by omega) (by omega)]
      by_cases h2 : k ≤ c ∧ c < k + (n + 1)
      · rw [if_pos h2, if_pos (by omega)]
      · rw [if_neg h2, if_neg (by omega)]
def q_B (x1 : Int32) : Nat → Nat → (Nat → Int32) → (Nat → Int32)
  | 0, _, S => S
  | n + 1, k, S => q_B x1 n (k + 1) (s_lays (s_lays (s_lays (s_lays S k 0 (bg_kd k) x1) (6 + k) 0 4 x1) (30 + k) 1 (bg_kd k) x1) (24 + k) 1 4 x1)
theorem q_B_agree (x1 : Int32) {j : Nat} : ∀ (n k : Nat) (S S' : Nat → Int32), S j = S' j → q_B x1 n k S j = q_B x1 n k S' j := by
  intro n
  induction n with
  | zero => intro k S S' h; exact h
  | succ n ih =>
    intro k S S' h
    exact ih (k + 1) _ _ (s_lays_agree _ _ _ _ (s_lays_agree _ _ _ _ (s_lays_agree _ _ _ _ (s_lays_agree _ _ _ _ h))))
theorem q_B_hi (x1 : Int32) {j : Nat} (hj : 108 ≤ j) : ∀ (n k : Nat) (S : Nat → Int32), k + n ≤ 6 → q_B x1 n k S j = S j := by
  intro n
  induction n with
  | zero => intro k S _; rfl
  | succ n ih =>
    intro k S hk
    rw [q_B, ih (k + 1) _ (by omega), s_lays_hi _ _ _ _ (by omega) hj, s_lays_hi _ _ _ _ (by omega) hj, s_lays_hi _ _ _ _ (by omega) hj, s_lays_hi _ _ _ _ (by omega) hj]
def q_C : Nat → Nat → (Nat → Int32) → (Nat → Int32)
  | 0, _, S => S
  | n + 1, k, S => q_C n (k + 1) (zU S (152 + k) 0)
theorem q_C_at {j : Nat} : ∀ (n k : Nat) (S : Nat → Int32), q_C n k S j = if 152 + k ≤ j ∧ j < 152 + (k + n) then 0 else S j := by
  intro n
  induction n with
  | zero => intro k S; rw [if_neg (by omega)]; rfl
  | succ n ih =>
    intro k S
    rw [q_C, ih (k + 1), zU_at]
    by_cases h : j = 152 + k
    · rw [if_neg (by omega), if_pos h, if_pos (by omega)]
    · rw [if_neg h]
      by_cases h2 : 152 + (k + 1) ≤ j ∧ j < 152 + (k + 1 + n)
      · rw [if_pos h2, if_pos (by omega)]
      · rw [if_neg h2, if_neg (by omega)]
def q_T : Nat → Nat → (Nat → Int32) → (Nat → Int32)
  | 0, _, S => S
  | n + 1, k, S => q_T n (k + 1) (zU S (108 + zRow1n k) 1)
theorem q_T_lo {j : Nat} (hj : j < 108 ∨ 144 ≤ j) : ∀ (n k : Nat) (S : Nat → Int32), q_T n k S j = S j := by
  intro n
  induction n with
  | zero => intro k S; rfl
  | succ n ih =>
    intro k S
    have := zRow1_lt k
    rw [q_T, ih (k + 1), zU_at, if_neg (by omega)]
theorem q_T_tw {c : Nat} (S : Nat → Int32) (hc : c < 36) (h : S (108 + c) = 0) : q_T 6 0 S (108 + c) = bg_tw c := by
  have e : ∀ k, k < 6 → zRow1n k = [0, 5, 14, 21, 30, 35].getD k 0 := fun _ _ => rfl
  have d : ∀ c, c < 36 → (if c = 35 then (1 : Int32) else if c = 30 then 1 else if c = 21 then 1 else if c = 14 then 1 else if c = 5 then 1 else if c = 0 then 1 else 0) = bg_tw c := by decide +kernel
  rw [← d c hc]
  show (if 108 + c = 108 + 35 then (1 : Int32) else if 108 + c = 108 + 30 then 1 else if 108 + c = 108 + 21 then 1 else if 108 + c = 108 + 14 then 1 else if 108 + c = 108 + 5 then 1 else if 108 + c = 108 + 0 then 1 else S (108 + c)) = _
  rw [h]
  simp only [Nat.add_left_cancel_iff]
/-- both loops of the model in these words -/
theorem m_bg13 (kt : Nat → (Nat → Int32) → (Nat → Int32)) : ∀ (n j k : Nat) (S : Nat → Int32), k + j = 36 → j < n → s_begins_13 kt n k S = kt 36 (q_A bg_tw j k S) := by
  intro n
  induction n with
  | zero => intro j k S h1 h2; omega
  | succ n ih =>
    intro j k S h1 h2
    rw [s_begins_13]
    by_cases h : 36 ≤ k
    · have : j = 0 := by omega
      subst this
      rw [if_pos h, show k = 36 by omega]
      rfl
    · rw [if_neg h]
      obtain ⟨j', e⟩ : ∃ j', j = j' + 1 := ⟨j - 1, by omega⟩
      subst e
      exact ih j' (k + 1) _ (by omega) (by omega)
theorem m_bg82 (x1 : Int32) (kt : Nat → (Nat → Int32) → (Nat → Int32)) : ∀ (n j k : Nat) (S : Nat → Int32), k + j = 6 → j < n → s_begins_82 x1 kt n k S = kt 6 (q_B x1 j k S) := by
  intro n
  induction n with
  | zero => intro j k S h1 h2; omega
  | succ n ih =>
    intro j k S h1 h2
    rw [s_begins_82]
    by_cases h : 6 ≤ k
    · have : j = 0 := by omega
      subst this
      rw [if_pos h, show k = 6 by omega]
      rfl
    · rw [if_neg h]
      obtain ⟨j', e⟩ : ∃ j', j = j' + 1 := ⟨j - 1, by omega⟩
      subst e
      exact ih j' (k + 1) _ (by omega) (by omega)
theorem m_bg215 (kt : Nat → (Nat → Int32) → (Nat → Int32)) : ∀ (n j k : Nat) (S : Nat → Int32), k + j = 7 → j < n → s_begins_215 kt n k S = kt 7 (q_C j k S) := by
  intro n
  induction n with
  | zero => intro j k S h1 h2; omega
  | succ n ih =>
    intro j k S h1 h2
    rw [s_begins_215]
    by_cases h : 7 ≤ k
    · have : j = 0 := by omega
      subst this
      rw [if_pos h, show k = 7 by omega]
      rfl
    · rw [if_neg h]
      obtain ⟨j', e⟩ : ∃ j', j = j' + 1 := ⟨j - 1, by omega⟩
      subst e
      exact ih j' (k + 1) _ (by omega) (by omega)
def bg_G (R : Nat → Int32) : Nat → Int32 := zU (zU (zU (zU (zU R 144 0) 145 0) 146 (-1)) 147 0) 148 0
def bg_R (S : Nat → Int32) : Nat → Int32 := q_C 7 0 (bg_G (q_B (S 149 / 2) 6 0 (q_A bg_tw 36 0 S)))
theorem zlet_def {α β : Type} (e : α) (f : α → β) : zlet e f = f e := rfl
theorem s_bg0 (S : Nat → Int32) : s_begins S = s_begins_13 (s_begins_13k (S 149 / 2)) 37 0 S := by
  rw [s_begins, zlet_def]
theorem s_bg1 (x1 : Int32) (e : Nat) (S : Nat → Int32) : s_begins_13k x1 e S = s_begins_82 x1 s_begins_82k 7 0 S := rfl
theorem s_bg2 (e : Nat) (S : Nat → Int32) : s_begins_82k e S = s_begins_215 s_begins_215k 8 0 (bg_G S) := rfl
theorem s_bg3 (e : Nat) (S : Nat → Int32) : s_begins_215k e S = zU S 152 (s_allSprings S) := rfl
theorem s_begins_eq (S : Nat → Int32) : s_begins S = zU (bg_R S) 152 (s_allSprings (bg_R S)) := by
  rw [s_bg0, m_bg13 _ 37 36 0 S (by omega) (by omega), s_bg1, m_bg82 _ _ 7 6 0 _ (by omega) (by omega), s_bg2, m_bg215 _ 8 7 0 _ (by omega) (by omega), s_bg3, bg_R]
theorem k_place_xv (w : xW) (g : Nat) (S : Nat → Int32) {c : Nat} (h : c < 36) (s k p : Int32) : d_X0_place (xv w g S) g c s k p = xv w g (s_lays S c s k p) := by
  rw [k_place _ g h, xv_row, xv_xv]
/-! the class's loops -/
theorem k_arr_2 (g : Nat) (kt : Nat → xW → xW) : ∀ (n j k : Nat) (w : xW), k + j = 36 → j < n → d_X0_arrange_2 g kt n k w = kt 36 (xv w g (q_A (fun _ => 0) j k (w.1 g))) := by
  intro n
  induction n with
  | zero => intro j k w h1 h2; omega
  | succ n ih =>
    intro j k w h1 h2
    rw [d_X0_arrange_2]
    by_cases h : 36 ≤ k
    · have : j = 0 := by omega
      subst this
      rw [if_pos h, show k = 36 by omega]
      show _ = kt 36 (xv w g (w.1 g))
      rw [xv_self]
    · rw [if_neg h]
      obtain ⟨j', e⟩ : ∃ j', j = j' + 1 := ⟨j - 1, by omega⟩
      subst e
      unfold zlet
      dsimp only
      rw [k_empty w g (by omega), k_markTower _ g (by omega), xv_row, xv_xv, if_pos rfl, ih j' (k + 1) _ (by omega) (by omega), xv_row, xv_xv]
      rfl
theorem zRow0_kd : ∀ k, k < 6 → zRow0 k = bg_kd k := by decide +kernel
theorem k_arr_27 (g : Nat) (x1 : Int32) (kt : Nat → xW → xW) : ∀ (n j k : Nat) (w : xW), k + j = 6 → j < n → d_X0_arrange_27 g x1 kt n k w = kt 6 (xv w g (q_B x1 j k (w.1 g))) := by
  intro n
  induction n with
  | zero => intro j k w h1 h2; omega
  | succ n ih =>
    intro j k w h1 h2
    rw [d_X0_arrange_27]
    by_cases h : 6 ≤ k
    · have : j = 0 := by omega
      subst this
      rw [if_pos h, show k = 6 by omega]
      show _ = kt 6 (xv w g (w.1 g))
      rw [xv_self]
    · rw [if_neg h]
      obtain ⟨j', e⟩ : ∃ j', j = j' + 1 := ⟨j - 1, by omega⟩
      subst e
      unfold zlet
      dsimp only
      rw [k_place w g (by omega), k_place_xv w g _ (by omega), k_place_xv w g _ (by omega), k_place_xv w g _ (by omega), ih j' (k + 1) _ (by omega) (by omega), xv_row, xv_xv, zRow0_kd k (by omega), s_lays_comm _ (c := 24 + k) (d := 30 + k) (by omega) (by omega) (by omega)]
      rfl
theorem k_arr_92 (g : Nat) (kt : Nat → xW → xW) : ∀ (n j k : Nat) (w : xW), k + j = 6 → j < n → d_X0_arrange_92 g kt n k w = kt 6 (xv w g (q_T j k (w.1 g))) := by
  intro n
  induction n with
  | zero => intro j k w h1 h2; omega
  | succ n ih =>
    intro j k w h1 h2
    rw [d_X0_arrange_92]
    by_cases h : 6 ≤ k
    · have : j = 0 := by omega
      subst this
      rw [if_pos h, show k = 6 by omega]
      show _ = kt 6 (xv w g (w.1 g))
      rw [xv_self]
    · rw [if_neg h]
      obtain ⟨j', e⟩ : ∃ j', j = j' + 1 := ⟨j - 1, by omega⟩
      subst e
      unfold zlet
      dsimp only
      rw [k_markTower w g (zRow1_lt k), if_neg (by decide), ih j' (k + 1) _ (by omega) (by omega), xv_row, xv_xv]
      rfl
theorem k_arrange (w : xW) (g : Nat) (x1 : Int32) : d_X0_arrange w g x1 = xv w g (q_T 6 0 (q_B x1 6 0 (q_A (fun _ => 0) 36 0 (w.1 g)))) := by
  unfold d_X0_arrange
  rw [k_arr_2 g _ 37 36 0 w rfl (by omega)]
  unfold d_X0_arrange_2k
  rw [k_arr_27 g x1 _ 7 6 0 _ rfl (by omega), xv_row, xv_xv]
  unfold d_X0_arrange_27k
  rw [k_arr_92 g _ 7 6 0 _ rfl (by omega), xv_row, xv_xv]
  rfl
/-- what a sum of springs looks at -/
theorem s_springs_4_agree {S S' : Nat → Int32} (h : ∀ j, j < 108 → S j = S' j) (side : Int32) (kt : Int32 → Nat → Int32) : ∀ (n : Nat) (a : Int32) (c : Nat), s_springs_4 S side kt n a c = s_springs_4 S' side kt n a c := by
  intro n
  induction n with
  | zero => intros; rfl
  | succ n ih =>
    intro a c
    rw [s_springs_4, s_springs_4]
    by_cases hc : 36 ≤ c
    · rw [if_pos hc, if_pos hc]
    · rw [if_neg hc, if_neg hc, h c (by omega), h (72 + c) (by omega)]
      unfold zlet
      dsimp only
      rw [ih]
theorem s_allSprings_agree {S S' : Nat → Int32} (h : ∀ j, j < 108 → S j = S' j) : s_allSprings S = s_allSprings S' := by
  unfold s_allSprings s_springs
  rw [s_springs_4_agree h, s_springs_4_agree h]
theorem bg_same (S : Nat → Int32) (h157 : S 157 = 0) (j : Nat) (hj : ¬ (152 ≤ j ∧ j < 159)) : bg_G (q_T 6 0 (q_B (S 149 / 2) 6 0 (q_A (fun _ => 0) 36 0 S))) j = bg_R S j := by
  unfold bg_R
  rw [q_C_at, if_neg (by omega)]
  unfold bg_G
  simp only [zU_at]
  have key : q_T 6 0 (q_B (S 149 / 2) 6 0 (q_A (fun _ => 0) 36 0 S)) j = q_B (S 149 / 2) 6 0 (q_A bg_tw 36 0 S) j := by
    by_cases hT : 108 ≤ j ∧ j < 144
    · obtain ⟨c, e⟩ : ∃ c, j = 108 + c := ⟨j - 108, by omega⟩
      subst e
      have hc : c < 36 := by omega
      rw [q_T_tw _ hc, q_B_hi _ (by omega) 6 0 _ (by omega), q_A_tw bg_tw hc 36 0 S (by omega), if_pos (by omega)]
      rw [q_B_hi _ (by omega) 6 0 _ (by omega), q_A_tw _ hc 36 0 S (by omega), if_pos (by omega)]
    · rw [q_T_lo (by omega)]
      exact q_B_agree _ 6 0 _ _ (q_A_lo _ _ (by omega) 36 0 S S (by omega) rfl)
  rw [key]
theorem k_begin (w : xW) (g : Nat) (h157 : w.1 g 157 = 0) : d_X1_begin w g = xv w g (s_begins (w.1 g)) := by
  unfold d_X1_begin
  rw [k_arrange]
  unfold zlet
  dsimp only
  rw [k_springsInAll]
  simp only [xs_xv, xv_row, xv_xv]
  rw [s_begins_eq, show xg w g 149 = w.1 g 149 from rfl]
  have hs := bg_same (w.1 g) h157
  generalize w.1 g = S at *
  congr 1
  have ha : s_allSprings (zU (zU (zU (zU (zU (q_T 6 0 (q_B (S 149 / 2) 6 0 (q_A (fun _ => 0) 36 0 S))) 144 0) 145 0) 146 (-1)) 147 0) 148 0) = s_allSprings (bg_R S) := s_allSprings_agree (fun j hj => hs j (by omega))
  rw [ha]
  have hR : ∀ j, bg_R S j = if 152 ≤ j ∧ j < 159 then 0 else bg_R S j := by
    intro j
    by_cases h : 152 ≤ j ∧ j < 159
    · rw [if_pos h]
      unfold bg_R
      rw [q_C_at, if_pos (by omega)]
    · rw [if_neg h]
  generalize s_allSprings (bg_R S) = z
  funext j
  simp only [zU_at]
  rw [hR j]
  by_cases h : 152 ≤ j ∧ j < 159
  · rw [if_pos h]
    have h7 : q_T 6 0 (q_B (S 149 / 2) 6 0 (q_A (fun _ => 0) 36 0 S)) 157 = 0 := by
      rw [q_T_lo (by omega), q_B_hi _ (by omega) 6 0 _ (by omega), q_A_lo (fun _ => 0) (fun _ => 0) (by omega) 36 0 S S (by omega) rfl]
      have : ∀ (n k : Nat) (Z : Nat → Int32), k + n ≤ 36 → q_A (fun _ => 0) n k Z 157 = Z 157 := by
        intro n
        induction n with
        | zero => intros; rfl
        | succ n ih =>
          intro k Z hk
          rw [q_A, ih (k + 1) _ (by omega), zU_at, if_neg (by omega), s_lays_hi _ _ _ _ (by omega) (by omega)]
      rw [this 36 0 S (by omega)]
      exact h157
    rcases (by omega : j = 152 ∨ j = 153 ∨ j = 154 ∨ j = 155 ∨ j = 156 ∨ j = 157 ∨ j = 158) with rfl | rfl | rfl | rfl | rfl | rfl | rfl
    · simp [zU_at]
    · simp [zU_at]
    · simp [zU_at]
    · simp [zU_at]
    · simp [zU_at]
    · simp [zU_at, h7]
    · simp [zU_at]
  · rw [if_neg h, ← hs j h]
    unfold bg_G
    simp only [zU_at]
    have n8 : ¬ j = 158 := by omega
    have n6 : ¬ j = 156 := by omega
    have n5 : ¬ j = 155 := by omega
    have n4 : ¬ j = 154 := by omega
    have n3 : ¬ j = 153 := by omega
    have n2 : ¬ j = 152 := by omega
    simp only [n8, n6, n5, n4, n3, n2, if_false]
