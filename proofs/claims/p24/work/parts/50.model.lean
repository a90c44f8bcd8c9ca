/-! the model's methods that look at every move -/
theorem s_turns_20_hi {j : Nat} (hj : 159 ≤ j) (kt : Nat → (Nat → Int32) → (Nat → Int32)) (hk : ∀ k S, kt k S j = S j) : ∀ (n k : Nat) (S : Nat → Int32), 36 < k + n → k ≤ 36 → s_turns_20 kt n k S j = S j := by
  intro n
  induction n with
  | zero => intro k S h1 h2; omega
  | succ n ih =>
    intro k S h1 h2
    rw [s_turns_20]
    by_cases h36 : 36 ≤ k
    · rw [if_pos h36]; exact hk k S
    · rw [if_neg h36]
      by_cases a : S (108 + k) = 1
      · rw [if_pos a]
        by_cases b : S k = S 144
        · rw [if_pos b, zlet_def, zlet_def, zlet_def, ih _ _ (by omega) (by omega), zU_ne _ _ (by omega), zU_ne _ _ (by omega)]
        · rw [if_neg b]; exact ih _ _ (by omega) (by omega)
      · rw [if_neg a]; exact ih _ _ (by omega) (by omega)
theorem s_turns_hi {j : Nat} (hj : 159 ≤ j) (S : Nat → Int32) : s_turns S j = S j := by
  rw [s_turns, zlet_def, s_turns_20_hi hj s_turns_20k (fun _ _ => rfl) 37 0 _ (by omega) (by omega), zU_ne _ _ (by omega)]
theorem s_goes_hi {j : Nat} (hj : 159 ≤ j) (S : Nat → Int32) {f t : Nat} (hf : f < 36) (ht : t < 36) : s_goes S f t j = S j := by
  by_cases a : S t = -1
  · rw [s_goes_A S hf ht a, zU_ne _ _ (by omega), s_lays_hi _ _ _ _ ht (by omega), s_lays_hi _ _ _ _ hf (by omega)]
  · rw [s_goes_B S hf ht a, zU_ne _ _ (by omega), s_lays_hi _ _ _ _ ht (by omega), s_lays_hi _ _ _ _ hf (by omega)]
    unfold s_won
    by_cases b : S (36 + t) = 0
    · rw [if_pos b, zU_ne _ _ (by omega), zU_ne _ _ (by omega), zU_ne _ _ (by omega), zU_ne _ _ (by omega)]
    · rw [if_neg b, zU_ne _ _ (by omega), zU_ne _ _ (by omega)]
theorem s_makes_hi {j : Nat} (hj : 159 ≤ j) (S : Nat → Int32) {f t : Nat} (hf : f < 36) (ht : t < 36) : s_makes S f t j = S j := by
  have e : s_carry S f t j = S j := by
    unfold s_carry
    rw [zU_ne _ _ (by omega), zU_ne _ _ (by omega), s_goes_hi hj S hf ht]
  rw [s_makes_eq]
  by_cases a : s_carry S f t 145 = 0
  · rw [if_pos a, s_turns_hi hj, e]
  · rw [if_neg a, e]
