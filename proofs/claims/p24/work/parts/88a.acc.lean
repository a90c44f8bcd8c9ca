/-! the accounts: what went in, what went out, what is there -/
def sumC (S : Nat → Int32) : Nat → Nat → Int32
  | 0, _ => 0
  | n + 1, c => S (72 + c) + sumC S n (c + 1)
theorem sumC_ne (S : Nat → Int32) {j : Nat} (x : Int32) : ∀ (n k : Nat), (∀ c, k ≤ c → c < k + n → ¬ 72 + c = j) → sumC (zU S j x) n k = sumC S n k := by
  intro n
  induction n with
  | zero => intros; rfl
  | succ n ih =>
    intro k h
    rw [sumC, sumC, ih (k + 1) (fun c h1 h2 => h c (by omega) (by omega)), zU_ne _ _ (h k (by omega) (by omega))]
theorem rg1 (x y r : Int32) : x + r = y + r - y + x := by grind
theorem rg2 (a r c x : Int32) : a + (r - c + x) = a + r - c + x := by grind
theorem sumC_at (S : Nat → Int32) {c : Nat} (x : Int32) : ∀ (n k : Nat), k ≤ c → c < k + n → sumC (zU S (72 + c) x) n k = sumC S n k - S (72 + c) + x := by
  intro n
  induction n with
  | zero => intro k h1 h2; omega
  | succ n ih =>
    intro k h1 h2
    rw [sumC, sumC]
    by_cases e : c = k
    · subst e
      rw [sumC_ne S x n (c + 1) (fun q h3 h4 => by omega), zU_eq]
      exact rg1 _ _ _
    · rw [ih (k + 1) (by omega) (by omega), zU_ne _ _ (by omega)]
      exact rg2 _ _ _ _
def accF (S : Nat → Int32) : Int32 := S 152 + S 153 + S 154 + S 158 - (S 155 + S 156) - sumC S 36 0
def zEm (S : Nat → Int32) : Prop := ∀ c, c < 36 → S c = -1 → S (72 + c) = 0
def zAcc (S : Nat → Int32) : Prop := zEm S ∧ accF S = 0
theorem acc_lo (S : Nat → Int32) {j : Nat} (h : j < 72 ∨ (108 ≤ j ∧ j < 152) ∨ j = 157 ∨ 159 ≤ j) (x : Int32) : accF (zU S j x) = accF S := by
  unfold accF
  rw [zU_ne _ _ (by omega), zU_ne _ _ (by omega), zU_ne _ _ (by omega), zU_ne _ _ (by omega), zU_ne _ _ (by omega), zU_ne _ _ (by omega), sumC_ne _ _ 36 0 (fun c h1 h2 => by omega)]
theorem rg3 (a b c d e f s o x : Int32) : a + b + c + d - (e + f) - (s - o + x) = a + b + c + d - (e + f) - s + o - x := by grind
theorem acc_sp (S : Nat → Int32) {c : Nat} (hc : c < 36) (x : Int32) : accF (zU S (72 + c) x) = accF S + S (72 + c) - x := by
  unfold accF
  rw [zU_ne _ _ (by omega), zU_ne _ _ (by omega), zU_ne _ _ (by omega), zU_ne _ _ (by omega), zU_ne _ _ (by omega), zU_ne _ _ (by omega), sumC_at S x 36 0 (by omega) (by omega)]
  exact rg3 _ _ _ _ _ _ _ _ _
theorem rg4 (a b c d e f s x : Int32) : a + x + c + d - (e + f) - s = a + b + c + d - (e + f) - s - b + x := by grind
theorem acc_153 (S : Nat → Int32) (x : Int32) : accF (zU S 153 x) = accF S - S 153 + x := by
  unfold accF
  rw [zU_ne _ _ (by omega), zU_eq, zU_ne _ _ (by omega), zU_ne _ _ (by omega), zU_ne _ _ (by omega), zU_ne _ _ (by omega), sumC_ne _ _ 36 0 (fun c h1 h2 => by omega)]
  exact rg4 _ _ _ _ _ _ _ _
theorem rg5 (a b c d e f s x : Int32) : a + b + x + d - (e + f) - s = a + b + c + d - (e + f) - s - c + x := by grind
theorem acc_154 (S : Nat → Int32) (x : Int32) : accF (zU S 154 x) = accF S - S 154 + x := by
  unfold accF
  rw [zU_ne _ _ (by omega), zU_ne _ _ (by omega), zU_eq, zU_ne _ _ (by omega), zU_ne _ _ (by omega), zU_ne _ _ (by omega), sumC_ne _ _ 36 0 (fun c h1 h2 => by omega)]
  exact rg5 _ _ _ _ _ _ _ _
theorem rg6 (a b c d e f s x : Int32) : a + b + c + d - (x + f) - s = a + b + c + d - (e + f) - s + e - x := by grind
theorem acc_155 (S : Nat → Int32) (x : Int32) : accF (zU S 155 x) = accF S + S 155 - x := by
  unfold accF
  rw [zU_ne _ _ (by omega), zU_ne _ _ (by omega), zU_ne _ _ (by omega), zU_ne _ _ (by omega), zU_eq, zU_ne _ _ (by omega), sumC_ne _ _ 36 0 (fun c h1 h2 => by omega)]
  exact rg6 _ _ _ _ _ _ _ _
theorem rg7 (a b c d e f s x : Int32) : a + b + c + d - (e + x) - s = a + b + c + d - (e + f) - s + f - x := by grind
theorem acc_156 (S : Nat → Int32) (x : Int32) : accF (zU S 156 x) = accF S + S 156 - x := by
  unfold accF
  rw [zU_ne _ _ (by omega), zU_ne _ _ (by omega), zU_ne _ _ (by omega), zU_ne _ _ (by omega), zU_ne _ _ (by omega), zU_eq, sumC_ne _ _ 36 0 (fun c h1 h2 => by omega)]
  exact rg7 _ _ _ _ _ _ _ _
theorem rg8 (a b c d e f s x : Int32) : a + b + c + x - (e + f) - s = a + b + c + d - (e + f) - s - d + x := by grind
theorem acc_158 (S : Nat → Int32) (x : Int32) : accF (zU S 158 x) = accF S - S 158 + x := by
  unfold accF
  rw [zU_ne _ _ (by omega), zU_ne _ _ (by omega), zU_ne _ _ (by omega), zU_eq, zU_ne _ _ (by omega), zU_ne _ _ (by omega), sumC_ne _ _ 36 0 (fun c h1 h2 => by omega)]
  exact rg8 _ _ _ _ _ _ _ _
theorem acc_lays (S : Nat → Int32) {c : Nat} (hc : c < 36) (a b p : Int32) : accF (s_lays S c a b p) = accF S + S (72 + c) - p := by
  show accF (zU (zU (zU S c a) (36 + c) b) (72 + c) p) = _
  rw [acc_sp _ hc, acc_lo _ (by omega), acc_lo _ (by omega), zU_ne _ _ (by omega), zU_ne _ _ (by omega)]
theorem em_lays {S : Nat → Int32} (h : zEm S) {c : Nat} (hc : c < 36) {a : Int32} (b : Int32) {p : Int32} (ha : a = -1 → p = 0) : zEm (s_lays S c a b p) := by
  intro q hq
  rw [s_lays_at, s_lays_at, if_neg (by omega), if_neg (by omega)]
  by_cases e : q = c
  · rw [if_pos e, if_pos (by omega)]; exact ha
  · rw [if_neg e, if_neg (by omega), if_neg (by omega), if_neg (by omega)]; exact h q hq
theorem em_hi {S : Nat → Int32} (h : zEm S) {j : Nat} (hj : 108 ≤ j) (x : Int32) : zEm (zU S j x) := by
  intro q hq
  rw [zU_ne _ _ (by omega), zU_ne _ _ (by omega)]
  exact h q hq
theorem em_sp {S : Nat → Int32} (h : zEm S) {c : Nat} (hc : c < 36) (hn : ¬ S c = -1) (x : Int32) : zEm (zU S (72 + c) x) := by
  intro q hq
  rw [zU_ne _ _ (by omega)]
  intro e
  by_cases z : q = c
  · rw [z] at e; exact absurd e hn
  · rw [zU_ne _ _ (by omega)]; exact h q hq e
theorem acc_free {S : Nat → Int32} (h : zAcc S) {j : Nat} (hj : (108 ≤ j ∧ j < 152) ∨ j = 157 ∨ 159 ≤ j) (x : Int32) : zAcc (zU S j x) := ⟨em_hi h.1 (by omega) x, by rw [acc_lo _ (by omega)]; exact h.2⟩
theorem rg9 (s p d f : Int32) (h : f = 0) : f + s - p - d + (d + (p - s)) = 0 := by grind
theorem acc_put {S : Nat → Int32} (h : zAcc S) {c : Nat} (hc : c < 36) (a b p : Int32) : zAcc (s_put S c a b p) := by
  unfold s_put
  by_cases e : a = -1
  · rw [if_pos e]
    refine ⟨em_hi (em_lays h.1 hc _ (fun _ => rfl)) (by omega) _, ?_⟩
    rw [acc_158, acc_lays _ hc, s_lays_hi _ _ _ _ hc (by omega), s_lays_at, if_pos rfl]
    exact rg9 _ _ _ _ h.2
  · rw [if_neg e]
    refine ⟨em_hi (em_lays h.1 hc _ (fun q => absurd q e)) (by omega) _, ?_⟩
    rw [acc_158, acc_lays _ hc, s_lays_hi _ _ _ _ hc (by omega), s_lays_at, if_pos rfl]
    exact rg9 _ _ _ _ h.2
theorem rg10 (f s l d : Int32) (h : f = 0) : f + s - l - d + (d - (s - l)) = 0 := by grind
theorem acc_cut : ∀ (n k : Nat) (S : Nat → Int32), k + n ≤ 36 → 0 ≤ S 149 → (∃ m, m ≤ 12 ∧ S 149 = nI m) → zAcc S → zAcc (s_cut n k S) := by
  intro n
  induction n with
  | zero => intro k S _ _ _ h; exact h
  | succ n ih =>
    intro k S hk h0 hm h
    rw [s_cut]
    by_cases a : S (72 + k) - S 149 ≤ 0
    · rw [if_pos a]; exact ih _ _ (by omega) h0 hm h
    · rw [if_neg a]
      have hne : ¬ S k = -1 := by
        intro e
        refine a ?_
        obtain ⟨m, hm2, em⟩ := hm
        rw [h.1 k (by omega) e, em]
        exact (nI_diff 0 m (by omega) hm2).mpr (Nat.zero_le m)
      refine ih _ _ (by omega) (by rw [zU_ne _ _ (by omega), zU_ne _ _ (by omega)]; exact h0) (by rw [zU_ne _ _ (by omega), zU_ne _ _ (by omega)]; exact hm) ⟨em_hi (em_sp h.1 (by omega) hne _) (by omega) _, ?_⟩
      rw [acc_158, acc_sp _ (by omega), zU_ne _ _ (by omega)]
      exact rg10 _ _ _ _ h.2
theorem acc_set {S : Nat → Int32} (h : zAcc S) {k m : Nat} (hk : k ≤ 2) (hm : m ≤ 12) : zAcc (s_set S k (nI m)) := by
  rcases (by omega : k = 0 ∨ k = 1 ∨ k = 2) with rfl | rfl | rfl
  · rw [s_set_0]
    exact acc_cut 36 0 _ (by omega) (by rw [zU_eq]; exact nI_pos' (by omega)) ⟨m, hm, zU_eq _ _ _⟩ (acc_free h (by omega) _)
  · rw [s_set_1]; exact acc_free h (by omega) _
  · rw [s_set_2]; exact acc_free h (by omega) _
theorem rg11 (f a b x : Int32) (h : f = 0) : f + a - (a + x) - b + (b + x) = 0 := by grind
theorem acc_turns_20 (kt : Nat → (Nat → Int32) → (Nat → Int32)) (hkt : ∀ k S, zAcc S → zAcc (kt k S)) : ∀ (n k : Nat) (S : Nat → Int32), 36 < k + n → k ≤ 36 → ¬ S 144 = -1 → zAcc S → zAcc (s_turns_20 kt n k S) := by
  intro n
  induction n with
  | zero => intro k S h1 h2; omega
  | succ n ih =>
    intro k S h1 h2 h3 h
    rw [s_turns_20]
    by_cases h36 : 36 ≤ k
    · rw [if_pos h36]; exact hkt k S h
    · rw [if_neg h36]
      by_cases a : S (108 + k) = 1
      · rw [if_pos a]
        by_cases b : S k = S 144
        · rw [if_pos b, zlet_def, zlet_def, zlet_def]
          refine ih _ _ (by omega) (by omega) (by rw [zU_ne _ _ (by omega), zU_ne _ _ (by omega)]; exact h3) ⟨em_hi (em_sp h.1 (by omega) (by rw [b]; exact h3) _) (by omega) _, ?_⟩
          rw [acc_153, acc_sp _ (by omega), zU_ne _ _ (by omega)]
          exact rg11 _ _ _ _ h.2
        · rw [if_neg b]; exact ih _ _ (by omega) (by omega) h3 h
      · rw [if_neg a]; exact ih _ _ (by omega) (by omega) h3 h
theorem acc_turns {S : Nat → Int32} (h : zAcc S) (h144 : S 144 = 0 ∨ S 144 = 1) : zAcc (s_turns S) := by
  rw [s_turns, zlet_def]
  refine acc_turns_20 _ (fun _ _ q => q) 37 0 _ (by omega) (by omega) ?_ (acc_free h (by omega) _)
  rw [zU_eq]
  rcases h144 with e | e <;> rw [e] <;> decide
theorem acc_passes {S : Nat → Int32} (h : zAcc S) (h144 : S 144 = 0 ∨ S 144 = 1) : zAcc (s_passes S) := by
  rw [s_passes, zlet_def]
  have h1 : zAcc (zU S 147 (S 147 + 1)) := acc_free h (by omega) _
  by_cases a : zU S 147 (S 147 + 1) 148 = 1
  · rw [if_pos a, zlet_def, zlet_def, zlet_def, zlet_def]
    exact acc_free (acc_free h1 (by omega) _) (by omega) _
  · rw [if_neg a, zlet_def, zlet_def]
    exact acc_turns (acc_free h1 (by omega) _) (by rw [zU_ne _ _ (by omega), zU_ne _ _ (by omega)]; exact h144)
theorem rg12 (f a t c s : Int32) (h : f = 0) (ht : t = 0) : f + a - 0 + t - (a - c) + s - (s + c) = 0 := by grind
theorem rg13 (f a t c s k b g l hf : Int32) (h : f = 0) : f - g + (g + b) + l - (l + (t - hf + (a - c) + (hf + b) - k)) + a - 0 + t - k + s - (s + c) = 0 := by grind
theorem won_acc {S Z : Nat → Int32} (f t : Nat) : accF (s_won S f t Z) = accF Z := by
  unfold s_won
  by_cases a : S (36 + t) = 0
  · rw [if_pos a, acc_lo _ (by omega), acc_lo _ (by omega)]
  · rw [if_neg a]
theorem won_at {S Z : Nat → Int32} (f t : Nat) {j : Nat} (h : j ≠ 145 ∧ j ≠ 146) : s_won S f t Z j = Z j := by
  unfold s_won
  by_cases a : S (36 + t) = 0
  · rw [if_pos a, zU_ne _ _ h.2, zU_ne _ _ h.1]
  · rw [if_neg a]
theorem won_em {S Z : Nat → Int32} (f t : Nat) (h : zEm Z) : zEm (s_won S f t Z) := by
  intro q hq
  rw [won_at f t (by omega), won_at f t (by omega)]
  exact h q hq
theorem acc_goes {S : Nat → Int32} (h : zAcc S) {f t : Nat} (hf : f < 36) (ht : t < 36) (hne : ¬ f = t) (hs : ¬ S f = -1) : zAcc (s_goes S f t) := by
  by_cases a : S t = -1
  · rw [s_goes_A S hf ht a]
    refine ⟨em_hi (em_lays (em_lays h.1 hf _ (fun _ => rfl)) ht _ (fun q => absurd q hs)) (by omega) _, ?_⟩
    rw [acc_155, acc_lays _ ht, acc_lays _ hf, s_lays_hi (j := 155) _ _ _ _ ht (by omega), s_lays_hi (j := 155) _ _ _ _ hf (by omega), s_lays_at, if_neg (by omega), if_neg (by omega), if_neg (by omega)]
    exact rg12 _ _ _ _ _ h.2 (h.1 t ht a)
  · rw [s_goes_B S hf ht a]
    refine ⟨em_hi (em_lays (em_lays (won_em f t (em_hi (em_hi h.1 (by omega) _) (by omega) _)) hf _ (fun _ => rfl)) ht _ (fun q => absurd q hs)) (by omega) _, ?_⟩
    rw [acc_155, acc_lays _ ht, acc_lays _ hf, won_acc, acc_156, acc_154, s_lays_hi (j := 155) _ _ _ _ ht (by omega), s_lays_hi (j := 155) _ _ _ _ hf (by omega), s_lays_at, if_neg (by omega), if_neg (by omega), if_neg (by omega), won_at f t (by omega), won_at f t (by omega), won_at f t (by omega), zU_ne _ _ (show 72 + f ≠ 156 by omega), zU_ne _ _ (show 72 + f ≠ 154 by omega), zU_ne _ _ (show 72 + t ≠ 156 by omega), zU_ne _ _ (show 72 + t ≠ 154 by omega), zU_ne _ _ (show 156 ≠ 154 by omega), zU_ne _ _ (show 155 ≠ 156 by omega), zU_ne _ _ (show 155 ≠ 154 by omega)]
    unfold s_lost
    exact rg13 _ _ _ _ _ _ _ _ _ _ h.2
theorem goes_144 {S : Nat → Int32} {f t : Nat} (hf : f < 36) (ht : t < 36) : s_goes S f t 144 = S 144 := by
  by_cases a : S t = -1
  · rw [s_goes_A S hf ht a, zU_ne _ _ (by omega), s_lays_hi _ _ _ _ ht (by omega), s_lays_hi _ _ _ _ hf (by omega)]
  · rw [s_goes_B S hf ht a, zU_ne _ _ (by omega), s_lays_hi _ _ _ _ ht (by omega), s_lays_hi _ _ _ _ hf (by omega), won_at f t (by omega), zU_ne _ _ (by omega), zU_ne _ _ (by omega)]
theorem acc_makes {S : Nat → Int32} (h : zAcc S) {f t : Nat} (hf : f < 36) (ht : t < 36) (hne : ¬ f = t) (hs : ¬ S f = -1) (h144 : S 144 = 0 ∨ S 144 = 1) : zAcc (s_makes S f t) := by
  rw [s_makes_eq]
  have h1 : zAcc (s_carry S f t) := acc_free (acc_free (acc_goes h hf ht hne hs) (by omega) _) (by omega) _
  by_cases a : s_carry S f t 145 = 0
  · rw [if_pos a]
    refine acc_turns h1 ?_
    unfold s_carry
    rw [zU_ne _ _ (by omega), zU_ne _ _ (by omega), goes_144 hf ht]
    exact h144
  · rw [if_neg a]; exact h1
