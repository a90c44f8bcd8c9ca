/-! the class's game, in the words of its row -/
theorem zU_comm (S : Nat → Int32) {i j : Nat} (h : i ≠ j) (x y : Int32) : zU (zU S i x) j y = zU (zU S j y) i x := by
  funext b
  simp only [zU_at]
  by_cases h1 : b = j
  · rw [if_pos h1, if_neg (by omega), if_pos h1]
  · rw [if_neg h1]
    by_cases h2 : b = i
    · rw [if_pos h2, if_pos h2]
    · rw [if_neg h2, if_neg h2, if_neg h1]
theorem lays_zU (S : Nat → Int32) {c j : Nat} (hc : c < 36) (hj : 108 ≤ j) (a b p x : Int32) : s_lays (zU S j x) c a b p = zU (s_lays S c a b p) j x := by
  funext q
  rw [s_lays_at, zU_at, zU_at, s_lays_at]
  by_cases h : q = j
  · rw [if_neg (by omega), if_neg (by omega), if_neg (by omega), if_pos h, if_pos h]
  · rw [if_neg h, if_neg h]
theorem zU_ne (S : Nat → Int32) {i j : Nat} (x : Int32) (h : j ≠ i) : zU S i x j = S j := by rw [zU_at, if_neg h]
theorem zU_eq (S : Nat → Int32) (i : Nat) (x : Int32) : zU S i x i = x := by rw [zU_at, if_pos rfl]
theorem lesser_eq (a b : Int32) : (if b < a then b else a) = s_lesser a b := by
  unfold s_lesser
  by_cases h : b < a
  · rw [if_pos h, if_pos (Int32.le_of_lt h)]
  · rw [if_neg h]
    by_cases h2 : b ≤ a
    · rw [if_pos h2]
      exact Int32.le_antisymm (Int32.not_lt.mp h) h2
    · rw [if_neg h2]
theorem lesser_eq' (a b : Int32) : (if a < b then a else b) = s_lesser a b := by
  unfold s_lesser
  by_cases h : a < b
  · rw [if_pos h, if_neg (Int32.not_le.mpr h)]
  · rw [if_neg h, if_pos (Int32.not_lt.mp h)]
theorem k_beginTurn_7 (g : Nat) (side : Int32) (kt : Nat → xW → xW) (ks : Nat → (Nat → Int32) → (Nat → Int32)) (w0 : xW) (hk : ∀ k S, kt k (xv w0 g S) = xv w0 g (ks k S)) : ∀ (n k : Nat) (S : Nat → Int32), S 144 = side → 36 < k + n → k ≤ 36 → d_X1_beginTurn_7 g side kt n k (xv w0 g S) = xv w0 g (s_turns_20 ks n k S) := by
  intro n
  induction n with
  | zero => intro k S hs h h2; omega
  | succ n ih =>
    intro k S hs h h2
    rw [d_X1_beginTurn_7, s_turns_20]
    by_cases h36 : 36 ≤ k
    · rw [if_pos h36, if_pos h36, hk]
    · have hk36 : k < 36 := by omega
      rw [if_neg h36, if_neg h36, k_sideOn _ g hk36, k_isTower _ g hk36, k_springOn _ g hk36, xv_row, xg_xv', xg_xv']
      by_cases b : S k = side
      · rw [if_pos b]
        by_cases a : S (108 + k) = 1
        · rw [if_pos a, if_pos a, if_neg (by decide), if_pos (b.trans hs.symm), lesser_eq]
          rw [zlet_def, zlet_def, zlet_def, zlet_def, zlet_def, zlet_def, k_changeSpring _ g hk36, xv_row, xv_xv, xs_xv11, xg_xv']
          exact ih (k + 1) _ (by rw [zU_ne _ _ (by omega), zU_ne _ _ (by omega)]; exact hs) (by omega) (by omega)
        · rw [if_neg a, if_pos rfl, if_neg a]
          exact ih (k + 1) _ hs (by omega) (by omega)
      · rw [if_neg b]
        by_cases a : S (108 + k) = 1
        · rw [if_pos a, if_neg (fun q => b (q.trans hs))]
          exact ih (k + 1) _ hs (by omega) (by omega)
        · rw [if_neg a]
          exact ih (k + 1) _ hs (by omega) (by omega)
theorem k_beginTurn (w : xW) (g : Nat) (S : Nat → Int32) : d_X1_beginTurn (xv w g S) g (1 - S 144) = xv w g (s_turns S) := by
  rw [d_X1_beginTurn, s_turns, zlet_def, zlet_def, xs_xv11]
  exact k_beginTurn_7 g _ _ _ w (fun _ _ => rfl) 37 0 _ (zU_eq _ _ _) (by omega) (by omega)
def s_carry (S : Nat → Int32) (f t : Nat) : Nat → Int32 := zU (zU (s_goes S f t) 147 (s_goes S f t 147 + 1)) 148 0
theorem s_makes_eq (S : Nat → Int32) (f t : Nat) : s_makes S f t = if s_carry S f t 145 = 0 then s_turns (s_carry S f t) else s_carry S f t := by
  rw [s_makes, zlet_def, zlet_def, zlet_def, s_carry]
  generalize zU (zU (s_goes S f t) 147 (s_goes S f t 147 + 1)) 148 0 = Y
  by_cases h : Y 145 = 0
  · rw [if_pos h, if_pos h, zlet_def]
  · rw [if_neg h, if_neg h]
/-- what becomes of the kind -/
def s_kind (S : Nat → Int32) (f t : Nat) : Int32 := if S (36 + f) = 4 then (if (if nI (t / 6) = 5 - 5 * S f then (1 : Int32) else 0) = 0 then S (36 + f) else 1) else S (36 + f)
theorem s_goes_A (S : Nat → Int32) {f t : Nat} (hf : f < 36) (ht : t < 36) (h : S t = -1) : s_goes S f t = zU (s_lays (s_lays S f (-1) 0 0) t (S f) (s_kind S f t) (S (72 + f) - s_costOf S f t)) 155 (S 155 + s_costOf S f t) := by
  rw [s_goes]
  simp only [zlet_def]
  rw [zU_ne _ _ (by omega : t ≠ 155), if_pos h]
  dsimp only
  rw [lays_zU _ hf (by omega), lays_zU _ ht (by omega), ← s_kind]
def s_tk (S : Nat → Int32) (f t : Nat) : Int32 := s_lesser (S 149) (S (72 + f) - s_costOf S f t + (S (72 + t) / 2 + S 150))
def s_lost (S : Nat → Int32) (f t : Nat) : Int32 := S 156 + (S (72 + t) - S (72 + t) / 2 + (S (72 + f) - s_costOf S f t) + (S (72 + t) / 2 + S 150) - s_tk S f t)
def s_won (S : Nat → Int32) (f t : Nat) (Z : Nat → Int32) : Nat → Int32 := if S (36 + t) = 0 then zU (zU Z 145 1) 146 (S f) else Z
theorem s_goes_B (S : Nat → Int32) {f t : Nat} (hf : f < 36) (ht : t < 36) (h : ¬ S t = -1) : s_goes S f t = zU (s_lays (s_lays (s_won S f t (zU (zU S 154 (S 154 + S 150)) 156 (s_lost S f t))) f (-1) 0 0) t (S f) (s_kind S f t) (s_tk S f t)) 155 (S 155 + s_costOf S f t) := by
  rw [s_goes]
  simp only [zlet_def]
  rw [zU_ne _ _ (by omega : t ≠ 155), if_neg h]
  simp only [zU_ne S _ (show 72 + t ≠ 155 by omega), zU_ne S _ (show 150 ≠ 155 by omega), zU_ne S _ (show 149 ≠ 155 by omega), zU_ne S _ (show 154 ≠ 155 by omega)]
  rw [zU_ne _ _ (show 36 + t ≠ 156 by omega), zU_ne _ _ (show 36 + t ≠ 154 by omega), zU_ne _ _ (show 36 + t ≠ 155 by omega), zU_ne _ _ (show 156 ≠ 154 by omega), zU_ne _ _ (show 156 ≠ 155 by omega)]
  rw [← s_tk, ← s_lost, ← s_kind]
  have e : zU (zU (zU S 155 (S 155 + s_costOf S f t)) 154 (S 154 + S 150)) 156 (s_lost S f t) = zU (zU (zU S 154 (S 154 + S 150)) 156 (s_lost S f t)) 155 (S 155 + s_costOf S f t) := by
    rw [zU_comm S (show 155 ≠ 154 by omega), zU_comm _ (show 155 ≠ 156 by omega)]
  rw [e]
  unfold s_won
  by_cases h2 : S (36 + t) = 0
  · rw [if_pos h2, if_pos h2, zU_comm _ (show 155 ≠ 145 by omega), zU_comm _ (show 155 ≠ 146 by omega), lays_zU _ hf (by omega), lays_zU _ ht (by omega)]
  · rw [if_neg h2, if_neg h2, lays_zU _ hf (by omega), lays_zU _ ht (by omega)]
theorem k_kind (S : Nat → Int32) (f t : Nat) (h01 : S f = 0 ∨ S f = 1) : (if (if S (36 + f) = 4 then (if nI (t / 6) = (if S f = 0 then (5 : Int32) else 0) then (1 : Int32) else 0) else 0) = 0 then S (36 + f) else 1) = s_kind S f t := by
  unfold s_kind
  have e : (if S f = 0 then (5 : Int32) else 0) = 5 - 5 * S f := by
    rcases h01 with h | h <;> rw [h] <;> decide
  rw [e]
  by_cases h : S (36 + f) = 4
  · rw [if_pos h, if_pos h]
  · rw [if_neg h, if_neg h, if_pos rfl]
theorem k_sbt (w : xW) (g : Nat) (sp tk : Int32) : d_X1_springBehindTaking w g sp tk = (s_lesser (w.1 g 149) (sp + tk / 2 + w.1 g 150), xv w g (zU (zU (w.1 g) 154 (w.1 g 154 + w.1 g 150)) 156 (w.1 g 156 + (tk - tk / 2 + (sp + tk / 2 + w.1 g 150) - s_lesser (w.1 g 149) (sp + tk / 2 + w.1 g 150))))) := by
  rw [d_X1_springBehindTaking, zlet_def, zlet_def, zlet_def, lesser_eq', zlet_def, zlet_def]
  rw [← xv_self w g, xs_xv11, xs_xv11, xg_xv', xv_self, xg_xv', zU_ne _ _ (show 156 ≠ 154 by omega)]
  rfl
theorem k_row (P : Nat → Int32) {f t : Nat} (hf : f < 36) (ht : t < 36) (hne : f ≠ t) (m k p c : Int32) (g : Nat) (w : xW) (v155 v147 : Int32) (h155 : P 155 = v155) (h147 : P 147 = v147) : xs (xs (xs (d_X0_empty (d_X0_place (xv w g P) g t m k p) g f) g 155 (xg (d_X0_empty (d_X0_place (xv w g P) g t m k p) g f) g 155 + c)) g 147 (xg (xs (d_X0_empty (d_X0_place (xv w g P) g t m k p) g f) g 155 (xg (d_X0_empty (d_X0_place (xv w g P) g t m k p) g f) g 155 + c)) g 147 + 1)) g 148 0 = xv w g (zU (zU (zU (s_lays (s_lays P f (-1) 0 0) t m k p) 155 (v155 + c)) 147 (v147 + 1)) 148 0) := by
  rw [k_place_xv w g P ht, k_empty _ g hf, xv_row, xv_xv]
  simp only [xs_xv11, xg_xv']
  rw [s_lays_comm P ht hf (fun q => hne q.symm), zU_ne _ _ (show 147 ≠ 155 by omega), s_lays_hi _ _ _ _ ht (show 108 ≤ 155 by omega), s_lays_hi _ _ _ _ hf (show 108 ≤ 155 by omega), s_lays_hi _ _ _ _ ht (show 108 ≤ 147 by omega), s_lays_hi _ _ _ _ hf (show 108 ≤ 147 by omega), h155, h147]
theorem k_carryOut (w : xW) (g : Nat) {f t : Nat} (hf : f < 36) (ht : t < 36) (hs : zsides (w.1 g)) (hm : w.1 g f = w.1 g 144) (h01 : w.1 g f = 0 ∨ w.1 g f = 1) (hc : ¬ s_costOf (w.1 g) f t < 0) (hne : f ≠ t) : d_X1_carryOut w g f t = (s_costOf (w.1 g) f t, xv w g (s_carry (w.1 g) f t)) := by
  have hpr : d_X0_price w g f t = s_costOf (w.1 g) f t := by
    rw [k_price w g hf ht (hs f hf) (hs t ht), if_neg (by rcases h01 with h | h <;> rw [h] <;> decide)]
    unfold s_pos
    rw [if_neg hc]
  rw [d_X1_carryOut, hpr, k_kindOn w g hf, k_springOn w g hf, k_hasPiece w g ht, k_springOn w g ht, zlet_def, zlet_def, zlet_def]
  by_cases h : w.1 g t = -1
  · rw [if_pos h, if_pos rfl]
    rw [zlet_def]
    dsimp only
    simp only [zlet_def]
    rw [show xg w g 144 = w.1 g 144 from rfl, ← hm, k_kind (w.1 g) f t h01]
    have e := k_row (w.1 g) hf ht hne (w.1 g f) (s_kind (w.1 g) f t) (w.1 g (72 + f) - s_costOf (w.1 g) f t) (s_costOf (w.1 g) f t) g w _ _ rfl rfl
    rw [xv_self] at e
    rw [e, s_carry, s_goes_A (w.1 g) hf ht h, zU_ne _ _ (show 147 ≠ 155 by omega), s_lays_hi _ _ _ _ ht (by omega), s_lays_hi _ _ _ _ hf (by omega)]
  · rw [if_neg h, if_neg (by decide), k_sbt]
    have etk : s_lesser (w.1 g 149) (w.1 g (72 + f) - s_costOf (w.1 g) f t + w.1 g (72 + t) / 2 + w.1 g 150) = s_tk (w.1 g) f t := by
      unfold s_tk
      rw [Int32.add_assoc]
    have elo : w.1 g 156 + (w.1 g (72 + t) - w.1 g (72 + t) / 2 + (w.1 g (72 + f) - s_costOf (w.1 g) f t + w.1 g (72 + t) / 2 + w.1 g 150) - s_tk (w.1 g) f t) = s_lost (w.1 g) f t := by
      unfold s_lost
      rw [Int32.add_assoc (w.1 g (72 + f) - s_costOf (w.1 g) f t), ← Int32.add_assoc (w.1 g (72 + t) - w.1 g (72 + t) / 2)]
    rw [etk, elo]
    rw [zlet_def (s_tk (w.1 g) f t, xv w g (zU (zU (w.1 g) 154 (w.1 g 154 + w.1 g 150)) 156 (s_lost (w.1 g) f t)))]
    dsimp only
    rw [k_kindOn _ g ht, xv_row, zU_ne _ _ (show 36 + t ≠ 156 by omega), zU_ne _ _ (show 36 + t ≠ 154 by omega)]
    have key : (zlet (if w.1 g (36 + t) = 0 then zlet (xs (xv w g (zU (zU (w.1 g) 154 (w.1 g 154 + w.1 g 150)) 156 (s_lost (w.1 g) f t))) g 145 1) fun w21 => zlet (xs w21 g 146 (xg w21 g 144)) fun w22 => w22 else xv w g (zU (zU (w.1 g) 154 (w.1 g 154 + w.1 g 150)) 156 (s_lost (w.1 g) f t)) : xW) fun w19 => (s_tk (w.1 g) f t, w19)) = (s_tk (w.1 g) f t, xv w g (s_won (w.1 g) f t (zU (zU (w.1 g) 154 (w.1 g 154 + w.1 g 150)) 156 (s_lost (w.1 g) f t)))) := by
      rw [zlet_def]
      unfold s_won
      by_cases h2 : w.1 g (36 + t) = 0
      · rw [if_pos h2, if_pos h2, zlet_def, zlet_def, xs_xv11, xg_xv', xs_xv11, zU_ne _ _ (show 144 ≠ 145 by omega), zU_ne _ _ (show 144 ≠ 156 by omega), zU_ne _ _ (show 144 ≠ 154 by omega), hm]
      · rw [if_neg h2, if_neg h2]
    rw [key, zlet_def (s_tk (w.1 g) f t, _)]
    dsimp only
    have w144 : s_won (w.1 g) f t (zU (zU (w.1 g) 154 (w.1 g 154 + w.1 g 150)) 156 (s_lost (w.1 g) f t)) 144 = w.1 g 144 ∧ s_won (w.1 g) f t (zU (zU (w.1 g) 154 (w.1 g 154 + w.1 g 150)) 156 (s_lost (w.1 g) f t)) 155 = w.1 g 155 ∧ s_won (w.1 g) f t (zU (zU (w.1 g) 154 (w.1 g 154 + w.1 g 150)) 156 (s_lost (w.1 g) f t)) 147 = w.1 g 147 := by
      unfold s_won
      by_cases h2 : w.1 g (36 + t) = 0
      · rw [if_pos h2]
        refine ⟨?_, ?_, ?_⟩ <;> simp [zU_at]
      · rw [if_neg h2]
        refine ⟨?_, ?_, ?_⟩ <;> simp [zU_at]
    rw [xg_xv', w144.1, ← hm]
    simp only [zlet_def]
    rw [k_kind (w.1 g) f t h01]
    have e := k_row (s_won (w.1 g) f t (zU (zU (w.1 g) 154 (w.1 g 154 + w.1 g 150)) 156 (s_lost (w.1 g) f t))) hf ht hne (w.1 g f) (s_kind (w.1 g) f t) (s_tk (w.1 g) f t) (s_costOf (w.1 g) f t) g w _ _ w144.2.1 w144.2.2
    rw [e, s_carry, s_goes_B (w.1 g) hf ht h, zU_ne _ _ (show 147 ≠ 155 by omega), s_lays_hi _ _ _ _ ht (by omega), s_lays_hi _ _ _ _ hf (by omega), w144.2.2]
