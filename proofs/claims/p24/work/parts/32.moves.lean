/-! a side's moves as a list -/
theorem s_cost_nz (S : Nat → Int32) (side kind : Int32) {f t : Nat} (hf : f < 36) (ht : t < 36) : ¬ s_costBy S side kind f t = 0 := by
  unfold s_costBy zlet
  dsimp only
  have q1 : s_size (nI (t % 6) - nI (f % 6)) = nI (zdx f t) := (zsz_dx f hf t ht).1
  have q2 : s_size (nI (t / 6) - nI (f / 6)) = nI (zdy f t) := (zsz_dx f hf t ht).2
  rw [q1, q2]
  have a6 := @zdx_lt f t
  have b6 := zdy_lt hf ht
  have m1 : ¬ (-1 : Int32) = 0 := by decide
  have p1 : ¬ (1 : Int32) = 0 := by decide
  have p2 : ¬ (2 : Int32) = 0 := by decide
  by_cases h0 : nI (zdx f t) + nI (zdy f t) = 0
  · rw [if_pos h0]; exact m1
  rw [if_neg h0]
  by_cases hT : S t = side
  · rw [if_pos hT]; exact m1
  rw [if_neg hT]
  by_cases k0 : kind = 0
  · rw [if_pos k0]
    split
    · exact m1
    · split
      · exact m1
      · exact p1
  rw [if_neg k0]
  by_cases k1 : kind = 1
  · rw [if_pos k1]
    split
    · split
      · exact m1
      · exact h0
    · split
      · split
        · exact m1
        · exact h0
      · exact m1
  rw [if_neg k1]
  by_cases k2 : kind = 2
  · rw [if_pos k2]
    by_cases c : nI (zdx f t) = nI (zdy f t)
    · rw [if_pos c]
      split
      · exact m1
      · intro q
        rw [← c, q] at h0
        exact h0 rfl
    · rw [if_neg c]; exact m1
  rw [if_neg k2]
  by_cases k3 : kind = 3
  · rw [if_pos k3]
    split
    · exact p2
    · exact m1
  rw [if_neg k3]
  have key : ∀ A B : Int32, ¬ (if A = 0 then (-1 : Int32) else if B = 0 then -1 else 1) = 0 := by
    intro A B
    by_cases a : A = 0
    · rw [if_pos a]; exact m1
    · rw [if_neg a]
      by_cases b : B = 0
      · rw [if_pos b]; exact m1
      · rw [if_neg b]; exact p1
  exact key _ _
theorem k_canMove (w : xW) (g : Nat) {f t : Nat} (hf : f < 36) (ht : t < 36) (h1 : zside (w.1 g f)) (h2 : zside (w.1 g t)) (h3 : ¬ w.1 g f = -1) : d_X0_canMove w g f t = s_canGo (w.1 g) f t := by
  unfold d_X0_canMove s_canGo zlet
  dsimp only
  rw [k_price w g hf ht h1 h2, if_neg h3, k_springOn w g hf]
  have hz : ¬ s_costOf (w.1 g) f t = 0 := s_cost_nz _ _ _ hf ht
  generalize s_costOf (w.1 g) f t = x at *
  unfold s_pos
  by_cases h : x < 0
  · rw [if_pos h, if_pos h, if_pos (by decide)]
  · rw [if_neg h, if_neg h, if_neg (fun q => ?_)]
    exact hz (Int32.le_antisymm q (Int32.not_lt.mp h))
def s_mvF (S : Nat → Int32) (side : Int32) : Nat → Nat → List Nat
  | 0, _ => []
  | n + 1, k => if S (k / 36) = side ∧ ¬ s_canGo S (k / 36) (k % 36) = 0 then k :: s_mvF S side n (k + 1) else s_mvF S side n (k + 1)
def s_mvs (S : Nat → Int32) (side : Int32) : List Nat := s_mvF S side 1296 0
theorem s_mvF_app (S : Nat → Int32) (side : Int32) : ∀ (m n k : Nat), s_mvF S side (m + n) k = s_mvF S side m k ++ s_mvF S side n (k + m) := by
  intro m
  induction m with
  | zero => intro n k; rw [Nat.zero_add]; rfl
  | succ m ih =>
    intro n k
    rw [show m + 1 + n = (m + n) + 1 by omega, s_mvF, s_mvF, ih n (k + 1), show k + 1 + m = k + (m + 1) by omega]
    by_cases h : S (k / 36) = side ∧ ¬ s_canGo S (k / 36) (k % 36) = 0
    · rw [if_pos h, if_pos h]; rfl
    · rw [if_neg h, if_neg h]
theorem s_mvF_le (S : Nat → Int32) (side : Int32) : ∀ (n k : Nat), (s_mvF S side n k).length ≤ n := by
  intro n
  induction n with
  | zero => intro k; exact Nat.le_refl 0
  | succ n ih =>
    intro k
    rw [s_mvF]
    split
    · exact Nat.succ_le_succ (ih (k + 1))
    · exact Nat.le_succ_of_le (ih (k + 1))
theorem s_mvF_mem (S : Nat → Int32) (side : Int32) : ∀ (n k q : Nat), q ∈ s_mvF S side n k → k ≤ q ∧ q < k + n ∧ S (q / 36) = side ∧ ¬ s_canGo S (q / 36) (q % 36) = 0 := by
  intro n
  induction n with
  | zero => intro k q h; cases h
  | succ n ih =>
    intro k q h
    rw [s_mvF] at h
    by_cases c : S (k / 36) = side ∧ ¬ s_canGo S (k / 36) (k % 36) = 0
    · rw [if_pos c] at h
      rcases List.mem_cons.mp h with h | h
      · subst h
        exact ⟨Nat.le_refl _, by omega, c.1, c.2⟩
      · obtain ⟨a, b, d, e⟩ := ih (k + 1) q h
        exact ⟨by omega, by omega, d, e⟩
    · rw [if_neg c] at h
      obtain ⟨a, b, d, e⟩ := ih (k + 1) q h
      exact ⟨by omega, by omega, d, e⟩
theorem s_mvs_mem {S : Nat → Int32} {side : Int32} {q : Nat} (h : q ∈ s_mvs S side) : q < 1296 ∧ S (q / 36) = side ∧ ¬ s_canGo S (q / 36) (q % 36) = 0 := by
  obtain ⟨-, b, c, d⟩ := s_mvF_mem S side 1296 0 q h
  exact ⟨by omega, c, d⟩
def s_nth (L : List Nat) (i : Nat) (d : Int32) : Int32 := match L[i]? with
  | some q => nI q
  | none => d
theorem s_moveAt_go (S : Nat → Int32) (side : Int32) : ∀ (n j k i : Nat), j + k = 1296 → j < n → i < 2147483648 → s_moveAt_5 S side s_moveAt_5k n (nI i) k = s_nth (s_mvF S side j k) i (-1) := by
  intro n
  induction n with
  | zero => intro j k i h1 h2; omega
  | succ n ih =>
    intro j k i h1 h2 hi
    rw [s_moveAt_5]
    by_cases hk : 1296 ≤ k
    · have : j = 0 := by omega
      subst this
      rw [if_pos hk]
      rfl
    · rw [if_neg hk]
      obtain ⟨j', e⟩ : ∃ j', j = j' + 1 := ⟨j - 1, by omega⟩
      subst e
      rw [s_mvF]
      by_cases a : S (k / 36) = side
      · rw [if_pos a]
        by_cases b : s_canGo S (k / 36) (k % 36) = 0
        · rw [if_pos b, if_neg (fun q => q.2 b)]
          exact ih j' (k + 1) i (by omega) (by omega) hi
        · rw [if_neg b, if_pos (show S (k / 36) = side ∧ ¬ s_canGo S (k / 36) (k % 36) = 0 from ⟨a, b⟩)]
          cases i with
          | zero => rw [if_pos nI_0]; rfl
          | succ i =>
            rw [if_neg (nI_ne0 (by omega) hi), pk_m1]
            exact ih j' (k + 1) i (by omega) (by omega) (by omega)
      · rw [if_neg a, if_neg (fun q => a q.1)]
        exact ih j' (k + 1) i (by omega) (by omega) hi
theorem s_moveAt_nth (S : Nat → Int32) (side : Int32) {i : Nat} (hi : i < 2147483648) : s_moveAt S side (nI i) = s_nth (s_mvs S side) i (-1) := s_moveAt_go S side 1297 1296 0 i rfl (by omega) hi
/-! how many: by rows of the board -/
theorem s_row (S : Nat → Int32) (side : Int32) (f : Nat) (h : ¬ S f = side) : ∀ (j t : Nat), t + j = 36 → s_mvF S side j (36 * f + t) = [] := by
  intro j
  induction j with
  | zero => intros; rfl
  | succ j ih =>
    intro t e
    rw [s_mvF, if_neg (fun q => h (by rw [← q.1]; congr 1; omega))]
    exact ih (t + 1) (by omega)
theorem s_movesFrom_go (S : Nat → Int32) (f : Nat) (kt : Int32 → Nat → Int32) : ∀ (n j t a : Nat), t + j = 36 → j < n → s_movesFrom_4 S f kt n (nI a) t = kt (nI (a + (s_mvF S (S f) j (36 * f + t)).length)) 36 := by
  intro n
  induction n with
  | zero => intro j t a h1 h2; omega
  | succ n ih =>
    intro j t a h1 h2
    rw [s_movesFrom_4]
    by_cases ht : 36 ≤ t
    · have : j = 0 := by omega
      subst this
      rw [if_pos ht, show t = 36 by omega]
      rfl
    · rw [if_neg ht]
      obtain ⟨j', e⟩ : ∃ j', j = j' + 1 := ⟨j - 1, by omega⟩
      subst e
      rw [s_mvF, show (36 * f + t) / 36 = f by omega, show (36 * f + t) % 36 = t by omega]
      unfold zlet
      dsimp only
      by_cases b : s_canGo S f t = 0
      · rw [if_pos b, if_neg (fun q => q.2 b), Int32.add_zero]
        exact ih j' (t + 1) a (by omega) (by omega)
      · rw [if_neg b, if_pos ⟨rfl, b⟩, nI_1, ih j' (t + 1) (a + 1) (by omega) (by omega), List.length_cons]
        congr 2
        rw [show 36 * f + (t + 1) = 36 * f + t + 1 by omega]
        omega
theorem s_movesFrom_len (S : Nat → Int32) (f : Nat) : s_movesFrom S f = nI (s_mvF S (S f) 36 (36 * f)).length := by
  unfold s_movesFrom
  rw [show (0 : Int32) = nI 0 from rfl, s_movesFrom_go S f _ 37 36 0 0 rfl (by omega), Nat.zero_add]
  rfl
theorem s_movesOf_go (S : Nat → Int32) (side : Int32) (kt : Int32 → Nat → Int32) : ∀ (n j f a : Nat), f + j = 36 → j < n → s_movesOf_4 S side kt n (nI a) f = kt (nI (a + (s_mvF S side (36 * j) (36 * f)).length)) 36 := by
  intro n
  induction n with
  | zero => intro j f a h1 h2; omega
  | succ n ih =>
    intro j f a h1 h2
    rw [s_movesOf_4]
    by_cases hf : 36 ≤ f
    · have : j = 0 := by omega
      subst this
      rw [if_pos hf, show f = 36 by omega]
      rfl
    · rw [if_neg hf]
      obtain ⟨j', e⟩ : ∃ j', j = j' + 1 := ⟨j - 1, by omega⟩
      subst e
      rw [show 36 * (j' + 1) = 36 + 36 * j' by omega, s_mvF_app, List.length_append]
      unfold zlet
      dsimp only
      by_cases b : S f = side
      · rw [if_pos b, s_movesFrom_len, nI_add, ih j' (f + 1) _ (by omega) (by omega), b, show 36 * (f + 1) = 36 * f + 36 by omega, Nat.add_assoc]
      · have := s_row S side f b 36 0 rfl
        rw [Nat.add_zero] at this
        rw [if_neg b, Int32.add_zero, ih j' (f + 1) _ (by omega) (by omega), this, show 36 * (f + 1) = 36 * f + 36 by omega, List.length_nil, Nat.zero_add]
theorem s_movesOf_len (S : Nat → Int32) (side : Int32) : s_movesOf S side = nI (s_mvs S side).length := by
  unfold s_movesOf
  rw [show (0 : Int32) = nI 0 from rfl, s_movesOf_go S side _ 37 36 0 0 rfl (by omega), Nat.zero_add]
  rfl
theorem s_mvs_len (S : Nat → Int32) (side : Int32) : (s_mvs S side).length ≤ 1296 := s_mvF_le S side 1296 0
/-! the class's counts -/
def zsides (S : Nat → Int32) : Prop := ∀ c, c < 36 → zside (S c)
theorem k_movesFrom_4 (w : xW) (g : Nat) {f : Nat} (hf : f < 36) (hs : zsides (w.1 g)) (h3 : ¬ w.1 g f = -1) (kt : Int32 → Nat → Int32) : ∀ (n : Nat) (a : Int32) (c : Nat), d_X0_movesFrom_4 w g f kt n a c = s_movesFrom_4 (w.1 g) f kt n a c := by
  intro n
  induction n with
  | zero => intros; rfl
  | succ n ih =>
    intro a c
    rw [d_X0_movesFrom_4, s_movesFrom_4]
    by_cases h : 36 ≤ c
    · rw [if_pos h, if_pos h]
    · rw [if_neg h, if_neg h, k_canMove w g hf (by omega) (hs f hf) (hs c (by omega)) h3]
      unfold zlet
      dsimp only
      by_cases b : s_canGo (w.1 g) f c = 0
      · rw [if_pos b, if_pos b, Int32.add_zero, ih]
      · rw [if_neg b, if_neg b, ih]
theorem k_movesFrom (w : xW) (g : Nat) {f : Nat} (hf : f < 36) (hs : zsides (w.1 g)) (h3 : ¬ w.1 g f = -1) : d_X0_movesFrom w g f = s_movesFrom (w.1 g) f := k_movesFrom_4 w g hf hs h3 s_movesFrom_4k 37 0 0
theorem k_movesOf_13 (w : xW) (g : Nat) (side : Int32) {f : Nat} (hf : f < 36) (hs : zsides (w.1 g)) (hd : ¬ side = -1) (kt : Int32 → Nat → Int32) (hk : ∀ a b c, kt a b = kt a c) : ∀ (n j t a : Nat), t + j = 36 → j < n → d_X0_movesOf_13 w g side f kt n (nI a) t = kt (nI (a + (s_mvF (w.1 g) side j (36 * f + t)).length)) 36 := by
  intro n
  induction n with
  | zero => intro j t a h1 h2; omega
  | succ n ih =>
    intro j t a h1 h2
    rw [d_X0_movesOf_13]
    by_cases b : w.1 g f = side
    · rw [if_pos (show xg w g f = side from b)]
      by_cases ht : 36 ≤ t
      · have : j = 0 := by omega
        subst this
        rw [if_pos ht, show t = 36 by omega]
        rfl
      · rw [if_neg ht]
        obtain ⟨j', e⟩ : ∃ j', j = j' + 1 := ⟨j - 1, by omega⟩
        subst e
        rw [s_mvF, show (36 * f + t) / 36 = f by omega, show (36 * f + t) % 36 = t by omega, k_canMove w g hf (by omega) (hs f hf) (hs t (by omega)) (by rw [b]; exact hd)]
        by_cases c : s_canGo (w.1 g) f t = 0
        · rw [if_pos c, if_neg (fun q => q.2 c)]
          exact ih j' (t + 1) a (by omega) (by omega)
        · rw [if_neg c, if_pos ⟨b, c⟩, nI_1, ih j' (t + 1) (a + 1) (by omega) (by omega), List.length_cons]
          rw [show 36 * f + (t + 1) = 36 * f + t + 1 by omega, show a + 1 + (s_mvF (w.1 g) side j' (36 * f + t + 1)).length = a + ((s_mvF (w.1 g) side j' (36 * f + t + 1)).length + 1) by omega]
    · rw [if_neg (show ¬ xg w g f = side from b), s_row (w.1 g) side f b j t h1]
      exact hk _ _ _
theorem k_movesOf_4 (w : xW) (g : Nat) (side : Int32) (hs : zsides (w.1 g)) (hd : ¬ side = -1) (kt : Int32 → Nat → Int32) : ∀ (n j f a : Nat), f + j = 36 → j < n → d_X0_movesOf_4 w g side kt n (nI a) f = kt (nI (a + (s_mvF (w.1 g) side (36 * j) (36 * f)).length)) 36 := by
  intro n
  induction n with
  | zero => intro j f a h1 h2; omega
  | succ n ih =>
    intro j f a h1 h2
    rw [d_X0_movesOf_4]
    by_cases hf : 36 ≤ f
    · have : j = 0 := by omega
      subst this
      rw [if_pos hf, show f = 36 by omega]
      rfl
    · rw [if_neg hf]
      obtain ⟨j', e⟩ : ∃ j', j = j' + 1 := ⟨j - 1, by omega⟩
      subst e
      have k1 := k_movesOf_13 w g side (f := f) (by omega) hs hd (fun e3_2 e3_4 => d_X0_movesOf_4 w g side kt n e3_2 (f + 1)) (fun _ _ _ => rfl) 37 36 0 a rfl (by omega)
      simp only [Nat.add_zero] at k1
      rw [k1, ih j' (f + 1) _ (by omega) (by omega), show 36 * (j' + 1) = 36 + 36 * j' by omega, s_mvF_app, List.length_append, show 36 * (f + 1) = 36 * f + 36 by omega, Nat.add_assoc]
theorem k_movesOf (w : xW) (g : Nat) (side : Int32) (hs : zsides (w.1 g)) (hd : ¬ side = -1) : d_X0_movesOf w g side = s_movesOf (w.1 g) side := by
  rw [s_movesOf_len]
  unfold d_X0_movesOf
  rw [show (0 : Int32) = nI 0 from rfl, k_movesOf_4 w g side hs hd _ 37 36 0 0 rfl (by omega), Nat.zero_add]
  rfl
/-! the class's list -/
theorem s_nth_app (A B : List Nat) (i : Nat) (d : Int32) : s_nth (A ++ B) i d = if i < A.length then s_nth A i d else s_nth B (i - A.length) d := by
  unfold s_nth
  by_cases h : i < A.length
  · rw [if_pos h, List.getElem?_append_left h]
  · rw [if_neg h, List.getElem?_append_right (by omega)]
theorem k_listed_37 (w : xW) (side : Int32) {f : Nat} (hf : f < 36) (hs : zsides (w.1 0)) (hd : ¬ side = -1) (kt : Int32 → Nat → Int32) (hk : ∀ a b c, kt a b = kt a c) (i : Nat) (hi : i < 2147483648) : ∀ (n j t b : Nat), t + j = 36 → j < n → b ≤ i → d_X2_listed_37 w side (nI i) f kt n (nI b) t = if i - b < (s_mvF (w.1 0) side j (36 * f + t)).length then s_nth (s_mvF (w.1 0) side j (36 * f + t)) (i - b) 0 else kt (nI (b + (s_mvF (w.1 0) side j (36 * f + t)).length)) 36 := by
  intro n
  induction n with
  | zero => intro j t a h1 h2; omega
  | succ n ih =>
    intro j t b h1 h2 hb
    rw [d_X2_listed_37, k_sideOn w 0 hf]
    by_cases c : w.1 0 f = side
    · rw [if_pos c]
      by_cases ht : 36 ≤ t
      · have : j = 0 := by omega
        subst this
        rw [if_pos ht, show t = 36 by omega]
        rfl
      · rw [if_neg ht]
        obtain ⟨j', e⟩ : ∃ j', j = j' + 1 := ⟨j - 1, by omega⟩
        subst e
        have hlen := s_mvF_le (w.1 0) side j' (36 * f + t + 1)
        rw [s_mvF, show (36 * f + t) / 36 = f by omega, show (36 * f + t) % 36 = t by omega, k_canMove w 0 hf (by omega) (hs f hf) (hs t (by omega)) (by rw [c]; exact hd)]
        by_cases m : s_canGo (w.1 0) f t = 0
        · rw [if_pos m, if_neg (show ¬ (w.1 0 f = side ∧ ¬ s_canGo (w.1 0) f t = 0) from fun q => q.2 m), ih j' (t + 1) b (by omega) (by omega) hb]
          rw [show 36 * f + (t + 1) = 36 * f + t + 1 by omega]
        · rw [if_neg m, if_pos (show w.1 0 f = side ∧ ¬ s_canGo (w.1 0) f t = 0 from ⟨c, m⟩), List.length_cons]
          by_cases e : b = i
          · subst e
            rw [if_pos rfl, if_pos (by omega), Nat.sub_self]
            rfl
          · rw [if_neg (fun q => e ((nI_eq (by omega) hi).mp q)), nI_1, ih j' (t + 1) (b + 1) (by omega) (by omega) (by omega), show 36 * f + (t + 1) = 36 * f + t + 1 by omega]
            by_cases lt : i - (b + 1) < (s_mvF (w.1 0) side j' (36 * f + t + 1)).length
            · rw [if_pos lt, if_pos (by omega)]
              unfold s_nth
              rw [show i - b = (i - (b + 1)) + 1 by omega, List.getElem?_cons_succ]
            · rw [if_neg lt, if_neg (by omega), show b + 1 + (s_mvF (w.1 0) side j' (36 * f + t + 1)).length = b + ((s_mvF (w.1 0) side j' (36 * f + t + 1)).length + 1) by omega]
    · rw [if_neg c, s_row (w.1 0) side f c j t h1, if_neg (by simp)]
      exact hk _ _ _
theorem k_listed_27 (w : xW) (side : Int32) (hs : zsides (w.1 0)) (hd : ¬ side = -1) (i : Nat) (hi : i < 2147483648) : ∀ (n j f b : Nat), f + j = 36 → j < n → b ≤ i → d_X2_listed_27 w side (nI i) d_X2_listed_27k n (nI b) f = s_nth (s_mvF (w.1 0) side (36 * j) (36 * f)) (i - b) (-4) := by
  intro n
  induction n with
  | zero => intro j f b h1 h2; omega
  | succ n ih =>
    intro j f b h1 h2 hb
    rw [d_X2_listed_27]
    by_cases hf : 36 ≤ f
    · have : j = 0 := by omega
      subst this
      rw [if_pos hf]
      rfl
    · rw [if_neg hf]
      obtain ⟨j', e⟩ : ∃ j', j = j' + 1 := ⟨j - 1, by omega⟩
      subst e
      have k1 := k_listed_37 w side (f := f) (by omega) hs hd (fun e5_4 e5_6 => d_X2_listed_27 w side (nI i) d_X2_listed_27k n e5_4 (f + 1)) (fun _ _ _ => rfl) i hi 37 36 0 b rfl (by omega) hb
      simp only [Nat.add_zero] at k1
      rw [k1, show 36 * (j' + 1) = 36 + 36 * j' by omega, s_mvF_app, s_nth_app]
      by_cases lt : i - b < (s_mvF (w.1 0) side 36 (36 * f)).length
      · rw [if_pos lt, if_pos lt]
        unfold s_nth
        rw [List.getElem?_eq_getElem lt]
      · rw [if_neg lt, if_neg lt]
        rw [ih j' (f + 1) _ (by omega) (by omega) (by omega), show 36 * (f + 1) = 36 * f + 36 by omega, Nat.sub_add_eq]
theorem k_listed (w : xW) (side : Int32) (hs : zsides (w.1 0)) (hd : ¬ side = -1) {i : Nat} (hi : i < 2147483648) : d_X2_listed_27 w side (nI i) d_X2_listed_27k 37 0 0 = s_nth (s_mvs (w.1 0) side) i (-4) := k_listed_27 w side hs hd i hi 37 36 0 0 rfl (by omega) (Nat.zero_le _)
