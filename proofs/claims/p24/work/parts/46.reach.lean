/-! how far a piece gets: the model's half -/
def u_step (R : Nat → Int32) (s kd : Int32) (M : Nat → Int32) (t f : Nat) (v : Int32) : Int32 := if R t = -1 ∧ 0 ≤ M f ∧ 0 ≤ s_costBy R s kd f t ∧ v < M f - s_costBy R s kd f t then M f - s_costBy R s kd f t else v
def u_fold (R : Nat → Int32) (s kd : Int32) (M : Nat → Int32) (t : Nat) : Nat → Nat → Int32 → Int32
  | 0, _, v => v
  | n + 1, f, v => u_fold R s kd M t n (f + 1) (u_step R s kd M t f v)
def u_wide (R : Nat → Int32) (s kd : Int32) (M : Nat → Int32) : Nat → Int32 := fun t => if t < 36 then u_fold R s kd M t 36 0 (M t) else M t
theorem u_fold_no {R : Nat → Int32} (s kd : Int32) (M : Nat → Int32) {t : Nat} (h : ¬ R t = -1) : ∀ (n f : Nat) (v : Int32), u_fold R s kd M t n f v = v := by
  intro n
  induction n with
  | zero => intros; rfl
  | succ n ih =>
    intro f v
    rw [u_fold, ih, u_step, if_neg (fun q => h q.1)]
theorem ustep_eq (p : Prop) [Decidable p] (hp : p) (m c v : Int32) : (if (if (if 0 ≤ m then c else -1) < 0 then (0 : Int32) else if m - (if 0 ≤ m then c else -1) ≤ v then 0 else 1) = 0 then v else m - (if 0 ≤ m then c else -1)) = if p ∧ 0 ≤ m ∧ 0 ≤ c ∧ v < m - c then m - c else v := by
  by_cases a : 0 ≤ m
  · simp only [if_pos a]
    by_cases b : c < 0
    · rw [if_pos b, if_pos rfl, if_neg (fun q => Int32.not_le.mpr b q.2.2.1)]
    · rw [if_neg b]
      by_cases d : m - c ≤ v
      · rw [if_pos d, if_pos rfl, if_neg (fun q => Int32.not_lt.mpr d q.2.2.2)]
      · rw [if_neg d, if_neg (by decide), if_pos ⟨hp, a, Int32.not_lt.mp b, Int32.not_le.mp d⟩]
  · simp only [if_neg a]
    rw [if_pos (show (-1 : Int32) < 0 by decide), if_pos rfl, if_neg (fun q => a q.2.1)]
def u_iter (R : Nat → Int32) (s kd : Int32) : Nat → (Nat → Int32) → (Nat → Int32)
  | 0, M => M
  | n + 1, M => u_iter R s kd n (u_wide R s kd M)
/-- how many cells are reached -/
def u_cnt (M : Nat → Int32) : Nat → Nat → Int32 → Int32
  | 0, _, a => a
  | n + 1, f, a => u_cnt M n (f + 1) (a + if M f < 0 then 0 else 1)
def u_0 (S M : Nat → Int32) (c : Nat) : Nat → Int32 := fun b => if b < 36 then (if b = c then S (72 + c) else -1) else M b
