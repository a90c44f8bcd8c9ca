/-! the form of a move at a place of the text, and what the model reads there -/
def t_cell (T : Nat → Int32) (n p : Nat) : Int32 := if p + 1 < n ∧ (97 ≤ T p ∧ T p ≤ 102) ∧ (49 ≤ T (p + 1) ∧ T (p + 1) ≤ 54) then 6 * (T (p + 1) - 49) + T p - 97 else -1
def t_form (T : Nat → Int32) (n p : Nat) : Nat := if p < n ∧ T p = 45 then (if p + 1 < n ∧ T (p + 1) = 59 then 2 else 0) else if t_cell T n p = -1 then 0 else if t_cell T n (p + 2) = -1 then 0 else if p + 4 < n ∧ T (p + 4) = 59 then 5 else 0
theorem t_six {x l m : Int32} {a : Nat} (hl : l = nI a) (hm : m = nI (a + 5)) (ha : a < 1000) (h : l ≤ x ∧ x ≤ m) : ∃ c, c < 6 ∧ x = nI (a + c) := by
  subst hl; subst hm
  obtain ⟨h1, h2⟩ := h
  rcases pk_ix x (n := a + 6) (by omega) with q | q | ⟨j, hj, rfl⟩
  · exact absurd (Int32.le_trans (nI_pos' (by omega)) h1) (Int32.not_le.mpr q)
  · exact absurd (Int32.le_trans q h2) (nI_ge (by omega) (by omega))
  · have := (nI_leI (by omega) (by omega)).mp h1
    exact ⟨j - a, by omega, by rw [show a + (j - a) = j by omega]⟩
theorem t_cell_some {T : Nat → Int32} {n p : Nat} (h : p + 1 < n ∧ (97 ≤ T p ∧ T p ≤ 102) ∧ (49 ≤ T (p + 1) ∧ T (p + 1) ≤ 54)) : ∃ a b, a < 6 ∧ b < 6 ∧ T p = nI (97 + a) ∧ T (p + 1) = nI (49 + b) ∧ t_cell T n p = nI (6 * b + a) := by
  obtain ⟨a, ha, ea⟩ := t_six (a := 97) rfl rfl (by omega) h.2.1
  obtain ⟨b, hb, eb⟩ := t_six (a := 49) rfl rfl (by omega) h.2.2
  refine ⟨a, b, ha, hb, ea, eb, ?_⟩
  unfold t_cell
  rw [if_pos h, ea, eb, show (49 : Int32) = nI 49 from rfl, nI_sub (by omega), show (6 : Int32) = nI 6 from rfl, pk_mul, nI_add, show (97 : Int32) = nI 97 from rfl, nI_sub (by omega)]
  congr 1
  omega
theorem t_cell_no {T : Nat → Int32} {n p : Nat} (h : ¬ (p + 1 < n ∧ (97 ≤ T p ∧ T p ≤ 102) ∧ (49 ≤ T (p + 1) ∧ T (p + 1) ≤ 54))) : t_cell T n p = -1 := by
  unfold t_cell
  rw [if_neg h]
theorem nI_ne_m1 {k : Nat} (h : k < 2147483648) : ¬ nI k = -1 := fun q => nI_pos h (by rw [q]; decide)
/-- a cell is told by two signs of the text, or it is not told -/
theorem t_cell_is (T : Nat → Int32) (n p : Nat) : (t_cell T n p = -1) ∨ (∃ a b, a < 6 ∧ b < 6 ∧ T p = nI (97 + a) ∧ T (p + 1) = nI (49 + b) ∧ t_cell T n p = nI (6 * b + a) ∧ p + 1 < n ∧ ¬ t_cell T n p = -1) := by
  by_cases h : p + 1 < n ∧ (97 ≤ T p ∧ T p ≤ 102) ∧ (49 ≤ T (p + 1) ∧ T (p + 1) ≤ 54)
  · obtain ⟨a, b, ha, hb, ea, eb, e⟩ := t_cell_some h
    exact Or.inr ⟨a, b, ha, hb, ea, eb, e, h.1, by rw [e]; exact nI_ne_m1 (by omega)⟩
  · exact Or.inl (t_cell_no h)
theorem t_cell_lt {T : Nat → Int32} {n p : Nat} (h : ¬ t_cell T n p = -1) : ∃ c, c < 36 ∧ t_cell T n p = nI c := by
  rcases t_cell_is T n p with q | ⟨a, b, ha, hb, -, -, e, -, -⟩
  · exact absurd q h
  · exact ⟨_, by omega, e⟩
theorem zU_id (S : Nat → Int32) (j : Nat) : zU S j (S j) = S := by
  funext b
  rw [zU_at]
  by_cases h : b = j
  · rw [if_pos h, h]
  · rw [if_neg h]
theorem t_form_is (T : Nat → Int32) (n p : Nat) : t_form T n p = 0 ∨ (t_form T n p = 2 ∧ p + 1 < n ∧ T p = 45 ∧ T (p + 1) = 59) ∨ (t_form T n p = 5 ∧ p + 4 < n ∧ ¬ t_cell T n p = -1 ∧ ¬ t_cell T n (p + 2) = -1 ∧ T (p + 4) = 59) := by
  unfold t_form
  by_cases A : p < n ∧ T p = 45
  · rw [if_pos A]
    by_cases B : p + 1 < n ∧ T (p + 1) = 59
    · rw [if_pos B]; exact Or.inr (Or.inl ⟨rfl, B.1, A.2, B.2⟩)
    · rw [if_neg B]; exact Or.inl rfl
  · rw [if_neg A]
    by_cases B : t_cell T n p = -1
    · rw [if_pos B]; exact Or.inl rfl
    · rw [if_neg B]
      by_cases C : t_cell T n (p + 2) = -1
      · rw [if_pos C]; exact Or.inl rfl
      · rw [if_neg C]
        by_cases D : p + 4 < n ∧ T (p + 4) = 59
        · rw [if_pos D]; exact Or.inr (Or.inr ⟨rfl, D.1, B, C, D.2⟩)
        · rw [if_neg D]; exact Or.inl rfl
theorem t_form_0 {T : Nat → Int32} {n p : Nat} (h : ¬ (if t_form T n p = 0 then (0 : Int32) else 1) = 0) : ¬ t_form T n p = 0 := fun q => h (by rw [if_pos q])
/-! a text's moves one behind the other -/
def t_why (T : Nat → Int32) (n : Nat) (S : Nat → Int32) (p : Nat) : Int32 := if t_form T n p = 5 then s_refuses S (t_cell T n p).toNatClampNeg (t_cell T n (p + 2)).toNatClampNeg else if t_form T n p = 2 then s_refusesPass S else 1
def t_then (T : Nat → Int32) (n : Nat) (S : Nat → Int32) (p : Nat) : Nat → Int32 := if t_form T n p = 5 then s_makes S (t_cell T n p).toNatClampNeg (t_cell T n (p + 2)).toNatClampNeg else s_passes S
/-- the reason of the fault (0: none), its place, the row then, how many moves were read -/
def t_run (T : Nat → Int32) (n : Nat) : Nat → Nat → (Nat → Int32) → Int32 × Nat × (Nat → Int32) × Nat
  | 0, p, S => (0, p, S, 0)
  | m + 1, p, S => if n ≤ p then (0, p, S, 0) else if t_why T n S p = 0 then ((t_run T n m (p + t_form T n p) (t_then T n S p)).1, (t_run T n m (p + t_form T n p) (t_then T n S p)).2.1, (t_run T n m (p + t_form T n p) (t_then T n S p)).2.2.1, (t_run T n m (p + t_form T n p) (t_then T n S p)).2.2.2 + 1) else (t_why T n S p, p, S, 1)
theorem t_run_end {T : Nat → Int32} {n m p : Nat} {S : Nat → Int32} (h : n ≤ p) : t_run T n (m + 1) p S = (0, p, S, 0) := by rw [t_run, if_pos h]
theorem t_run_bad {T : Nat → Int32} {n m p : Nat} {S : Nat → Int32} (h : p < n) (h2 : ¬ t_why T n S p = 0) : t_run T n (m + 1) p S = (t_why T n S p, p, S, 1) := by rw [t_run, if_neg (Nat.not_le.mpr h), if_neg h2]
theorem t_run_go {T : Nat → Int32} {n m p : Nat} {S : Nat → Int32} (h : p < n) (h2 : t_why T n S p = 0) : t_run T n (m + 1) p S = ((t_run T n m (p + t_form T n p) (t_then T n S p)).1, (t_run T n m (p + t_form T n p) (t_then T n S p)).2.1, (t_run T n m (p + t_form T n p) (t_then T n S p)).2.2.1, (t_run T n m (p + t_form T n p) (t_then T n S p)).2.2.2 + 1) := by rw [t_run, if_neg (Nat.not_le.mpr h), if_pos h2]
theorem t_cell_congr {T T' : Nat → Int32} {n : Nat} (h : ∀ j, j < n → T j = T' j) (p : Nat) : t_cell T n p = t_cell T' n p := by
  by_cases a : p + 1 < n
  · unfold t_cell
    rw [h p (by omega), h (p + 1) a]
  · rw [t_cell_no (fun q => a q.1), t_cell_no (fun q => a q.1)]
theorem t_form_congr {T T' : Nat → Int32} {n : Nat} (h : ∀ j, j < n → T j = T' j) (p : Nat) : t_form T n p = t_form T' n p := by
  have e : ∀ (j : Nat) (c : Int32), (j < n ∧ T j = c) ↔ (j < n ∧ T' j = c) := fun j c => ⟨fun q => ⟨q.1, by rw [← h j q.1]; exact q.2⟩, fun q => ⟨q.1, by rw [h j q.1]; exact q.2⟩⟩
  unfold t_form
  rw [t_cell_congr h p, t_cell_congr h (p + 2)]
  simp only [e]
theorem xv_comm (w : xW) {a b : Nat} (h : ¬ a = b) (S T : Nat → Int32) : xv (xv w a S) b T = xv (xv w b T) a S := by
  refine Prod.ext ?_ rfl
  funext x y
  show (if x = b then T y else (if x = a then S y else w.1 x y)) = if x = a then S y else (if x = b then T y else w.1 x y)
  by_cases ha : x = a
  · rw [if_pos ha, if_neg (fun q => h (ha.symm.trans q)), if_pos ha]
  · rw [if_neg ha, if_neg ha]
