/-! the public calls: what they answer and what they leave -/
def zAI (A : xA) : Prop := zInv (aS A) ∧ (∀ i, i < ak A → zInv (aH A i)) ∧ an A ≤ 80 ∧ (∀ j, j < an A → 32 ≤ aT A j ∧ aT A j ≤ 126)
def zSim (w : xW) (A : xA) : Prop := zCR w A ∧ True ∧ zAI A
/-- what the model's methods ask of their world -/
def zPre (w : xW) : Prop := (∃ p, p ≤ 5 ∧ xg w 17 0 = nI p) ∧ (∃ n, n ≤ 80 ∧ xg w 17 1 = nI n)
theorem aS_rec (A : xA) : aS (a_rec A) = aS A := by
  unfold a_rec
  by_cases h : ak A < 5
  · rw [if_pos h]; rfl
  · rw [if_neg h]; rfl
theorem zAI_rec {A : xA} (h : zAI A) (hk : ak A ≤ 5) : zAI (a_rec A) := by
  refine ⟨by rw [aS_rec]; exact h.1, ?_, ?_, ?_⟩
  · unfold a_rec
    by_cases h5 : ak A < 5
    · rw [if_pos h5]
      intro i hi
      have hi' : i < ak A + 1 := hi
      show zInv (if i = ak A then aS A else aH A i)
      by_cases e : i = ak A
      · rw [if_pos e]; exact h.1
      · rw [if_neg e]; exact h.2.1 i (by omega)
    · rw [if_neg h5]
      intro i hi
      have hi' : i < 4 + 1 := hi
      show zInv (if i = 4 then aS A else aH A (i + 1))
      by_cases e : i = 4
      · rw [if_pos e]; exact h.1
      · rw [if_neg e]; exact h.2.1 (i + 1) (by omega)
  · unfold a_rec
    by_cases h5 : ak A < 5
    · rw [if_pos h5]; exact h.2.2.1
    · rw [if_neg h5]; exact h.2.2.1
  · unfold a_rec
    by_cases h5 : ak A < 5
    · rw [if_pos h5]; exact h.2.2.2
    · rw [if_neg h5]; exact h.2.2.2
theorem zAI_set {A : xA} (h : zAI A) {S : Nat → Int32} (hS : zInv S) : zAI (a_set A S) := ⟨hS, h.2.1, h.2.2.1, h.2.2.2⟩
theorem is_cell (c : Int32) : s_isCell c = 0 ∨ (s_isCell c = 1 ∧ ∃ k, k < 36 ∧ c = nI k) := by
  unfold s_isCell s_in
  by_cases a : c < 0
  · rw [if_pos a]; exact Or.inl rfl
  · rw [if_neg a]
    by_cases b : 35 < c
    · rw [if_pos b]; exact Or.inl rfl
    · rw [if_neg b]
      obtain ⟨k, hk, e⟩ := nI_of2 (n := 35) (M := 35) (by decide) a (Int32.not_lt.mp b)
      exact Or.inr ⟨rfl, k, by omega, e⟩
theorem k_isCell (w : xW) (c : Int32) : d_X2_isCell w c = s_isCell c := by
  rw [d_X2_isCell]
  unfold s_isCell s_in
  by_cases a : c < 0
  · rw [if_pos a, if_pos a]
  · rw [if_neg a, if_neg a]
    have e : (36 ≤ c) ↔ (35 < c) := by
      obtain ⟨j, hj, rfl⟩ := nI_of a
      have h1 : (36 : Int32) ≤ nI j ↔ 36 ≤ j := nI_leI (a := 36) (by omega) (by omega)
      have h2 : (35 : Int32) < nI j ↔ 35 < j := nI_ltI (a := 35) (by omega) (by omega)
      rw [h1, h2]; omega
    by_cases b : 35 < c
    · rw [if_pos b, if_pos (e.mpr b)]
    · rw [if_neg b, if_neg (fun q => b (e.mp q))]
