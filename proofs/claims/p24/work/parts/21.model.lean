/-! lines over the board: from f to t in steps -/
def zdx (f t : Nat) : Nat := (t % 6 - f % 6) + (f % 6 - t % 6)
def zdy (f t : Nat) : Nat := (t / 6 - f / 6) + (f / 6 - t / 6)
def zL (f t : Nat) : Nat := if zdx f t < zdy f t then zdy f t else zdx f t
def zAl (f t : Nat) : Prop := ¬ f = t ∧ (zdx f t = 0 ∨ zdy f t = 0 ∨ zdx f t = zdy f t)
def zAlb (f t : Nat) : Bool := !(f == t) && (zdx f t == 0 || (zdy f t == 0 || zdx f t == zdy f t))
theorem zAl_b {f t : Nat} : zAl f t ↔ zAlb f t = true := by
  simp [zAl, zAlb]
/-- the cell k steps on the way from f to t -/
def zl (f t k : Nat) : Nat := 6 * (if f / 6 < t / 6 then f / 6 + k else if t / 6 < f / 6 then f / 6 - k else f / 6) + (if f % 6 < t % 6 then f % 6 + k else if t % 6 < f % 6 then f % 6 - k else f % 6)
theorem zL_le (f t : Nat) (hf : f < 36) (ht : t < 36) : zL f t ≤ 5 := by
  unfold zL zdx zdy
  split <;> omega
def zsg (v : Int32) : Int32 := if v ≤ 0 then (if 0 ≤ v then 0 else -1) else 1
def zst (f t : Nat) : Int32 := 6 * zsg (nI (t / 6) - nI (f / 6)) + zsg (nI (t % 6) - nI (f % 6))
def zl_c (f t k : Nat) : Bool := !(zAlb f t) || (!(Nat.ble k (zL f t)) || (Nat.blt (zl f t k) 36 && (if k = zL f t then zl f t k == t else !(zl f t k == t) && decide (nI (zl f t k) + zst f t = nI (zl f t (k + 1))))))
theorem zl_all : ∀ f, f < 36 → ∀ t, t < 36 → ∀ k, k < 6 → zl_c f t k = true := by decide +kernel
theorem zl_f {f t k : Nat} (hf : f < 36) (ht : t < 36) (ha : zAl f t) (hk : k ≤ zL f t) : zl f t k < 36 ∧ (k = zL f t → zl f t k = t) ∧ (k < zL f t → ¬ zl f t k = t ∧ nI (zl f t k) + zst f t = nI (zl f t (k + 1))) := by
  have h5 := zL_le f t hf ht
  have h := zl_all f hf t ht k (by omega)
  unfold zl_c at h
  rw [zAl_b.mp ha] at h
  have hb : Nat.ble k (zL f t) = true := Nat.ble_eq.mpr hk
  rw [hb] at h
  simp only [Bool.not_true, Bool.false_or, Bool.and_eq_true] at h
  refine ⟨?_, fun e => ?_, fun e => ?_⟩
  · have := h.1
    have q : zl f t k ≤ 35 := by simpa [Nat.blt] using this
    omega
  · have := h.2
    rw [if_pos e] at this
    simpa using this
  · have := h.2
    rw [if_neg (by omega)] at this
    simpa using this
theorem zl_lt (f t : Nat) {k : Nat} (hf : f < 36) (ht : t < 36) (ha : zAl f t) (hk : k ≤ zL f t) : zl f t k < 36 := (zl_f hf ht ha hk).1
theorem zl_n {f t k : Nat} (hf : f < 36) (ht : t < 36) (ha : zAl f t) (hk : k ≤ zL f t) (hne : ¬ zl f t k = t) : k + 1 ≤ zL f t := by
  rcases Nat.lt_or_ge k (zL f t) with h | h
  · exact h
  · exact absurd ((zl_f hf ht ha hk).2.1 (by omega)) hne
theorem zl_1 {f t : Nat} (hf : f < 36) (ht : t < 36) (ha : zAl f t) : 1 ≤ zL f t := by
  rcases Nat.lt_or_ge 0 (zL f t) with h | h
  · exact h
  · have e : zL f t = 0 := by omega
    have := (zl_f hf ht ha (k := 0) (by omega)).2.1 e.symm
    have z : zl f t 0 = f := by
      unfold zl
      split <;> split <;> (try split) <;> (try split) <;> omega
    exact absurd (z.symm.trans this) ha.1
theorem zl_z (f t : Nat) : zl f t 0 = f := by
  unfold zl
  split <;> split <;> (try split) <;> (try split) <;> omega
def zsz (v : Int32) : Int32 := if 0 ≤ v then v else -v
theorem zsz_dx : ∀ f, f < 36 → ∀ t, t < 36 → zsz (nI (t % 6) - nI (f % 6)) = nI (zdx f t) ∧ zsz (nI (t / 6) - nI (f / 6)) = nI (zdy f t) := by decide +kernel
theorem zdx_lt {f t : Nat} : zdx f t < 6 := by unfold zdx; omega
theorem zdy_lt {f t : Nat} (hf : f < 36) (ht : t < 36) : zdy f t < 6 := by unfold zdy; omega
theorem znz {a b : Nat} (ha : a < 6) (hb : b < 6) (h : ¬ nI a + nI b = 0) : ¬ (a = 0 ∧ b = 0) := by
  intro q
  rw [q.1, q.2] at h
  exact h rfl
theorem zdd {f t : Nat} (hf : f < 36) (ht : t < 36) (h : f = t) : zdx f t = 0 ∧ zdy f t = 0 := by
  subst h
  unfold zdx zdy
  omega
