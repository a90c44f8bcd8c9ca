/-! what class and model both hold: the game's row, the history's rows and how many, the text and how long -/
def xA := (Nat → Int32) × (Nat → Nat → Int32) × Nat × (Nat → Int32) × Nat
def aS (A : xA) : Nat → Int32 := A.1
def aH (A : xA) : Nat → Nat → Int32 := A.2.1
def ak (A : xA) : Nat := A.2.2.1
def aT (A : xA) : Nat → Int32 := A.2.2.2.1
def an (A : xA) : Nat := A.2.2.2.2
def a_push (A : xA) : xA := (aS A, fun i => if i = ak A then aS A else aH A i, ak A + 1, aT A, an A)
def a_drop (A : xA) : xA := (aS A, fun i => aH A (i + 1), 4, aT A, an A)
def a_rec (A : xA) : xA := if ak A < 5 then a_push A else a_push (a_drop A)
def a_set (A : xA) (S : Nat → Int32) : xA := (S, aH A, ak A, aT A, an A)
def zCR (w : xW) (A : xA) : Prop := ak A ≤ 5 ∧ w.1 0 = aS A ∧ w.1 10 0 = nI (ak A) ∧ w.1 10 1 = nI (an A) ∧ (∀ i, i < 5 → 2 ≤ zpg w i) ∧ (∀ i j, i < 5 → j < 5 → zpg w i = zpg w j → i = j) ∧ (∀ i, i < ak A → w.1 (zpg w i) = aH A i) ∧ (∀ g, g < 7 → zRw (w.1 g)) ∧ (∀ j, j < an A → w.1 7 j = aT A j) ∧ ¬ zpr w 5 = zpr w 6
theorem zpg_xv (w : xW) (v : Nat) (S : Nat → Int32) (i : Nat) : zpg (xv w v S) i = zpg w i := rfl
theorem zpg_xs (w : xW) (v j : Nat) (x : Int32) (i : Nat) : zpg (xs w v j x) i = zpg w i := rfl
theorem zpg_xp (w : xW) (j k i : Nat) : zpg (xp w j k) i = if i = j then k % 7 else zpg w i := by
  show (if i = j then k else w.2 i) % 7 = _
  by_cases h : i = j
  · rw [if_pos h, if_pos h]
  · rw [if_neg h, if_neg h]; rfl
/-- a new row for the game in play -/
theorem zCR_set {w : xW} {A : xA} (h : zCR w A) {S : Nat → Int32} (hS : zRw S) : zCR (xv w 0 S) (a_set A S) := by
  obtain ⟨k5, a, b, c, d, e, g, i, j, pr⟩ := h
  refine ⟨k5, xv_row w 0 S, by rw [xv_ne _ _ (by omega)]; exact b, by rw [xv_ne _ _ (by omega)]; exact c, d, e, fun q hq => ?_, fun q hq => ?_, fun q hq => by rw [xv_ne _ _ (by omega)]; exact j q hq, pr⟩
  · have hq' : q < ak A := hq
    have := d q (by omega)
    rw [zpg_xv, xv_ne _ _ (by omega)]
    exact g q hq
  · by_cases h0 : q = 0
    · rw [h0, xv_row]; exact hS
    · rw [xv_ne _ _ h0]; exact i q hq
theorem C_push {w : xW} {A : xA} (h : zCR w A) (hk : ak A < 5) (h0 : zRw (w.1 0)) : zCR (xs (d_X1_copyFrom w (zpg w (ak A)) 0) 10 0 (nI (ak A + 1))) (a_push A) := by
  obtain ⟨k5, a, b, c, d, e, g, i, j, pr⟩ := h
  have hlt := zpg_lt w (ak A)
  have hge := d (ak A) hk
  rw [k_copyFrom w (by omega) (i _ hlt) (i 0 (by omega)), xs_xv, a]
  rw [xv_ne _ _ (show ¬ 10 = zpg w (ak A) by omega)]
  refine ⟨show ak A + 1 ≤ 5 by omega, ?_, ?_, ?_, d, e, ?_, ?_, ?_, pr⟩
  · rw [xv_ne _ _ (by omega), xv_ne _ _ (by omega)]; exact a
  · rw [xv_row]; exact zU_eq _ _ _
  · rw [xv_row, zU_ne _ _ (by omega)]; exact c
  · intro q hq
    have hq' : q < ak A + 1 := hq
    have hql := zpg_lt w q
    rw [zpg_xv, zpg_xv, xv_ne _ _ (by omega)]
    show _ = if q = ak A then aS A else aH A q
    by_cases hh : q = ak A
    · rw [if_pos hh, hh, xv_row]
    · rw [if_neg hh, xv_ne _ _ (fun z => hh (e q (ak A) (by omega) hk z))]
      exact g q (by omega)
  · intro q hq
    rw [xv_ne _ _ (by omega)]
    by_cases hh : q = zpg w (ak A)
    · rw [hh, xv_row, ← a]; exact i 0 (by omega)
    · rw [xv_ne _ _ hh]; exact i q hq
  · intro q hq
    rw [xv_ne _ _ (by omega), xv_ne _ _ (by omega)]
    exact j q hq
theorem nI_lt5 {k : Nat} (h : k ≤ 5) : (nI k < 5 ↔ k < 5) ∧ ¬ nI k < 0 ∧ (5 ≤ nI k ↔ k = 5) ∧ (nI k ≤ 0 ↔ k = 0) ∧ (nI k = 0 ↔ k = 0) ∧ (nI k = 5 ↔ k = 5) ∧ nI k ≤ 5 ∧ (nI k).toNatClampNeg = k := by
  have : k = 0 ∨ k = 1 ∨ k = 2 ∨ k = 3 ∨ k = 4 ∨ k = 5 := by omega
  rcases this with h | h | h | h | h | h <;> subst h <;> decide
theorem zRw_0 {w : xW} {A : xA} (h : zCR w A) : zRw (w.1 0) := h.2.2.2.2.2.2.2.1 0 (by omega)
theorem C_drop_w (w : xW) (kt : Nat → xW → xW) : d_X2_record_21 kt 6 1 w = kt 5 (xp (xp (xp (xp w 0 (zpg w 1)) 1 (zpg w 2)) 2 (zpg w 3)) 3 (zpg w 4)) := by
  rw [d_X2_record_21, if_neg (by decide), zlet_def, d_X2_record_21, if_neg (by decide), zlet_def, d_X2_record_21, if_neg (by decide), zlet_def, d_X2_record_21, if_neg (by decide), zlet_def, d_X2_record_21, if_pos (by decide)]
  rw [zpg_xp, zpg_xp, zpg_xp, zpg_xp, zpg_xp, zpg_xp]
  rfl
theorem C_drop {w : xW} {A : xA} (h : zCR w A) (hk : ak A = 5) : zCR (xs (xp (xp (xp (xp (xp w 0 (zpg w 1)) 1 (zpg w 2)) 2 (zpg w 3)) 3 (zpg w 4)) 4 (zpg w 0)) 10 0 (nI 4)) (a_drop A) := by
  obtain ⟨k5, a, b, c, d, e, g, i, j, pr⟩ := h
  have hz : ∀ q, q < 5 → zpg (xs (xp (xp (xp (xp (xp w 0 (zpg w 1)) 1 (zpg w 2)) 2 (zpg w 3)) 3 (zpg w 4)) 4 (zpg w 0)) 10 0 (nI 4)) q = zpg w (if q < 4 then q + 1 else 0) := by
    intro q hq
    have hm : ∀ r, zpg w r % 7 = zpg w r := fun r => Nat.mod_eq_of_lt (zpg_lt w r)
    rw [zpg_xs, zpg_xp, zpg_xp, zpg_xp, zpg_xp, zpg_xp, hm, hm, hm, hm, hm]
    have : q = 0 ∨ q = 1 ∨ q = 2 ∨ q = 3 ∨ q = 4 := by omega
    rcases this with h | h | h | h | h <;> subst h <;> rfl
  have h1 : ∀ v, (xp (xp (xp (xp (xp w 0 (zpg w 1)) 1 (zpg w 2)) 2 (zpg w 3)) 3 (zpg w 4)) 4 (zpg w 0)).1 v = w.1 v := fun _ => rfl
  have hx : ∀ v, ¬ v = 10 → (xs (xp (xp (xp (xp (xp w 0 (zpg w 1)) 1 (zpg w 2)) 2 (zpg w 3)) 3 (zpg w 4)) 4 (zpg w 0)) 10 0 (nI 4)).1 v = w.1 v := fun v hv => by
    rw [xs_xv, xv_ne _ _ hv]
    exact h1 v
  refine ⟨show 4 ≤ 5 by omega, (hx 0 (by omega)).trans a, ?_, ?_, ?_, ?_, ?_, ?_, ?_, pr⟩
  · rw [xs_xv, xv_row]; exact zU_eq _ _ _
  · rw [xs_xv, xv_row, zU_ne _ _ (by omega), h1]; exact c
  · intro q hq
    rw [hz q hq]
    by_cases h4 : q < 4
    · rw [if_pos h4]; exact d _ (by omega)
    · rw [if_neg h4]; exact d _ (by omega)
  · intro p q hp hq hpq
    rw [hz p hp, hz q hq] at hpq
    have := e _ _ (by by_cases h4 : p < 4
                      · rw [if_pos h4]; omega
                      · rw [if_neg h4]; omega) (by
                      by_cases h4 : q < 4
                      · rw [if_pos h4]; omega
                      · rw [if_neg h4]; omega) hpq
    by_cases h4 : p < 4
    · rw [if_pos h4] at this
      by_cases h5 : q < 4
      · rw [if_pos h5] at this; omega
      · rw [if_neg h5] at this; omega
    · rw [if_neg h4] at this
      by_cases h5 : q < 4
      · rw [if_pos h5] at this; omega
      · omega
  · intro q hq
    have hq' : q < 4 := hq
    rw [hz q (by omega), if_pos hq']
    have := zpg_lt w (q + 1)
    rw [hx _ (by omega)]
    exact g (q + 1) (by omega)
  · intro q hq
    rw [hx q (by omega)]
    exact i q hq
  · intro q hq
    rw [hx 7 (by omega)]
    exact j q hq
