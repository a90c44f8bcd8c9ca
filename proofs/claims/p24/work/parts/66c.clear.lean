/-! a board cleared by 36 puts -/
theorem put_hi (S : Nat → Int32) {c : Nat} (hc : c < 36) (a b p : Int32) {j : Nat} (h1 : 108 ≤ j) (h2 : j ≠ 158) : s_put S c a b p j = S j := by
  unfold s_put
  by_cases h : a = -1
  · rw [if_pos h, zU_ne _ _ h2, s_lays_hi _ _ _ _ hc h1]
  · rw [if_neg h, zU_ne _ _ h2, s_lays_hi _ _ _ _ hc h1]
theorem sin_0lim {S : Nat → Int32} (h : zInv S) : ¬ s_in 0 0 (S 149) = 0 := by
  obtain ⟨L, l1, l2, e⟩ := h.2.2.2.2.2.2.2.2.1
  rw [e]
  unfold s_in
  rw [if_neg (show ¬ (0 : Int32) < 0 by decide), if_neg (nI_pos (by omega))]
  decide
def d_clr : Nat → Nat → xW → xW
  | 0, _, w => w
  | m + 1, c, w => d_clr m (c + 1) (d_X2_put w (nI c) (-1) (nI 0) (nI 0)).2
def clrF : Nat → Nat → (Nat → Int32) → (Nat → Int32)
  | 0, _, S => S
  | m + 1, c, S => clrF m (c + 1) (s_put S c (-1) (nI 0) (nI 0))
theorem K_clr {w : xW} {A : xA} (h : zSim w A) (h5 : aS A 145 = 0) {c : Nat} (hc : c < 36) : d_X2_put w (nI c) (-1) (nI 0) (nI 0) = ((if aS A c = -1 then 0 else 1), xv (d_X2_record w) 0 (s_put (aS A) c (-1) (nI 0) (nI 0))) ∧ zSim (xv (d_X2_record w) 0 (s_put (aS A) c (-1) (nI 0) (nI 0))) (a_set (a_rec A) (s_put (aS A) c (-1) (nI 0) (nI 0))) := by
  obtain ⟨a, b⟩ := K_put h hc (side := -1) (kind := nI 0) (spring := nI 0) (by decide) (by decide) (sin_0lim h.2.2.1) h5
  exact ⟨a, K_new h b⟩
theorem Q_k5 {w : xW} {S T H : Nat → Int32} {k n : Nat} (h : zQ w S k n T H) : k ≤ 5 := by
  obtain ⟨A, hA, -, rfl, -⟩ := h
  exact hA.1.1
theorem Q_clr {n : Nat} {T : Nat → Int32} : ∀ (m c : Nat) (w : xW) (S H : Nat → Int32) (k : Nat), c + m ≤ 36 → S 145 = 0 → zQ w S k n T H → ∃ H', zQ (d_clr m c w) (clrF m c S) (min (k + m) 5) n T H' := by
  intro m
  induction m with
  | zero =>
    intro c w S H k _ _ h
    have := Q_k5 h
    rw [show min (k + 0) 5 = k by omega]
    exact ⟨H, h⟩
  | succ m ih =>
    intro c w S H k hc h5 h
    have k5 := Q_k5 h
    obtain ⟨A, hA, rfl, e2, e3, e4, e5⟩ := h
    obtain ⟨a, b⟩ := K_clr hA h5 (c := c) (by omega)
    rw [d_clr, clrF, a]
    have q := q_new rfl e2 e3 e4 b
    obtain ⟨H', r⟩ := ih (c + 1) _ _ _ _ (by omega) (by rw [put_hi _ (by omega) _ _ _ (by omega) (by omega)]; exact h5) q
    refine ⟨H', ?_⟩
    have : min (q5 k + m) 5 = min (k + (m + 1)) 5 := by
      unfold q5
      by_cases z : k < 5
      · rw [if_pos z]; omega
      · rw [if_neg z]; omega
    rw [← this]
    exact r
