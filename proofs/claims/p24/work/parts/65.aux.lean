/-! small facts that the walks name -/
theorem sin_neg {m : Int32} : s_in (-1) 0 m = 0 := if_pos (by decide)
theorem sin_lim {w : xW} {A : xA} (h : zSim w A) : s_in (aS A 149 + nI 1) 0 (aS A 149) = 0 := by
  obtain ⟨L, l1, l2, e⟩ := h.2.2.1.2.2.2.2.2.2.2.2.1
  rw [e, nI_add]
  unfold s_in
  rw [if_neg (nI_pos (by omega)), if_pos (nI_lt (by omega) (by omega))]
theorem r_one_T {N N' f t : Nat} {s r : Int32} {L : List Nat} (e : s_makes (rT N) f t = rT N') (h5 : rT N' 145 ≤ 0) (h4 : rT N' 144 = s) (eL : s_mvs (rT N') s = L) (er : (if nI L.length = 0 then 1 else nI L.length) = r) (ht : t < 36 := by decide) : r_one (rT N) (36 * f + t) = r := by
  have q1 : (36 * f + t) / 36 = f := by omega
  have q2 : (36 * f + t) % 36 = t := by omega
  unfold r_one
  rw [q1, q2, e, if_pos h5, h4, s_movesOf_len, eL, er]
theorem r_one_o {N N' f t : Nat} {r : Int32} (e : s_makes (rT N) f t = rT N') (h5 : ¬ rT N' 145 ≤ 0) (er : 1 = r) (ht : t < 36 := by decide) : r_one (rT N) (36 * f + t) = r := by
  have q1 : (36 * f + t) / 36 = f := by omega
  have q2 : (36 * f + t) % 36 = t := by omega
  unfold r_one
  rw [q1, q2, e, if_neg h5, er]
theorem Q_state {G : zG} {N : Nat} (hN : 47 ≤ N) (hg : zGeo G N) {w : xW} {S T H : Nat → Int32} {k n : Nat} (h : zQ w S k n T H) : zMV yL_state cL_state 4 (some .long) 6 146 G N [.ref (zad G 0)] w (some (.long (stO S))) w := by
  obtain ⟨A, hA, rfl, -⟩ := h
  exact c_L_state hN hg hA
theorem Q_clear0 {w : xW} {S T H : Nat → Int32} {k n : Nat} (h : zQ w S k n T H) : ∃ u, d_X2_clearText w = (nI n, u) ∧ zQ u S k 0 (tT 0) H := by
  obtain ⟨u, a, b⟩ := Q_clear h
  exact ⟨u, a, Q_T b (fun j hj => absurd hj (Nat.not_lt_zero _))⟩
