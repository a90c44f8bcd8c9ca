theorem r_list_app (S : Nat → Int32) : ∀ (m n k : Nat), r_list S (m + n) k = r_list S m k ++ r_list S n (k + m) := by
  intro m
  induction m with
  | zero => intro n k; rw [Nat.zero_add, Nat.add_zero]; rfl
  | succ m ih =>
    intro n k
    rw [show m + 1 + n = (m + n) + 1 by omega, r_list, r_list, ih, show k + (m + 1) = k + 1 + m by omega]
    by_cases a : s_refuses S (k / 36) (k % 36) = 0
    · rw [if_pos a, if_pos a]; rfl
    · rw [if_neg a, if_neg a]
theorem r_sum_app (S : Nat → Int32) : ∀ (L M : List Nat) (a : Int32), r_sum S (L ++ M) a = r_sum S M (r_sum S L a) := by
  intro L
  induction L with
  | nil => intro M a; rfl
  | cons q L ih => intro M a; rw [List.cons_append, r_sum, r_sum, ih]
theorem refuses_0 {S : Nat → Int32} (h : zInv S) {f t : Nat} (hr : s_refuses S f t = 0) : S f = S 144 ∧ ¬ S t = S 144 ∧ ¬ s_costOf S f t < 0 ∧ s_costOf S f t ≤ S (72 + f) ∧ (S f = 0 ∨ S f = 1) := by
  obtain ⟨a, b, c⟩ := (refuses_iff h).mp hr
  have h1 : ¬ s_costOf S f t < 0 := by
    intro q
    rw [s_canGo, zlet_def, if_pos q] at c
    exact c rfl
  have h2 : s_costOf S f t ≤ S (72 + f) := by
    rw [s_canGo, zlet_def, if_neg h1] at c
    by_cases d : S (72 + f) < s_costOf S f t
    · rw [if_pos d] at c; exact absurd rfl c
    · exact Int32.not_lt.mp d
  refine ⟨b, fun q => ?_, h1, h2, by rw [b]; exact h.2.2.2.2.2.1⟩
  refine h1 ?_
  unfold s_costOf s_costBy zlet
  dsimp only
  rw [if_pos (show S t = S f from q.trans b.symm)]
  by_cases d : s_size (nI (t % 6) - nI (f % 6)) + s_size (nI (t / 6) - nI (f / 6)) = 0
  · rw [if_pos d]; decide
  · rw [if_neg d]; decide
theorem k_behind (w : xW) {f t : Nat} (hf : f < 36) (ht : t < 36) (h0 : zInv (w.1 0)) (h1 : zRw (w.1 1)) (hr : s_refuses (w.1 0) f t = 0) : d_X2_gamesBehind w f t = (r_one (w.1 0) (36 * f + t), xv w 1 (s_makes (w.1 0) f t)) := by
  obtain ⟨b, b', c, d, e⟩ := refuses_0 h0 hr
  have hN := inv_makes h0 hf ht c d
  have q1 : (36 * f + t) / 36 = f := by omega
  have q2 : (36 * f + t) % 36 = t := by omega
  rw [d_X2_gamesBehind, zlet_def, k_copyFrom w (by omega : ¬ 0 = 1) h1 h0.1]
  rw [k_makeMove _ 1 hf ht (by rw [xv_row]; exact h0.2.1) (by rw [xv_row]; exact b) (by rw [xv_row]; exact e) (by rw [xv_row]; exact c) (fun z => b' (by rw [← z]; exact b)), xv_row, zlet_def, xv_xv, k_isOver, xv_row]
  rw [k_movesOf _ 1 _ (by rw [xv_row]; exact hN.2.1) (by rw [xg_xv']; rcases hN.2.2.2.2.2.1 with z | z <;> rw [z] <;> decide), xv_row, xg_xv']
  unfold r_one
  rw [q1, q2]
  by_cases a : s_makes (w.1 0) f t 145 = 0
  · rw [if_pos a, if_pos rfl, if_pos (show s_makes (w.1 0) f t 145 ≤ 0 by rw [a]; decide), s_movesOf_len]
    have hl := s_mvs_len (s_makes (w.1 0) f t) (s_makes (w.1 0) f t 144)
    by_cases z : (s_mvs (s_makes (w.1 0) f t) (s_makes (w.1 0) f t 144)).length = 0
    · rw [z, if_neg (show ¬ (1 : Int32) < nI 0 by decide), if_pos (show nI 0 = 0 by decide)]
    · rw [if_neg (show ¬ nI (s_mvs (s_makes (w.1 0) f t) (s_makes (w.1 0) f t 144)).length = 0 from nI_ne0 (by omega) (by omega))]
      by_cases y : (s_mvs (s_makes (w.1 0) f t) (s_makes (w.1 0) f t 144)).length = 1
      · rw [y, if_neg (show ¬ (1 : Int32) < nI 1 by decide)]; rfl
      · rw [if_pos (show (1 : Int32) < nI (s_mvs (s_makes (w.1 0) f t) (s_makes (w.1 0) f t 144)).length from nI_lt (a := 1) (by omega) (by omega))]
  · have hn : ¬ s_makes (w.1 0) f t 145 ≤ 0 := by
      intro q
      rcases hN.2.2.2.2.2.2.1 with z | z | z
      · exact a z
      · rw [z] at q; exact absurd q (by decide)
      · rw [z] at q; exact absurd q (by decide)
    rw [if_neg a, if_neg (by decide), if_neg hn]
theorem k_replies_12 (w : xW) (h0 : zInv (w.1 0)) {f : Nat} (hf : f < 36) (kt : Int32 → Nat → xW → Int32 × xW) : ∀ (n j t : Nat) (R : Nat → Int32) (a : Int32), t + j = 36 → j < n → zRw R → ∃ R', zRw R' ∧ d_X2_replies_12 f kt n a t (xv w 1 R) = kt (r_sum (w.1 0) (r_list (w.1 0) j (36 * f + t)) a) 36 (xv w 1 R') := by
  intro n
  induction n with
  | zero => intro j t R a h1 h2; omega
  | succ n ih =>
    intro j t R a h1 h2 hR
    rw [d_X2_replies_12]
    cases j with
    | zero =>
      refine ⟨R, hR, ?_⟩
      rw [if_pos (by omega), show t = 36 by omega]; rfl
    | succ j =>
      have ht : t < 36 := by omega
      have e0 : (xv w 1 R).1 0 = w.1 0 := xv_ne _ _ (by omega)
      have q1 : (36 * f + t) / 36 = f := by omega
      have q2 : (36 * f + t) % 36 = t := by omega
      rw [if_neg (by omega), k_reasonAgainst _ 0 hf ht (by rw [e0]; exact h0.2.1) (by rw [e0]; exact h0.2.2.2.2.2.2.1), e0, r_list, q1, q2]
      by_cases hr : s_refuses (w.1 0) f t = 0
      · rw [if_pos hr, if_pos hr, k_behind _ hf ht (by rw [e0]; exact h0) (by rw [xv_row]; exact hR) (by rw [e0]; exact hr), e0, xv_xv, zlet_def, zlet_def, r_sum]
        obtain ⟨b, b', c, d, e⟩ := refuses_0 h0 hr
        exact ih j (t + 1) _ _ (by omega) (by omega) (inv_makes h0 hf ht c d).1
      · rw [if_neg hr, if_neg hr]
        exact ih j (t + 1) _ _ (by omega) (by omega) hR
theorem k_replies_4 (w : xW) (h0 : zInv (w.1 0)) (kt : Int32 → Nat → xW → Int32 × xW) : ∀ (n j f : Nat) (R : Nat → Int32) (a : Int32), f + j = 36 → j < n → zRw R → ∃ R', zRw R' ∧ d_X2_replies_4 kt n a f (xv w 1 R) = kt (r_sum (w.1 0) (r_list (w.1 0) (36 * j) (36 * f)) a) 36 (xv w 1 R') := by
  intro n
  induction n with
  | zero => intro j f R a h1 h2; omega
  | succ n ih =>
    intro j f R a h1 h2 hR
    rw [d_X2_replies_4]
    cases j with
    | zero =>
      refine ⟨R, hR, ?_⟩
      rw [if_pos (by omega), show f = 36 by omega]; rfl
    | succ j =>
      rw [if_neg (by omega)]
      obtain ⟨R1, hR1, e1⟩ := k_replies_12 w h0 (f := f) (by omega) (fun e3_1 e3_3 ew3 => (d_X2_replies_4 kt n e3_1 (f + 1) ew3)) 37 36 0 R a (by omega) (by omega) hR
      obtain ⟨R2, hR2, e2⟩ := ih j (f + 1) R1 (r_sum (w.1 0) (r_list (w.1 0) 36 (36 * f + 0)) a) (by omega) (by omega) hR1
      refine ⟨R2, hR2, ?_⟩
      simp only [Nat.add_zero] at e1 e2
      rw [e1, e2, show 36 * (j + 1) = 36 + 36 * j by omega, r_list_app, r_sum_app, show 36 * (f + 1) = 36 * f + 36 by omega]
