/-! the best move -/
def r_worth (S : Nat → Int32) (q : Nat) : Int32 := s_goodFor (s_goes S (q / 36) (q % 36)) (S 144)
def r_best (S : Nat → Int32) : List Nat → Int32 → Int32 → Int32 × Int32
  | [], d, b => (d, b)
  | q :: L, d, b => if d < 0 then r_best S L (nI q) (r_worth S q) else if r_worth S q ≤ b then r_best S L d b else r_best S L (nI q) (r_worth S q)
theorem r_best_app (S : Nat → Int32) : ∀ (L M : List Nat) (d b : Int32), r_best S (L ++ M) d b = r_best S M (r_best S L d b).1 (r_best S L d b).2 := by
  intro L
  induction L with
  | nil => intro M d b; rfl
  | cons q L ih =>
    intro M d b
    rw [List.cons_append, r_best, r_best]
    by_cases a : d < 0
    · rw [if_pos a, if_pos a, ih]
    · rw [if_neg a, if_neg a]
      by_cases c : r_worth S q ≤ b
      · rw [if_pos c, if_pos c, ih]
      · rw [if_neg c, if_neg c, ih]
theorem k_worthOf (w : xW) {f t : Nat} (hf : f < 36) (ht : t < 36) (h0 : zInv (w.1 0)) (h1 : zRw (w.1 1)) (hr : s_refuses (w.1 0) f t = 0) : d_X2_worthOf w f t = (r_worth (w.1 0) (36 * f + t), xv w 1 (s_carry (w.1 0) f t)) := by
  obtain ⟨b, b', c, d, e⟩ := refuses_0 h0 hr
  have hN := inv_goes h0 hf ht c d
  have q1 : (36 * f + t) / 36 = f := by omega
  have q2 : (36 * f + t) % 36 = t := by omega
  rw [d_X2_worthOf, zlet_def, k_copyFrom w (by omega : ¬ 0 = 1) h1 h0.1]
  rw [k_carryOut _ 1 hf ht (by rw [xv_row]; exact h0.2.1) (by rw [xv_row]; exact b) (by rw [xv_row]; exact e) (by rw [xv_row]; exact c) (fun z => b' (by rw [← z]; exact b)), xv_row, zlet_def, xv_xv, zlet_def, zlet_def, k_isOver, xv_row, k_springsOf, k_springsOf, xv_row, xg_row, xv_ne w _ (show ¬ 0 = 1 by omega)]
  unfold r_worth s_goodFor
  rw [q1, q2]
  have e145 : s_carry (w.1 0) f t 145 = s_goes (w.1 0) f t 145 := by
    unfold s_carry
    rw [zU_ne _ _ (by omega), zU_ne _ _ (by omega)]
  have es : ∀ x, s_springs (s_carry (w.1 0) f t) x = s_springs (s_goes (w.1 0) f t) x := by
    intro x
    unfold s_carry
    rw [s_springs_zU _ (by omega), s_springs_zU _ (by omega)]
  rw [e145, es, es]
  by_cases a : s_goes (w.1 0) f t 145 = 0
  · rw [if_pos a, if_pos rfl, if_pos (show s_goes (w.1 0) f t 145 ≤ 0 by rw [a]; decide), Int32.add_zero]
  · have hn : ¬ s_goes (w.1 0) f t 145 ≤ 0 := by
      intro q
      rcases hN.2.2.2.2.2.2.1 with z | z | z
      · exact a z
      · rw [z] at q; exact absurd q (by decide)
      · rw [z] at q; exact absurd q (by decide)
    rw [if_neg a, if_neg (by decide), if_neg hn]
/-- a found move's number, or the sign for none -/
def z_fd (d : Int32) : Prop := d = -4 ∨ ∃ q, q < 1296 ∧ d = nI q
theorem z_fd_lt {d : Int32} (h : z_fd d) : d < 0 ↔ d = -4 := by
  rcases h with e | ⟨q, hq, e⟩
  · rw [e]; exact ⟨fun _ => rfl, fun _ => by decide⟩
  · rw [e]
    exact ⟨fun z => absurd z (nI_pos (by omega)), fun z => absurd (by rw [z]; decide) (nI_pos (n := q) (by omega))⟩
theorem k_best_16 (w : xW) (h0 : zInv (w.1 0)) {f : Nat} (hf : f < 36) (kt : Int32 → Int32 → Nat → xW → Int32 × xW) : ∀ (n j t : Nat) (R : Nat → Int32) (d b : Int32), t + j = 36 → j < n → zRw R → z_fd d → ∃ R', zRw R' ∧ d_X2_best_16 f kt n d b t (xv w 1 R) = kt (r_best (w.1 0) (r_list (w.1 0) j (36 * f + t)) d b).1 (r_best (w.1 0) (r_list (w.1 0) j (36 * f + t)) d b).2 36 (xv w 1 R') ∧ z_fd (r_best (w.1 0) (r_list (w.1 0) j (36 * f + t)) d b).1 := by
  intro n
  induction n with
  | zero => intro j t R d b h1 h2; omega
  | succ n ih =>
    intro j t R d b h1 h2 hR hd
    rw [d_X2_best_16]
    cases j with
    | zero =>
      refine ⟨R, hR, ?_, hd⟩
      rw [if_pos (by omega), show t = 36 by omega]; rfl
    | succ j =>
      have ht : t < 36 := by omega
      have e0 : (xv w 1 R).1 0 = w.1 0 := xv_ne _ _ (by omega)
      have q1 : (36 * f + t) / 36 = f := by omega
      have q2 : (36 * f + t) % 36 = t := by omega
      rw [if_neg (by omega), k_reasonAgainst _ 0 hf ht (by rw [e0]; exact h0.2.1) (by rw [e0]; exact h0.2.2.2.2.2.2.1), e0, r_list, q1, q2]
      by_cases hr : s_refuses (w.1 0) f t = 0
      · rw [if_pos hr, if_pos hr, k_worthOf _ hf ht (by rw [e0]; exact h0) (by rw [xv_row]; exact hR) (by rw [e0]; exact hr), e0, xv_xv, zlet_def, zlet_def, r_best]
        obtain ⟨b1, b', c, d1, e⟩ := refuses_0 h0 hr
        have hc : zRw (s_carry (w.1 0) f t) := (inv_148 (inv_free (inv_goes h0 hf ht c d1) (by omega) _) (Or.inl rfl)).1
        have hq : z_fd (nI (36 * f + t)) := Or.inr ⟨_, by omega, rfl⟩
        by_cases a : d = -4
        · rw [if_pos a, if_pos ((z_fd_lt hd).mpr a)]
          exact ih j (t + 1) _ _ _ (by omega) (by omega) hc hq
        · rw [if_neg a, if_neg (fun z => a ((z_fd_lt hd).mp z))]
          by_cases g : r_worth (w.1 0) (36 * f + t) ≤ b
          · rw [if_pos g, if_pos g]
            exact ih j (t + 1) _ _ _ (by omega) (by omega) hc hd
          · rw [if_neg g, if_neg g]
            exact ih j (t + 1) _ _ _ (by omega) (by omega) hc hq
      · rw [if_neg hr, if_neg hr]
        exact ih j (t + 1) _ _ _ (by omega) (by omega) hR hd
theorem k_best_7 (w : xW) (h0 : zInv (w.1 0)) (kt : Int32 → Int32 → Nat → xW → Int32 × xW) : ∀ (n j f : Nat) (R : Nat → Int32) (d b : Int32), f + j = 36 → j < n → zRw R → z_fd d → ∃ R', zRw R' ∧ d_X2_best_7 kt n d b f (xv w 1 R) = kt (r_best (w.1 0) (r_list (w.1 0) (36 * j) (36 * f)) d b).1 (r_best (w.1 0) (r_list (w.1 0) (36 * j) (36 * f)) d b).2 36 (xv w 1 R') := by
  intro n
  induction n with
  | zero => intro j f R d b h1 h2; omega
  | succ n ih =>
    intro j f R d b h1 h2 hR hd
    rw [d_X2_best_7]
    cases j with
    | zero =>
      refine ⟨R, hR, ?_⟩
      rw [if_pos (by omega), show f = 36 by omega]; rfl
    | succ j =>
      rw [if_neg (by omega)]
      obtain ⟨R1, hR1, e1, f1⟩ := k_best_16 w h0 (f := f) (by omega) (fun e3_1 e3_2 e3_4 ew3 => (d_X2_best_7 kt n e3_1 e3_2 (f + 1) ew3)) 37 36 0 R d b (by omega) (by omega) hR hd
      simp only [Nat.add_zero] at e1 f1
      obtain ⟨R2, hR2, e2⟩ := ih j (f + 1) R1 _ (r_best (w.1 0) (r_list (w.1 0) 36 (36 * f)) d b).2 (by omega) (by omega) hR1 f1
      refine ⟨R2, hR2, ?_⟩
      rw [e1, e2, show 36 * (j + 1) = 36 + 36 * j by omega, r_list_app, r_best_app, show 36 * (f + 1) = 36 * f + 36 by omega]
