/-! playing the text -/
def t_cnt (T : Nat → Int32) : Nat → Nat → Nat
  | 0, _ => 0
  | k + 1, p => (if T p = 59 then 1 else 0) + t_cnt T k (p + 1)
theorem t_cnt_1 {T : Nat → Int32} {k p : Nat} (h : T p = 59) : t_cnt T (k + 1) p = 1 + t_cnt T k (p + 1) := by rw [t_cnt, if_pos h]
theorem t_cnt_0 {T : Nat → Int32} {k p : Nat} (h : ¬ T p = 59) : t_cnt T (k + 1) p = t_cnt T k (p + 1) := by rw [t_cnt, if_neg h, Nat.zero_add]
theorem t_cnt_le (T : Nat → Int32) : ∀ (k p : Nat), t_cnt T k p ≤ k := by
  intro k
  induction k with
  | zero => intro p; exact Nat.le_refl 0
  | succ k ih =>
    intro p
    rw [t_cnt]
    have := ih (p + 1)
    by_cases h : T p = 59
    · rw [if_pos h]; omega
    · rw [if_neg h]; omega
theorem t_not59 {T : Nat → Int32} {n p : Nat} (h : ¬ t_cell T n p = -1) : ¬ T p = 59 ∧ ¬ T (p + 1) = 59 := by
  rcases t_cell_is T n p with q | ⟨a, b, ha, hb, ea, eb, -, -, -⟩
  · exact absurd q h
  · rw [ea, eb]
    have x : (59 : Int32) = nI 59 := rfl
    exact ⟨fun q => by have := (nI_eq (a := 97 + a) (b := 59) (by omega) (by omega)).mp q; omega, fun q => by have := (nI_eq (a := 49 + b) (b := 59) (by omega) (by omega)).mp q; omega⟩
/-- in a text without a fault every move has just one end sign -/
theorem t_run_cnt (T : Nat → Int32) (n : Nat) : ∀ (m p k : Nat) (S : Nat → Int32), p + k = n → k < m → (t_run T n m p S).1 = 0 → (t_run T n m p S).2.2.2 = t_cnt T k p := by
  intro m
  induction m with
  | zero => intro p k S h1 h2; omega
  | succ m ih =>
    intro p k S h1 h2 h
    by_cases a : n ≤ p
    · rw [t_run_end a, show k = 0 by omega]; rfl
    · have hlt := Nat.lt_of_not_le a
      by_cases b : t_why T n S p = 0
      · rw [t_run_go hlt b] at h ⊢
        rcases t_form_is T n p with f0 | ⟨f2, l2, x0, x1⟩ | ⟨f5, l5, b1, b2, x4⟩
        · exact absurd b (by unfold t_why; rw [f0, if_neg (by decide), if_neg (by decide)]; decide)
        · rw [f2] at h ⊢
          obtain ⟨j, rfl⟩ : ∃ j, k = j + 2 := ⟨k - 2, by omega⟩
          rw [t_cnt_0 (by rw [x0]; decide), t_cnt_1 x1]
          have := ih (p + 2) j _ (by omega) (by omega) h
          show (t_run T n m (p + 2) (t_then T n S p)).2.2.2 + 1 = _
          rw [this]; exact Nat.add_comm _ _
        · rw [f5] at h ⊢
          obtain ⟨j, rfl⟩ : ∃ j, k = j + 5 := ⟨k - 5, by omega⟩
          rw [t_cnt_0 (t_not59 b1).1, t_cnt_0 (t_not59 b1).2, t_cnt_0 (t_not59 b2).1, t_cnt_0 (t_not59 b2).2, t_cnt_1 x4]
          have := ih (p + 5) j _ (by omega) (by omega) h
          show (t_run T n m (p + 5) (t_then T n S p)).2.2.2 + 1 = _
          rw [this]; exact Nat.add_comm _ _
      · rw [t_run_bad hlt b] at h
        exact absurd h b
theorem k_movesInText_4 {w : xW} {T : Nat → Int32} {n : Nat} (hn : n ≤ 80) (h10 : w.1 10 1 = nI n) (h7 : ∀ j, j < n → w.1 7 j = T j) (hch : ∀ j, j < n → 32 ≤ T j ∧ T j ≤ 126) (kt : Int32 → Nat → Int32) : ∀ (fuel k p : Nat) (a : Nat), p + k = n → k < fuel → d_X2_movesInText_4 w kt fuel (nI a) p = kt (nI (a + t_cnt T k p)) n := by
  intro fuel
  induction fuel with
  | zero => intro k p a h1 h2; omega
  | succ fuel ih =>
    intro k p a h1 h2
    rw [d_X2_movesInText_4, xg_row, h10]
    cases k with
    | zero => rw [if_pos (nI_le (by omega) (by omega)), show p = n by omega]; rfl
    | succ k =>
      rw [if_neg (nI_ge (by omega) (by omega)), k_sign hn h10 h7 hch (by omega), if_pos (show p < n by omega)]
      by_cases b : T p = 59
      · rw [if_pos b, nI_1, ih k (p + 1) _ (by omega) (by omega), t_cnt_1 b, Nat.add_assoc]
      · rw [if_neg b, ih k (p + 1) _ (by omega) (by omega), t_cnt_0 b]
theorem k_movesInText {w : xW} {T : Nat → Int32} {n : Nat} (hn : n ≤ 80) (h10 : w.1 10 1 = nI n) (h7 : ∀ j, j < n → w.1 7 j = T j) (hch : ∀ j, j < n → 32 ≤ T j ∧ T j ≤ 126) : d_X2_movesInText w = nI (t_cnt T n 0) := by
  rw [d_X2_movesInText, xg_row, h10, nI_clamp (by omega), show (0 : Int32) = nI 0 from rfl, k_movesInText_4 hn h10 h7 hch _ (n + 1) n 0 0 (by omega) (by omega), d_X2_movesInText_4k, Nat.zero_add]
/-- keeping a state leaves the class's second game -/
theorem rec2_row1 {w : xW} {A : xA} (h : zCR w A) (hk : ak A < 5) : (if (xg w 10 0) < 0 then w else (if 5 ≤ (xg w 10 0) then w else (zlet (d_X1_copyFrom w (zpg w ((xg w 10 0)).toNatClampNeg) 0) fun w4 => zlet (xs w4 10 0 ((xg w4 10 0) + 1)) fun w5 => w5))).1 1 = w.1 1 := by
  obtain ⟨k5, a, b, c, d, e, g, i, j, pr⟩ := h
  have n := nI_lt5 k5
  have hlt := zpg_lt w (ak A)
  have hge := d (ak A) hk
  rw [xg_row, b, if_neg n.2.1, if_neg (fun q => by have := n.2.2.1.mp q; omega), n.2.2.2.2.2.2.2, zlet_def, zlet_def]
  rw [k_copyFrom w (by omega) (i _ hlt) (i 0 (by omega)), xs_xv, xv_ne _ _ (by omega), xv_ne _ _ (by omega)]
theorem rec_row1 {w : xW} {A : xA} (h : zCR w A) : (d_X2_record w).1 1 = w.1 1 := by
  have k5 := h.1
  have b := h.2.2.1
  have n := nI_lt5 k5
  rw [d_X2_record]
  by_cases hk : ak A < 5
  · rw [if_pos (by rw [xg_row, b]; exact n.1.mpr hk), zlet_def]
    exact rec2_row1 h hk
  · rw [if_neg (by rw [xg_row, b]; exact fun q => hk (n.1.mp q)), C_drop_w, d_X2_record_21k, zlet_def, zlet_def, zlet_def]
    have h5 : ak A = 5 := by omega
    have := rec2_row1 (C_drop h h5) (show 4 < 5 by omega)
    exact this.trans (by rw [xs_xv, xv_ne _ _ (by omega)]; rfl)
theorem aT_rec (A : xA) : aT (a_rec A) = aT A ∧ an (a_rec A) = an A := by
  unfold a_rec
  by_cases h : ak A < 5
  · rw [if_pos h]; exact ⟨rfl, rfl⟩
  · rw [if_neg h]; exact ⟨rfl, rfl⟩
