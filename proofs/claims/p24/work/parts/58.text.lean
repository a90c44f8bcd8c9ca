/-! the class's reading of the text -/
theorem zc_small {j : Nat} (h : j < 65536) : zc (nI j) = nI j := by
  rw [zc_eq, pk_char, pk_tn (by omega), Nat.mod_eq_of_lt h]
theorem t_sign {x : Int32} (h : 32 ≤ x ∧ x ≤ 126) : ∃ j, j < 127 ∧ x = nI j := by
  obtain ⟨j, hj, e⟩ := nI_of2 (n := 126) (M := 126) (by decide) (Int32.not_lt.mpr (Int32.le_trans (show (0 : Int32) ≤ 32 by decide) h.1)) h.2
  exact ⟨j, by omega, e⟩
section TX
variable {w : xW} {T : Nat → Int32} {n : Nat}
theorem k_sign (hn : n ≤ 80) (h10 : w.1 10 1 = nI n) (h7 : ∀ j, j < n → w.1 7 j = T j) (hch : ∀ j, j < n → 32 ≤ T j ∧ T j ≤ 126) {p : Nat} (hp : p < 1000) : d_X2_signAt w (nI p) = if p < n then T p else 0 := by
  rw [d_X2_signAt, if_neg (nI_pos (by omega)), xg_row, h10]
  by_cases a : p < n
  · obtain ⟨j, hj, e⟩ := t_sign (hch p a)
    rw [if_neg (nI_ge a (by omega)), if_neg (show ¬ (80 : Int32) ≤ nI p from nI_ge (b := 80) (by omega) (by omega)), if_pos a, nI_clamp (by omega), xg_row, h7 p a, e, zc_small (by omega)]
  · rw [if_pos (nI_le (Nat.le_of_not_lt a) (by omega)), if_neg a]
theorem k_col : ∀ j, j < 127 → ((nI j - 97 < 0 ↔ j < 97) ∧ (6 ≤ nI j - 97 ↔ 103 ≤ j)) := by decide +kernel
theorem k_rowc : ∀ j, j < 127 → ((nI j - 49 < 0 ↔ j < 49) ∧ (6 ≤ nI j - 49 ↔ 55 ≤ j)) := by decide +kernel
theorem k_cell1 {x2 : Int32} (h : x2 < 0) (x1 : Int32) : (if (if x1 < 0 then (0 : Int32) else if 6 ≤ x1 then 0 else if x2 < 0 then 0 else if 6 ≤ x2 then 0 else 1) = 0 then (-1 : Int32) else 6 * x2 + x1) = -1 := by
  by_cases a : x1 < 0
  · rw [if_pos a, if_pos rfl]
  · rw [if_neg a]
    by_cases b : 6 ≤ x1
    · rw [if_pos b, if_pos rfl]
    · rw [if_neg b, if_pos h, if_pos rfl]
theorem k_cell2 {j i : Nat} (hj : j < 127) (hi : i < 127) : (if (if nI j - 97 < 0 then (0 : Int32) else if 6 ≤ nI j - 97 then 0 else if nI i - 49 < 0 then 0 else if 6 ≤ nI i - 49 then 0 else 1) = 0 then (-1 : Int32) else 6 * (nI i - 49) + (nI j - 97)) = if (97 ≤ nI j ∧ nI j ≤ 102) ∧ (49 ≤ nI i ∧ nI i ≤ 54) then 6 * (nI i - 49) + nI j - 97 else -1 := by
  have ej := k_col j hj
  have ei := k_rowc i hi
  have a1 : (97 : Int32) ≤ nI j ↔ 97 ≤ j := nI_leI (a := 97) (by omega) (by omega)
  have a2 : nI j ≤ (102 : Int32) ↔ j ≤ 102 := nI_leI (b := 102) (by omega) (by omega)
  have a3 : (49 : Int32) ≤ nI i ↔ 49 ≤ i := nI_leI (a := 49) (by omega) (by omega)
  have a4 : nI i ≤ (54 : Int32) ↔ i ≤ 54 := nI_leI (b := 54) (by omega) (by omega)
  by_cases b1 : j < 97
  · rw [if_pos (ej.1.mpr b1), if_pos rfl, if_neg (fun q => by have := a1.mp q.1.1; omega)]
  · rw [if_neg (fun q => b1 (ej.1.mp q))]
    by_cases b2 : 103 ≤ j
    · rw [if_pos (ej.2.mpr b2), if_pos rfl, if_neg (fun q => by have := a2.mp q.1.2; omega)]
    · rw [if_neg (fun q => b2 (ej.2.mp q))]
      by_cases b3 : i < 49
      · rw [if_pos (ei.1.mpr b3), if_pos rfl, if_neg (fun q => by have := a3.mp q.2.1; omega)]
      · rw [if_neg (fun q => b3 (ei.1.mp q))]
        by_cases b4 : 55 ≤ i
        · rw [if_pos (ei.2.mpr b4), if_pos rfl, if_neg (fun q => by have := a4.mp q.2.2; omega)]
        · rw [if_neg (fun q => b4 (ei.2.mp q)), if_neg (by decide), if_pos ⟨⟨a1.mpr (by omega), a2.mpr (by omega)⟩, ⟨a3.mpr (by omega), a4.mpr (by omega)⟩⟩]
          rw [Int32.sub_eq_add_neg (a := nI j), Int32.sub_eq_add_neg (a := 6 * (nI i - 49) + nI j), Int32.add_assoc]
theorem k_cellAt (hn : n ≤ 80) (h10 : w.1 10 1 = nI n) (h7 : ∀ j, j < n → w.1 7 j = T j) (hch : ∀ j, j < n → 32 ≤ T j ∧ T j ≤ 126) {p : Nat} (hp : p < 900) : d_X2_cellAt w (nI p) = t_cell T n p := by
  rw [d_X2_cellAt, nI_1, k_sign hn h10 h7 hch (by omega), k_sign hn h10 h7 hch (by omega), zlet_def, zlet_def, zlet_def]
  by_cases a : p + 1 < n
  · obtain ⟨j, hj, ej⟩ := t_sign (hch p (by omega))
    obtain ⟨i, hi, ei⟩ := t_sign (hch (p + 1) a)
    rw [if_pos a, if_pos (show p < n by omega), ej, ei, k_cell2 hj hi]
    unfold t_cell
    rw [ej, ei]
    by_cases b : (97 ≤ nI j ∧ nI j ≤ 102) ∧ (49 ≤ nI i ∧ nI i ≤ 54)
    · rw [if_pos b, if_pos ⟨a, b.1, b.2⟩]
    · rw [if_neg b, if_neg (fun q => b q.2)]
  · rw [if_neg a, t_cell_no (fun q => a q.1)]
    exact k_cell1 (by decide) _
theorem t_sign_eq {p : Nat} {c : Int32} (hc : ¬ c = 0) : ((if p < n then T p else 0) = c) ↔ (p < n ∧ T p = c) := by
  by_cases a : p < n
  · rw [if_pos a]; exact ⟨fun q => ⟨a, q⟩, fun q => q.2⟩
  · rw [if_neg a]; exact ⟨fun q => absurd q.symm hc, fun q => absurd q.1 a⟩
theorem k_form_m {c1 c2 : Int32} {D : Prop} [Decidable D] {s : Int32} (hs : s = 59 ↔ D) : (if (if c1 = -1 then (0 : Int32) else if c2 = -1 then 0 else if s = 59 then 1 else 0) = 0 then (0 : Int32) else 5) = nI (if c1 = -1 then 0 else if c2 = -1 then 0 else if D then 5 else 0) := by
  by_cases a : c1 = -1
  · rw [if_pos a, if_pos a]; rfl
  · rw [if_neg a, if_neg a]
    by_cases b : c2 = -1
    · rw [if_pos b, if_pos b]; rfl
    · rw [if_neg b, if_neg b]
      by_cases d : D
      · rw [if_pos (hs.mpr d), if_pos d]; rfl
      · rw [if_neg (fun q => d (hs.mp q)), if_neg d]; rfl
theorem k_form (hn : n ≤ 80) (h10 : w.1 10 1 = nI n) (h7 : ∀ j, j < n → w.1 7 j = T j) (hch : ∀ j, j < n → 32 ≤ T j ∧ T j ≤ 126) {p : Nat} (hp : p < 800) : d_X2_signsOfForm w (nI p) = nI (t_form T n p) := by
  have s4 : ((if p + 4 < n then T (p + 4) else 0) = 59) ↔ (p + 4 < n ∧ T (p + 4) = 59) := t_sign_eq (by decide)
  rw [d_X2_signsOfForm, nI_1, show nI p + 2 = nI (p + 2) from nI_add p 2, show nI p + 4 = nI (p + 4) from nI_add p 4, k_sign hn h10 h7 hch (by omega), k_sign hn h10 h7 hch (by omega), k_sign hn h10 h7 hch (by omega), k_cellAt hn h10 h7 hch (by omega), k_cellAt hn h10 h7 hch (by omega), zlet_def, k_form_m s4]
  unfold t_form
  by_cases a : p < n ∧ T p = 45
  · rw [if_pos ((t_sign_eq (by decide)).mpr a), if_pos a]
    by_cases b : p + 1 < n ∧ T (p + 1) = 59
    · rw [if_pos ((t_sign_eq (by decide)).mpr b), if_pos b]; rfl
    · have c : t_cell T n p = -1 := t_cell_no (fun q => absurd q.2.1.1 (by rw [a.2]; decide))
      rw [if_neg (fun q => b ((t_sign_eq (by decide)).mp q)), if_neg b, if_pos c]
  · rw [if_neg (fun q => a ((t_sign_eq (by decide)).mp q)), if_neg a]
end TX
theorem s_refuses_8 (S : Nat → Int32) (f t : Nat) : ∃ c, c ≤ 8 ∧ s_refuses S f t = nI c := by
  unfold s_refuses
  by_cases a1 : S 145 ≤ 0
  · rw [if_pos a1]
    by_cases a2 : S f = -1
    · rw [if_pos a2]; exact ⟨3, by omega, rfl⟩
    · rw [if_neg a2]
      by_cases a3 : S f = S 144
      · rw [if_pos a3]
        by_cases a4 : S t = S 144
        · rw [if_pos a4]; exact ⟨5, by omega, rfl⟩
        · rw [if_neg a4]
          by_cases a5 : 0 ≤ s_costOf S f t
          · rw [if_pos a5]
            by_cases a6 : s_canGo S f t = 0
            · rw [if_pos a6]; exact ⟨7, by omega, rfl⟩
            · rw [if_neg a6]; exact ⟨0, by omega, rfl⟩
          · rw [if_neg a5]; exact ⟨6, by omega, rfl⟩
      · rw [if_neg a3]; exact ⟨4, by omega, rfl⟩
  · rw [if_neg a1]; exact ⟨2, by omega, rfl⟩
theorem s_refusesPass_8 (S : Nat → Int32) : ∃ c, c ≤ 8 ∧ s_refusesPass S = nI c := by
  unfold s_refusesPass
  by_cases a1 : S 145 ≤ 0
  · rw [if_pos a1]
    by_cases a2 : s_movesOf S (S 144) ≤ 0
    · rw [if_pos a2]; exact ⟨0, by omega, rfl⟩
    · rw [if_neg a2]; exact ⟨8, by omega, rfl⟩
  · rw [if_neg a1]; exact ⟨2, by omega, rfl⟩
theorem t_why_8 (T : Nat → Int32) (n : Nat) (S : Nat → Int32) (p : Nat) : ∃ c, c ≤ 8 ∧ t_why T n S p = nI c := by
  unfold t_why
  by_cases a : t_form T n p = 5
  · rw [if_pos a]; exact s_refuses_8 _ _ _
  · rw [if_neg a]
    by_cases b : t_form T n p = 2
    · rw [if_pos b]; exact s_refusesPass_8 _
    · rw [if_neg b]; exact ⟨1, by omega, rfl⟩
/-- a run's reason is a small number, its place lies in the text -/
theorem t_run_8 (T : Nat → Int32) (n : Nat) : ∀ (m p : Nat) (S : Nat → Int32), ∃ c, c ≤ 8 ∧ (t_run T n m p S).1 = nI c ∧ ((t_run T n m p S).1 = 0 ∨ (t_run T n m p S).2.1 < n) := by
  intro m
  induction m with
  | zero => intro p S; exact ⟨0, by omega, rfl, Or.inl rfl⟩
  | succ m ih =>
    intro p S
    by_cases a : n ≤ p
    · rw [t_run_end a]; exact ⟨0, by omega, rfl, Or.inl rfl⟩
    · by_cases b : t_why T n S p = 0
      · rw [t_run_go (Nat.lt_of_not_le a) b]
        exact ih _ _
      · rw [t_run_bad (Nat.lt_of_not_le a) b]
        obtain ⟨c, hc, e⟩ := t_why_8 T n S p
        exact ⟨c, hc, e, Or.inr (Nat.lt_of_not_le a)⟩
theorem refusesPass_0 {S : Nat → Int32} (hI : zInv S) (hr : s_refusesPass S = 0) : S 146 = -1 := by
  refine hI.2.2.2.2.2.2.2.1 ?_
  unfold s_refusesPass at hr
  by_cases a1 : S 145 ≤ 0
  · rcases hI.2.2.2.2.2.2.1 with e | e | e
    · exact e
    · rw [e] at a1; exact absurd a1 (by decide)
    · rw [e] at a1; exact absurd a1 (by decide)
  · rw [if_neg a1] at hr; exact absurd hr (by decide)
theorem k_try_15 (T : Nat → Int32) {n : Nat} (hn : n ≤ 80) (w : xW) (h10 : w.1 10 1 = nI n) (h7 : ∀ j, j < n → w.1 7 j = T j) (hch : ∀ j, j < n → 32 ≤ T j ∧ T j ≤ 126) : ∀ (k m p made : Nat) (S : Nat → Int32), n < p + k → n < p + m → p ≤ n → 2 * made ≤ p → zInv S → d_X2_tryText_15 d_X2_tryText_15k k (nI p) made (xv w 1 S) = ((if (t_run T n m p S).1 = 0 then -1 else 16 * nI (t_run T n m p S).2.1 + (t_run T n m p S).1), xv w 1 (t_run T n m p S).2.2.1) ∧ zInv (t_run T n m p S).2.2.1 := by
  intro k
  induction k with
  | zero => intro m p made S h1 h2 h3; omega
  | succ k ih =>
    intro m p made S h1 h2 h3 h4 hI
    obtain ⟨m, rfl⟩ : ∃ j, m = j + 1 := ⟨m - 1, by omega⟩
    have u10 : (xv w 1 S).1 10 1 = nI n := by rw [xv_ne _ _ (by omega)]; exact h10
    have u7 : ∀ j, j < n → (xv w 1 S).1 7 j = T j := fun j hj => by rw [xv_ne _ _ (by omega)]; exact h7 j hj
    have u1 : (xv w 1 S).1 1 = S := xv_row _ _ _
    rw [d_X2_tryText_15, if_neg (show ¬ 80 ≤ made by omega), xg_row, u10]
    by_cases hp : n ≤ p
    · rw [if_pos (nI_le hp (by omega)), t_run_end hp, d_X2_tryText_15k, if_pos rfl]
      exact ⟨rfl, hI⟩
    · have hlt : p < n := Nat.lt_of_not_le hp
      rw [if_neg (nI_ge hlt (by omega)), k_form hn u10 u7 hch (by omega), show nI p + 2 = nI (p + 2) from nI_add p 2, k_cellAt hn u10 u7 hch (by omega), k_cellAt hn u10 u7 hch (by omega), zlet_def, zlet_def, zlet_def]
      have bad : ∀ why : Int32, t_why T n S p = why → ¬ why = 0 → ((16 * nI p + why, xv w 1 S) : Int32 × xW) = ((if (t_run T n (m + 1) p S).1 = 0 then -1 else 16 * nI (t_run T n (m + 1) p S).2.1 + (t_run T n (m + 1) p S).1), xv w 1 (t_run T n (m + 1) p S).2.2.1) ∧ zInv (t_run T n (m + 1) p S).2.2.1 := by
        intro why q1 q2
        have q3 : ¬ t_why T n S p = 0 := fun q => q2 (q1.symm.trans q)
        rw [t_run_bad hlt q3, if_neg q3, q1]
        exact ⟨rfl, hI⟩
      rcases t_form_is T n p with f0 | ⟨f2, l2, -⟩ | ⟨f5, l5, b1, b2, -⟩
      · have hwhy : t_why T n S p = 1 := by unfold t_why; rw [f0, if_neg (by decide), if_neg (by decide)]
        rw [f0, if_neg (show ¬ nI 0 = 5 by decide), if_neg (show ¬ nI 0 = 2 by decide), zlet_def, if_neg (by decide)]
        exact bad 1 hwhy (by decide)
      · have hwhy : t_why T n S p = s_refusesPass S := by unfold t_why; rw [f2, if_neg (by decide), if_pos rfl]
        have hthen : t_then T n S p = s_passes S := by unfold t_then; rw [f2, if_neg (by decide)]
        rw [f2, if_neg (show ¬ nI 2 = 5 by decide), if_pos (show nI 2 = 2 by decide), zlet_def, zlet_def, k_reasonAgainstPass _ 1 (by rw [u1]; exact hI.2.1) (by rw [u1]; exact hI.2.2.2.2.2.2.1) (by rw [u1]; exact hI.2.2.2.2.2.1), u1]
        by_cases hr : s_refusesPass S = 0
        · rw [if_pos hr, if_neg (show ¬ nI 2 = 5 by decide), k_makePass _ 1 (by rw [u1]; exact hI.1.2.2) (by rw [u1]; exact refusesPass_0 hI hr), u1, zlet_def, zlet_def, xv_xv, nI_add, t_run_go hlt (hwhy.trans hr), f2, hthen]
          exact ih m (p + 2) (made + 1) (s_passes S) (by omega) (by omega) (by omega) (by omega) (inv_passes hI)
        · rw [if_neg hr]
          exact bad _ hwhy hr
      · obtain ⟨f, hf, ea⟩ := t_cell_lt b1
        obtain ⟨t, ht, eb⟩ := t_cell_lt b2
        have hwhy : t_why T n S p = s_refuses S f t := by unfold t_why; rw [f5, if_pos rfl, ea, eb, nI_clamp (by omega), nI_clamp (by omega)]
        have hthen : t_then T n S p = s_makes S f t := by unfold t_then; rw [f5, if_pos rfl, ea, eb, nI_clamp (by omega), nI_clamp (by omega)]
        rw [f5, if_pos (show nI 5 = 5 by decide), zlet_def, zlet_def, zlet_def, zlet_def, ea, eb, nI_clamp (by omega), nI_clamp (by omega), k_reasonAgainst _ 1 hf ht (by rw [u1]; exact hI.2.1) (by rw [u1]; exact hI.2.2.2.2.2.2.1), u1]
        by_cases hr : s_refuses S f t = 0
        · obtain ⟨r1, r2, r3, r4, r5⟩ := refuses_0 hI hr
          rw [if_pos hr, if_pos (show nI 5 = 5 by decide), zlet_def, zlet_def, k_makeMove _ 1 hf ht (by rw [u1]; exact hI.2.1) (by rw [u1]; exact r1) (by rw [u1]; exact r5) (by rw [u1]; exact r3) (fun z => r2 (by rw [← z]; exact r1)), u1, zlet_def, zlet_def, xv_xv, nI_add, t_run_go hlt (hwhy.trans hr), f5, hthen]
          exact ih m (p + 5) (made + 1) (s_makes S f t) (by omega) (by omega) (by omega) (by omega) (inv_makes hI hf ht r3 r4)
        · rw [if_neg hr]
          exact bad _ hwhy hr
theorem k_tryText {w : xW} {A : xA} (h : zSim w A) : d_X2_tryText w = ((if (t_run (aT A) (an A) 81 0 (aS A)).1 = 0 then -1 else 16 * nI (t_run (aT A) (an A) 81 0 (aS A)).2.1 + (t_run (aT A) (an A) 81 0 (aS A)).1), xv w 1 (t_run (aT A) (an A) 81 0 (aS A)).2.2.1) ∧ zInv (t_run (aT A) (an A) 81 0 (aS A)).2.2.1 := by
  obtain ⟨k5, c0, c10, c11, hd, he, hg, hi, hj, pr⟩ := h.1
  have hn := h.2.2.2.2.1
  rw [d_X2_tryText, zlet_def, k_copyFrom w (by omega : ¬ 0 = 1) (hi 1 (by omega)) (hi 0 (by omega)), c0]
  exact k_try_15 (aT A) hn w c11 hj h.2.2.2.2.2 81 81 0 0 (aS A) (by omega) (by omega) (by omega) (by omega) h.2.2.1
