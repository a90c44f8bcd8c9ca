/-! the form of a move at a place of the text, and what the model reads there -/
def t_cell (T : Nat → Int32) (n p : Nat) : Int32 := if p + 1 < n ∧ (97 ≤ T p ∧ T p ≤ 102) ∧ (49 ≤ T (p + 1) ∧ T (p + 1) ≤ 54) then 6 * (T (p + 1) - 49) + T p - 97 else -1
def t_form (T : Nat → Int32) (n p : Nat) : Nat := if p < n ∧ T p = 45 then (if p + 1 < n ∧ T (p + 1) = 59 then 2 else 0) else if t_cell T n p = -1 then 0 else if t_cell T n (p + 2) = -1 then 0 else if p + 4 < n ∧ T (p + 4) = 59 then 5 else 0
theorem in_0 (w : xW) (v l m : Int32) : d_X3_in w v l m = 0 ↔ ¬ (l ≤ v ∧ v ≤ m) := by
  rw [m_in]
  unfold s_in
  by_cases a : v < l
  · rw [if_pos a]; exact ⟨fun _ q => absurd a (Int32.not_lt.mpr q.1), fun _ => rfl⟩
  · rw [if_neg a]
    by_cases b : m < v
    · rw [if_pos b]; exact ⟨fun _ q => absurd b (Int32.not_lt.mpr q.2), fun _ => rfl⟩
    · rw [if_neg b]; exact ⟨fun q => absurd q (by decide), fun q => absurd ⟨Int32.not_lt.mp a, Int32.not_lt.mp b⟩ q⟩
theorem t_six {x l m : Int32} {a : Nat} (hl : l = nI a) (hm : m = nI (a + 5)) (ha : a < 1000) (h : l ≤ x ∧ x ≤ m) : ∃ c, c < 6 ∧ x = nI (a + c) := by
  subst hl; subst hm
  obtain ⟨h1, h2⟩ := h
  rcases pk_ix x (n := a + 6) (by omega) with q | q | ⟨j, hj, rfl⟩
  · exact absurd (Int32.le_trans (nI_pos' (by omega)) h1) (Int32.not_le.mpr q)
  · exact absurd (Int32.le_trans q h2) (nI_ge (by omega) (by omega))
  · have := (nI_leI (by omega) (by omega)).mp h1
    exact ⟨j - a, by omega, by rw [show a + (j - a) = j by omega]⟩
theorem t_cell_some {T : Nat → Int32} {n p : Nat} (h : p + 1 < n ∧ (97 ≤ T p ∧ T p ≤ 102) ∧ (49 ≤ T (p + 1) ∧ T (p + 1) ≤ 54)) : ∃ a b, a < 6 ∧ b < 6 ∧ T p = nI (97 + a) ∧ T (p + 1) = nI (49 + b) ∧ t_cell T n p = nI (6 * b + a) := by
  obtain ⟨a, ha, ea⟩ := t_six (a := 97) rfl rfl (by omega) h.2.1
  obtain ⟨b, hb, eb⟩ := t_six (a := 49) rfl rfl (by omega) h.2.2
  refine ⟨a, b, ha, hb, ea, eb, ?_⟩
  unfold t_cell
  rw [if_pos h, ea, eb, show (49 : Int32) = nI 49 from rfl, nI_sub (by omega), show (6 : Int32) = nI 6 from rfl, pk_mul, nI_add, show (97 : Int32) = nI 97 from rfl, nI_sub (by omega)]
  congr 1
  omega
theorem t_cell_no {T : Nat → Int32} {n p : Nat} (h : ¬ (p + 1 < n ∧ (97 ≤ T p ∧ T p ≤ 102) ∧ (49 ≤ T (p + 1) ∧ T (p + 1) ≤ 54))) : t_cell T n p = -1 := by
  unfold t_cell
  rw [if_neg h]
theorem nI_ne_m1 {k : Nat} (h : k < 2147483648) : ¬ nI k = -1 := fun q => nI_pos h (by rw [q]; decide)
/-- a cell is told by two signs of the text, or it is not told -/
theorem t_cell_is (T : Nat → Int32) (n p : Nat) : (t_cell T n p = -1) ∨ (∃ a b, a < 6 ∧ b < 6 ∧ T p = nI (97 + a) ∧ T (p + 1) = nI (49 + b) ∧ t_cell T n p = nI (6 * b + a) ∧ p + 1 < n ∧ ¬ t_cell T n p = -1) := by
  by_cases h : p + 1 < n ∧ (97 ≤ T p ∧ T p ≤ 102) ∧ (49 ≤ T (p + 1) ∧ T (p + 1) ≤ 54)
  · obtain ⟨a, b, ha, hb, ea, eb, e⟩ := t_cell_some h
    exact Or.inr ⟨a, b, ha, hb, ea, eb, e, h.1, by rw [e]; exact nI_ne_m1 (by omega)⟩
  · exact Or.inl (t_cell_no h)
theorem t_cell_lt {T : Nat → Int32} {n p : Nat} (h : ¬ t_cell T n p = -1) : ∃ c, c < 36 ∧ t_cell T n p = nI c := by
  rcases t_cell_is T n p with q | ⟨a, b, ha, hb, -, -, e, -, -⟩
  · exact absurd q h
  · exact ⟨_, by omega, e⟩
theorem zU_id (S : Nat → Int32) (j : Nat) : zU S j (S j) = S := by
  funext b
  rw [zU_at]
  by_cases h : b = j
  · rw [if_pos h, h]
  · rw [if_neg h]
theorem m_takes {u : xW} {R : Nat → Int32} {n p : Nat} {c : Int32} (hn : n ≤ 80) (hp : p ≤ 80) (h1 : R 1 = nI n) (h2 : R 2 = nI p) : d_X3_takes (xv u 17 R) c = if p < n ∧ u.1 14 p = c then (1, xv u 17 (zU R 2 (nI (p + 1)))) else (0, xv u 17 R) := by
  have e0 : xs (xv u 17 R) 17 2 (nI p + 0) = xv u 17 R := by
    rw [Int32.add_zero, xs_xv11, ← h2, zU_id]
  have e14 : ∀ j, xg (xv u 17 R) 14 j = u.1 14 j := fun j => by rw [xg_row, xv_ne _ _ (by omega)]
  rw [d_X3_takes, xg_xv', xg_xv', h1, h2]
  by_cases a : p < n
  · rw [if_neg (nI_ge a (by omega)), nI_clamp (by omega), e14, zlet_def, zlet_def, zlet_def]
    by_cases b : u.1 14 p = c
    · have e1 : ¬ (if u.1 14 p = c then (1 : Int32) else 0) = 0 := by rw [if_pos b]; decide
      rw [if_neg e1, if_pos b, if_pos ⟨a, b⟩, nI_1, xs_xv11]
    · have e1 : (if u.1 14 p = c then (1 : Int32) else 0) = 0 := by rw [if_neg b]
      rw [if_pos e1, if_neg b, if_neg (fun q => b q.2), e0]
  · rw [if_pos (nI_le (Nat.le_of_not_lt a) (by omega)), zlet_def, zlet_def, if_neg (fun q => a q.1), e0]
theorem m_takesCell {u : xW} {R : Nat → Int32} {n p : Nat} (hn : n ≤ 80) (hp : p ≤ 80) (h1 : R 1 = nI n) (h2 : R 2 = nI p) : d_X3_takesCell (xv u 17 R) = (t_cell (u.1 14) n p, if t_cell (u.1 14) n p = -1 then xv u 17 R else xv u 17 (zU R 2 (nI (p + 2)))) := by
  have e14 : ∀ j, xg (xv u 17 R) 14 j = u.1 14 j := fun j => by rw [xg_row, xv_ne _ _ (by omega)]
  rw [d_X3_takesCell, xg_xv', xg_xv', h1, h2, nI_1, nI_clamp (by omega), nI_clamp (by omega), e14, e14]
  by_cases a : p + 1 < n
  · rw [if_neg (nI_ge a (by omega))]
    by_cases b : 97 ≤ u.1 14 p ∧ u.1 14 p ≤ 102
    · rw [if_neg (fun q => (in_0 _ _ _ _).mp q b)]
      by_cases c : 49 ≤ u.1 14 (p + 1) ∧ u.1 14 (p + 1) ≤ 54
      · obtain ⟨a1, b1, ha, hb, ea, eb, e⟩ := t_cell_some (n := n) ⟨a, b, c⟩
        rw [if_neg (fun q => (in_0 _ _ _ _).mp q c), if_neg (show ¬ t_cell (u.1 14) n p = -1 by rw [e]; exact nI_ne_m1 (by omega)), zlet_def, zlet_def, xs_xv11, show nI p + 2 = nI (p + 2) from nI_add p 2]
        unfold t_cell
        rw [if_pos ⟨a, b, c⟩]
      · rw [if_pos ((in_0 _ _ _ _).mpr c), t_cell_no (fun q => c q.2.2), if_pos rfl]
    · rw [if_pos ((in_0 _ _ _ _).mpr b), t_cell_no (fun q => b q.2.1), if_pos rfl]
  · rw [if_pos (nI_le (Nat.le_of_not_lt a) (by omega)), t_cell_no (fun q => a q.1), if_pos rfl]
/-- what is read of a move's form -/
theorem m_isFormed' (u : xW) (R : Nat → Int32) {n p : Nat} (hn : n ≤ 80) (hp : p ≤ 80) (h1 : R 1 = nI n) (h2 : R 2 = nI p) : ∃ R', d_X3_isFormed (xv u 17 R) = (if t_form (u.1 14) n p = 0 then 0 else 1, xv u 17 R') ∧ (∀ j, ¬ j = 2 → ¬ j = 3 → ¬ j = 4 → R' j = R j) ∧ (∃ q, q ≤ 80 ∧ R' 2 = nI q) ∧ (t_form (u.1 14) n p = 2 → R' 2 = nI (p + 2) ∧ R' 3 = -1) ∧ (t_form (u.1 14) n p = 5 → R' 2 = nI (p + 5) ∧ R' 3 = t_cell (u.1 14) n p ∧ R' 4 = t_cell (u.1 14) n (p + 2)) := by
  rw [d_X3_isFormed, zlet_def, zlet_def, xs_xv11]
  obtain ⟨R1, hR1⟩ : ∃ R1, R1 = zU R 3 (-1) := ⟨_, rfl⟩
  have q11 : R1 1 = nI n := by rw [hR1, zU_ne _ _ (by omega)]; exact h1
  have q12 : R1 2 = nI p := by rw [hR1, zU_ne _ _ (by omega)]; exact h2
  have q13 : R1 3 = -1 := by rw [hR1, zU_eq]
  have q1 : ∀ j, ¬ j = 2 → ¬ j = 3 → ¬ j = 4 → R1 j = R j := fun j _ b _ => by rw [hR1, zU_ne _ _ (by omega)]
  rw [← hR1, m_takes hn hp q11 q12]
  by_cases A : p < n ∧ u.1 14 p = 45
  · rw [if_pos A]
    dsimp only
    rw [if_neg (show ¬ (1 : Int32) = 0 by decide), zlet_def]
    have q21 : zU R1 2 (nI (p + 1)) 1 = nI n := by rw [zU_ne _ _ (by omega)]; exact q11
    have q22 : zU R1 2 (nI (p + 1)) 2 = nI (p + 1) := zU_eq _ _ _
    rw [m_takes hn (show p + 1 ≤ 80 by omega) q21 q22]
    by_cases B : p + 1 < n ∧ u.1 14 (p + 1) = 59
    · have ef : t_form (u.1 14) n p = 2 := by unfold t_form; rw [if_pos A, if_pos B]
      rw [if_pos B, ef, if_neg (by decide)]
      refine ⟨_, rfl, fun j a b c => ?_, ⟨p + 1 + 1, by omega, zU_eq _ _ _⟩, fun _ => ⟨zU_eq _ _ _, ?_⟩, fun q => absurd q (by decide)⟩
      · rw [zU_ne _ _ a, zU_ne _ _ a]; exact q1 j a b c
      · rw [zU_ne _ _ (by omega), zU_ne _ _ (by omega)]; exact q13
    · have ef : t_form (u.1 14) n p = 0 := by unfold t_form; rw [if_pos A, if_neg B]
      rw [if_neg B, ef, if_pos rfl]
      refine ⟨_, rfl, fun j a b c => ?_, ⟨p + 1, by omega, zU_eq _ _ _⟩, fun q => absurd q (by decide), fun q => absurd q (by decide)⟩
      rw [zU_ne _ _ a]; exact q1 j a b c
  · rw [if_neg A]
    dsimp only
    rw [if_pos rfl, zlet_def, m_takesCell hn hp q11 q12]
    dsimp only
    rcases t_cell_is (u.1 14) n p with B | ⟨a1, b1, ha1, hb1, -, -, e1, hp1, B⟩
    · have ef : t_form (u.1 14) n p = 0 := by unfold t_form; rw [if_neg A, if_pos B]
      rw [if_pos B, B, zlet_def, xs_xv11, xg_xv', zU_eq, if_neg (show ¬ (0 : Int32) ≤ -1 by decide), zlet_def, xs_xv11, xg_xv', zU_eq, if_pos (by decide), ef, if_pos rfl]
      refine ⟨_, rfl, fun j a b c => ?_, ⟨p, by omega, ?_⟩, fun q => absurd q (by decide), fun q => absurd q (by decide)⟩
      · rw [zU_ne _ _ c, zU_ne _ _ b]; exact q1 j a b c
      · rw [zU_ne _ _ (by omega), zU_ne _ _ (by omega)]; exact q12
    · rw [if_neg B, zlet_def, xs_xv11, xg_xv', zU_eq, e1, if_pos (nI_pos' (by omega)), zlet_def]
      obtain ⟨R2, hR2⟩ : ∃ R2, R2 = zU (zU R1 2 (nI (p + 2))) 3 (nI (6 * b1 + a1)) := ⟨_, rfl⟩
      have r1 : R2 1 = nI n := by rw [hR2, zU_ne _ _ (by omega), zU_ne _ _ (by omega)]; exact q11
      have r2 : R2 2 = nI (p + 2) := by rw [hR2, zU_ne _ _ (by omega), zU_eq]
      have r3 : R2 3 = nI (6 * b1 + a1) := by rw [hR2, zU_eq]
      have r : ∀ j, ¬ j = 2 → ¬ j = 3 → ¬ j = 4 → R2 j = R j := fun j a b c => by rw [hR2, zU_ne _ _ b, zU_ne _ _ a]; exact q1 j a b c
      rw [← hR2, m_takesCell hn (show p + 2 ≤ 80 by omega) r1 r2]
      dsimp only
      rcases t_cell_is (u.1 14) n (p + 2) with C | ⟨a2, b2, ha2, hb2, -, -, e2, hp2, C⟩
      · have ef : t_form (u.1 14) n p = 0 := by unfold t_form; rw [if_neg A, if_neg B, if_pos C]
        rw [if_pos C, C, zlet_def, xs_xv11, xg_xv', zU_eq, if_pos (by decide), ef, if_pos rfl]
        refine ⟨_, rfl, fun j a b c => ?_, ⟨p + 2, by omega, ?_⟩, fun q => absurd q (by decide), fun q => absurd q (by decide)⟩
        · rw [zU_ne _ _ c]; exact r j a b c
        · rw [zU_ne _ _ (by omega)]; exact r2
      · rw [if_neg C, zlet_def, xs_xv11, xg_xv', zU_eq, e2, if_neg (nI_pos (by omega)), zlet_def]
        obtain ⟨R3, hR3⟩ : ∃ R3, R3 = zU (zU R2 2 (nI (p + 2 + 2))) 4 (nI (6 * b2 + a2)) := ⟨_, rfl⟩
        have s1 : R3 1 = nI n := by rw [hR3, zU_ne _ _ (by omega), zU_ne _ _ (by omega)]; exact r1
        have s2 : R3 2 = nI (p + 4) := by rw [hR3, zU_ne _ _ (by omega), zU_eq]
        have s3 : R3 3 = nI (6 * b1 + a1) := by rw [hR3, zU_ne _ _ (by omega), zU_ne _ _ (by omega)]; exact r3
        have s4 : R3 4 = nI (6 * b2 + a2) := by rw [hR3, zU_eq]
        have s : ∀ j, ¬ j = 2 → ¬ j = 3 → ¬ j = 4 → R3 j = R j := fun j a b c => by rw [hR3, zU_ne _ _ c, zU_ne _ _ a]; exact r j a b c
        rw [← hR3, m_takes hn (show p + 4 ≤ 80 by omega) s1 s2]
        by_cases D : p + 4 < n ∧ u.1 14 (p + 4) = 59
        · have ef : t_form (u.1 14) n p = 5 := by unfold t_form; rw [if_neg A, if_neg B, if_neg C, if_pos D]
          rw [if_pos D]
          dsimp only
          rw [if_neg (show ¬ (1 : Int32) = 0 by decide), ef, if_neg (by decide)]
          refine ⟨_, rfl, fun j a b c => ?_, ⟨p + 4 + 1, by omega, zU_eq _ _ _⟩, fun q => absurd q (by decide), fun _ => ⟨zU_eq _ _ _, ?_, ?_⟩⟩
          · rw [zU_ne _ _ a]; exact s j a b c
          · rw [zU_ne _ _ (by omega)]; exact s3
          · rw [zU_ne _ _ (by omega)]; exact s4
        · have ef : t_form (u.1 14) n p = 0 := by unfold t_form; rw [if_neg A, if_neg B, if_neg C, if_neg D]
          rw [if_neg D]
          dsimp only
          rw [if_pos rfl, ef, if_pos rfl]
          exact ⟨_, rfl, s, ⟨p + 4, by omega, s2⟩, fun q => absurd q (by decide), fun q => absurd q (by decide)⟩
theorem m_isFormed (u : xW) {n p : Nat} (hn : n ≤ 80) (hp : p ≤ 80) (h1 : u.1 17 1 = nI n) (h2 : u.1 17 2 = nI p) : ∃ R', d_X3_isFormed u = (if t_form (u.1 14) n p = 0 then 0 else 1, xv u 17 R') ∧ (∀ j, ¬ j = 2 → ¬ j = 3 → ¬ j = 4 → R' j = u.1 17 j) ∧ (∃ q, q ≤ 80 ∧ R' 2 = nI q) ∧ (t_form (u.1 14) n p = 2 → R' 2 = nI (p + 2) ∧ R' 3 = -1) ∧ (t_form (u.1 14) n p = 5 → R' 2 = nI (p + 5) ∧ R' 3 = t_cell (u.1 14) n p ∧ R' 4 = t_cell (u.1 14) n (p + 2)) := by
  have h := m_isFormed' u (u.1 17) hn hp h1 h2
  rw [xv_self] at h
  exact h
theorem t_form_is (T : Nat → Int32) (n p : Nat) : t_form T n p = 0 ∨ (t_form T n p = 2 ∧ p + 1 < n ∧ T p = 45 ∧ T (p + 1) = 59) ∨ (t_form T n p = 5 ∧ p + 4 < n ∧ ¬ t_cell T n p = -1 ∧ ¬ t_cell T n (p + 2) = -1 ∧ T (p + 4) = 59) := by
  unfold t_form
  by_cases A : p < n ∧ T p = 45
  · rw [if_pos A]
    by_cases B : p + 1 < n ∧ T (p + 1) = 59
    · rw [if_pos B]; exact Or.inr (Or.inl ⟨rfl, B.1, A.2, B.2⟩)
    · rw [if_neg B]; exact Or.inl rfl
  · rw [if_neg A]
    by_cases B : t_cell T n p = -1
    · rw [if_pos B]; exact Or.inl rfl
    · rw [if_neg B]
      by_cases C : t_cell T n (p + 2) = -1
      · rw [if_pos C]; exact Or.inl rfl
      · rw [if_neg C]
        by_cases D : p + 4 < n ∧ T (p + 4) = 59
        · rw [if_pos D]; exact Or.inr (Or.inr ⟨rfl, D.1, B, C, D.2⟩)
        · rw [if_neg D]; exact Or.inl rfl
theorem t_form_0 {T : Nat → Int32} {n p : Nat} (h : ¬ (if t_form T n p = 0 then (0 : Int32) else 1) = 0) : ¬ t_form T n p = 0 := fun q => h (by rw [if_pos q])
/-- a formed move is a pass, or it has its two cells -/
theorem formed_c {w : xW} {p : Int32 × xW} (e : p = d_X3_isFormed w) (h : ztx w) (c : ¬ p.1 = 0) : zdo p.2 := by
  obtain ⟨⟨n, hn, e1⟩, ⟨s, hs, e2⟩⟩ := h
  obtain ⟨R', eq, h1, h2, h3, h4⟩ := m_isFormed w hn hs e1 e2
  rw [e, eq] at c ⊢
  dsimp only at c ⊢
  unfold zdo
  rw [xg_xv', xg_xv']
  rcases t_form_is (w.1 14) n s with q | ⟨q, -⟩ | ⟨q, -, a, b, -⟩
  · exact absurd q (t_form_0 c)
  · rw [(h3 q).2]; exact Or.inl (by decide)
  · obtain ⟨f, hf, ef⟩ := t_cell_lt a
    obtain ⟨t, ht, et⟩ := t_cell_lt b
    exact Or.inr ⟨f, t, hf, ht, (h4 q).2.1.trans ef, (h4 q).2.2.trans et⟩
theorem formed_x {w : xW} {p : Int32 × xW} (e : p = d_X3_isFormed w) (h : ztx w) : ztx p.2 := by
  obtain ⟨⟨n, hn, e1⟩, ⟨s, hs, e2⟩⟩ := h
  obtain ⟨R', eq, h1, h2, h3, h4⟩ := m_isFormed w hn hs e1 e2
  rw [e, eq]
  unfold ztx
  dsimp only
  rw [xg_xv', xg_xv']
  exact ⟨⟨n, hn, (h1 1 (by omega) (by omega) (by omega)).trans e1⟩, h2⟩
/-- what the model does with what was read -/
theorem m_does_p {u : xW} (h : u.1 17 3 = -1) : d_X3_does u = (s_refusesPass (u.1 11), if s_refusesPass (u.1 11) = 0 then xv u 11 (s_passes (u.1 11)) else u) := by
  have hn : ¬ (0 : Int32) ≤ u.1 17 3 := by rw [h]; decide
  rw [d_X3_does, xg_row, zlet_def, if_neg hn, m_refusesPass]
  by_cases r : s_refusesPass (u.1 11) = 0
  · rw [if_pos r, if_neg hn, if_pos r, zlet_def, m_passes]
  · rw [if_neg r, if_neg r, if_neg r]
theorem m_does_m {u : xW} {f t : Nat} (hf : f < 36) (ht : t < 36) (h3 : u.1 17 3 = nI f) (h4 : u.1 17 4 = nI t) : d_X3_does u = (s_refuses (u.1 11) f t, if s_refuses (u.1 11) f t = 0 then xv u 11 (s_makes (u.1 11) f t) else u) := by
  have hp : (0 : Int32) ≤ u.1 17 3 := by rw [h3]; exact nI_pos' (by omega)
  rw [d_X3_does, xg_row, xg_row, zlet_def, if_pos hp, zlet_def, zlet_def, h3, h4, nI_clamp (by omega), nI_clamp (by omega), m_refuses]
  by_cases r : s_refuses (u.1 11) f t = 0
  · rw [if_pos r, if_pos (nI_pos' (by omega)), if_pos r, zlet_def, zlet_def, zlet_def, m_makes, if_pos r]
  · rw [if_neg r, if_neg r, if_neg r]
theorem m_does_17 {u : xW} (h : zdo u) : ∃ S, (d_X3_does u).2 = xv u 11 S := by
  by_cases h3 : xg u 17 3 < 0
  · have hn : ¬ (0 : Int32) ≤ u.1 17 3 := Int32.not_le.mpr h3
    rw [d_X3_does, xg_row, zlet_def, if_neg hn, m_refusesPass]
    by_cases r : s_refusesPass (u.1 11) = 0
    · rw [if_pos r, if_neg hn, zlet_def, m_passes]; exact ⟨_, rfl⟩
    · rw [if_neg r, if_neg r]; exact ⟨u.1 11, (xv_self u 11).symm⟩
  · rcases h with h | ⟨f, t, hf, ht, e3, e4⟩
    · exact absurd h h3
    · rw [m_does_m hf ht e3 e4]
      by_cases r : s_refuses (u.1 11) f t = 0
      · rw [if_pos r]; exact ⟨_, rfl⟩
      · rw [if_neg r]; exact ⟨u.1 11, (xv_self u 11).symm⟩
/-! a text's moves one behind the other -/
def t_why (T : Nat → Int32) (n : Nat) (S : Nat → Int32) (p : Nat) : Int32 := if t_form T n p = 5 then s_refuses S (t_cell T n p).toNatClampNeg (t_cell T n (p + 2)).toNatClampNeg else if t_form T n p = 2 then s_refusesPass S else 1
def t_then (T : Nat → Int32) (n : Nat) (S : Nat → Int32) (p : Nat) : Nat → Int32 := if t_form T n p = 5 then s_makes S (t_cell T n p).toNatClampNeg (t_cell T n (p + 2)).toNatClampNeg else s_passes S
/-- the reason of the fault (0: none), its place, the row then, how many moves were read -/
def t_run (T : Nat → Int32) (n : Nat) : Nat → Nat → (Nat → Int32) → Int32 × Nat × (Nat → Int32) × Nat
  | 0, p, S => (0, p, S, 0)
  | m + 1, p, S => if n ≤ p then (0, p, S, 0) else if t_why T n S p = 0 then ((t_run T n m (p + t_form T n p) (t_then T n S p)).1, (t_run T n m (p + t_form T n p) (t_then T n S p)).2.1, (t_run T n m (p + t_form T n p) (t_then T n S p)).2.2.1, (t_run T n m (p + t_form T n p) (t_then T n S p)).2.2.2 + 1) else (t_why T n S p, p, S, 1)
theorem t_run_end {T : Nat → Int32} {n m p : Nat} {S : Nat → Int32} (h : n ≤ p) : t_run T n (m + 1) p S = (0, p, S, 0) := by rw [t_run, if_pos h]
theorem t_run_bad {T : Nat → Int32} {n m p : Nat} {S : Nat → Int32} (h : p < n) (h2 : ¬ t_why T n S p = 0) : t_run T n (m + 1) p S = (t_why T n S p, p, S, 1) := by rw [t_run, if_neg (Nat.not_le.mpr h), if_neg h2]
theorem t_run_go {T : Nat → Int32} {n m p : Nat} {S : Nat → Int32} (h : p < n) (h2 : t_why T n S p = 0) : t_run T n (m + 1) p S = ((t_run T n m (p + t_form T n p) (t_then T n S p)).1, (t_run T n m (p + t_form T n p) (t_then T n S p)).2.1, (t_run T n m (p + t_form T n p) (t_then T n S p)).2.2.1, (t_run T n m (p + t_form T n p) (t_then T n S p)).2.2.2 + 1) := by rw [t_run, if_neg (Nat.not_le.mpr h), if_pos h2]
theorem t_cell_congr {T T' : Nat → Int32} {n : Nat} (h : ∀ j, j < n → T j = T' j) (p : Nat) : t_cell T n p = t_cell T' n p := by
  by_cases a : p + 1 < n
  · unfold t_cell
    rw [h p (by omega), h (p + 1) a]
  · rw [t_cell_no (fun q => a q.1), t_cell_no (fun q => a q.1)]
theorem t_form_congr {T T' : Nat → Int32} {n : Nat} (h : ∀ j, j < n → T j = T' j) (p : Nat) : t_form T n p = t_form T' n p := by
  have e : ∀ (j : Nat) (c : Int32), (j < n ∧ T j = c) ↔ (j < n ∧ T' j = c) := fun j c => ⟨fun q => ⟨q.1, by rw [← h j q.1]; exact q.2⟩, fun q => ⟨q.1, by rw [h j q.1]; exact q.2⟩⟩
  unfold t_form
  rw [t_cell_congr h p, t_cell_congr h (p + 2)]
  simp only [e]
theorem xv_comm (w : xW) {a b : Nat} (h : ¬ a = b) (S T : Nat → Int32) : xv (xv w a S) b T = xv (xv w b T) a S := by
  refine Prod.ext ?_ rfl
  funext x y
  show (if x = b then T y else (if x = a then S y else w.1 x y)) = if x = a then S y else (if x = b then T y else w.1 x y)
  by_cases ha : x = a
  · rw [if_pos ha, if_neg (fun q => h (ha.symm.trans q)), if_pos ha]
  · rw [if_neg ha, if_neg ha]
