/-! the public calls: what they answer and what they leave -/
def zAI (A : xA) : Prop := zInv (aS A) ∧ (∀ i, i < ak A → zInv (aH A i)) ∧ an A ≤ 80 ∧ (∀ j, j < an A → 32 ≤ aT A j ∧ aT A j ≤ 126)
def zSim (w : xW) (A : xA) : Prop := zCR w A ∧ zMR w A ∧ zAI A
/-- what the model's methods ask of their world -/
def zPre (w : xW) : Prop := (∃ p, p ≤ 5 ∧ xg w 17 0 = nI p) ∧ (∃ n, n ≤ 80 ∧ xg w 17 1 = nI n)
theorem zPre_of {w u : xW} {A : xA} (h : zSim w A) (f : zFM w u) : zPre u := by
  unfold zPre
  rw [xg_row, xg_row, f 17 (by omega)]
  exact ⟨⟨ak A, h.1.1, h.2.1.2.1⟩, ⟨an A, h.2.2.2.2.1, h.2.1.2.2.1⟩⟩
/-- class and model answer alike and leave like states -/
def zLike (c : Int32 × xW) (m : xW → Int32 × xW) : Prop := c.1 = (m c.2).1 ∧ (∃ B, zSim (m c.2).2 B) ∧ zPre c.2
theorem like_mk {w u : xW} {A B : xA} {r : Int32} {m : xW → Int32 × xW} (h : zSim w A) (hc : zCR u B) (hf : zFM w u) (hB : zAI B) (hm : ∀ u, zMR u A → (m u).1 = r ∧ zMR (m u).2 B ∧ zFC u (m u).2) : zLike (r, u) m := by
  have q := hm u (zMR_of h.2.1 hf)
  exact ⟨q.1.symm, ⟨B, zCR_of hc q.2.2, q.2.1, hB⟩, zPre_of h hf⟩
theorem like_no {w : xW} {A : xA} {r : Int32} {m : xW → Int32 × xW} (h : zSim w A) (hm : m w = (r, w)) : zLike (r, w) m := by
  refine ⟨by rw [hm], ⟨A, ?_⟩, zPre_of h (fun _ _ => rfl)⟩
  rw [hm]; exact h
theorem aS_rec (A : xA) : aS (a_rec A) = aS A := by
  unfold a_rec
  by_cases h : ak A < 5
  · rw [if_pos h]; rfl
  · rw [if_neg h]; rfl
theorem zAI_rec {A : xA} (h : zAI A) (hk : ak A ≤ 5) : zAI (a_rec A) := by
  refine ⟨by rw [aS_rec]; exact h.1, ?_, ?_, ?_⟩
  · unfold a_rec
    by_cases h5 : ak A < 5
    · rw [if_pos h5]
      intro i hi
      have hi' : i < ak A + 1 := hi
      show zInv (if i = ak A then aS A else aH A i)
      by_cases e : i = ak A
      · rw [if_pos e]; exact h.1
      · rw [if_neg e]; exact h.2.1 i (by omega)
    · rw [if_neg h5]
      intro i hi
      have hi' : i < 4 + 1 := hi
      show zInv (if i = 4 then aS A else aH A (i + 1))
      by_cases e : i = 4
      · rw [if_pos e]; exact h.1
      · rw [if_neg e]; exact h.2.1 (i + 1) (by omega)
  · unfold a_rec
    by_cases h5 : ak A < 5
    · rw [if_pos h5]; exact h.2.2.1
    · rw [if_neg h5]; exact h.2.2.1
  · unfold a_rec
    by_cases h5 : ak A < 5
    · rw [if_pos h5]; exact h.2.2.2
    · rw [if_neg h5]; exact h.2.2.2
theorem zAI_set {A : xA} (h : zAI A) {S : Nat → Int32} (hS : zInv S) : zAI (a_set A S) := ⟨hS, h.2.1, h.2.2.1, h.2.2.2⟩
/-- after keeping the state, a new row on both sides -/
theorem like_rec {w : xW} {A : xA} (h : zSim w A) {S : Nat → Int32} (hS : zInv S) {r : Int32} {m : xW → Int32 × xW} (hm : ∀ u, u.1 11 = aS A → (∃ p, p ≤ 5 ∧ u.1 17 0 = nI p) → m u = (r, xv (d_X3_records u) 11 S)) : zLike (r, xv (d_X2_record w) 0 S) m := by
  have c := C_rec h.1
  refine like_mk h (zCR_set c.1 hS.1) (zFM_tr c.2 (zFM_xv _ (by omega) _)) (zAI_set (zAI_rec h.2.2 h.1.1) hS) (fun u hu => ?_)
  rw [hm u hu.1 ⟨ak A, h.1.1, hu.2.1⟩]
  have d := M_rec hu h.1.1
  exact ⟨rfl, zMR_set d.1 S, zFC_tr d.2 (zFC_xv _ (by omega) _)⟩
theorem rec_0 {w : xW} {A : xA} (h : zCR w A) : (d_X2_record w).1 0 = aS A := by
  rw [(C_rec h).1.2.1, aS_rec]
theorem rec_11 {w : xW} {A : xA} (h : zMR w A) (hk : ak A ≤ 5) : (d_X3_records w).1 11 = aS A := by
  rw [(M_rec h hk).1.1, aS_rec]
/-- the model keeps the game's row when it keeps the state -/
theorem m_rec_11 (w : xW) (h : ∃ p, p ≤ 5 ∧ w.1 17 0 = nI p) : (d_X3_records w).1 11 = w.1 11 := by
  obtain ⟨p, hp, hw⟩ := h
  rw [d_X3_records]
  have key : ∀ u : xW, ∀ q, q ≤ 5 → u.1 17 0 = nI q → (d_X3_records_51 d_X3_records_51k 160 0 u).1 11 = u.1 11 := by
    intro u q hq hu
    rw [m_rec51 d_X3_records_51k 160 159 0 u q hu hq (by omega) (by omega), d_X3_records_51k, zlet_def, xs_xv, xv_ne _ _ (by omega), xv_ne _ _ (by omega)]
  by_cases h5 : p = 5
  · rw [if_pos (by rw [xg_row, hw, h5]; rfl), m_rec10 d_X3_records_10k 637 636 0 w (by omega) (by omega), d_X3_records_10k, zlet_def, zlet_def]
    rw [key _ 4 (by omega) (by rw [xs_xv, xv_row, zU_eq, xg_row, xv_ne _ _ (by omega), hw, h5]; decide), xs_xv, xv_ne _ _ (by omega), xv_ne _ _ (by omega)]
  · rw [if_neg (by rw [xg_row, hw]; exact fun q => h5 ((nI_lt5 hp).2.2.2.2.2.1.mp q)), zlet_def]
    exact key w p hp hw
theorem P_setUp {w : xW} {A : xA} (h : zSim w A) : zLike (d_X2_setUp w) d_X3_setUp := by
  have hi : zInv (s_begins (aS A)) := inv_begins h.2.2.1.1.2.1 h.2.2.1.2.2.2.2.2.2.2.2.1 h.2.2.1.2.2.2.2.2.2.2.2.2.1 h.2.2.1.2.2.2.2.2.2.2.2.2.2
  have e : d_X2_setUp w = (s_allSprings (s_begins (aS A)), xv (d_X2_record w) 0 (s_begins (aS A))) := by
    rw [d_X2_setUp, zlet_def, zlet_def, k_begin _ 0 (by rw [rec_0 h.1]; exact h.2.2.1.1.1), k_springsInAll, xv_row, rec_0 h.1]
  rw [e]
  refine like_rec h hi (fun u hu hp => ?_)
  rw [d_X3_setUp, zlet_def, zlet_def, m_begins, m_allSprings, xv_row, m_rec_11 u hp, hu]
theorem is_cell (c : Int32) : s_isCell c = 0 ∨ (s_isCell c = 1 ∧ ∃ k, k < 36 ∧ c = nI k) := by
  unfold s_isCell s_in
  by_cases a : c < 0
  · rw [if_pos a]; exact Or.inl rfl
  · rw [if_neg a]
    by_cases b : 35 < c
    · rw [if_pos b]; exact Or.inl rfl
    · rw [if_neg b]
      obtain ⟨k, hk, e⟩ := nI_of2 (n := 35) (M := 35) (by decide) a (Int32.not_lt.mp b)
      exact Or.inr ⟨rfl, k, by omega, e⟩
theorem k_isCell (w : xW) (c : Int32) : d_X2_isCell w c = s_isCell c := by
  rw [d_X2_isCell]
  unfold s_isCell s_in
  by_cases a : c < 0
  · rw [if_pos a, if_pos a]
  · rw [if_neg a, if_neg a]
    have e : (36 ≤ c) ↔ (35 < c) := by
      obtain ⟨j, hj, rfl⟩ := nI_of a
      have h1 : (36 : Int32) ≤ nI j ↔ 36 ≤ j := nI_leI (a := 36) (by omega) (by omega)
      have h2 : (35 : Int32) < nI j ↔ 35 < j := nI_ltI (a := 35) (by omega) (by omega)
      rw [h1, h2]; omega
    by_cases b : 35 < c
    · rw [if_pos b, if_pos (e.mpr b)]
    · rw [if_neg b, if_neg (fun q => b (e.mp q))]
theorem P_move {w : xW} {A : xA} (h : zSim w A) (x y : Int32) : zLike (d_X2_move w x y) (fun u => d_X3_move u x y) := by
  have hI := h.2.2.1
  have hs := hI.2.1
  have m11 := h.2.1.1
  have c0 := h.1.2.1
  rw [d_X2_move, k_isCell, k_isCell]
  rcases is_cell x with ex | ⟨ex, f, hf, rfl⟩
  · rw [if_pos ex]
    exact like_no h (by show d_X3_move w x y = _; rw [d_X3_move, m_isCell, if_pos ex])
  · rw [if_neg (by rw [ex]; decide)]
    rcases is_cell y with ey | ⟨ey, t, ht, rfl⟩
    · rw [if_pos ey]
      exact like_no h (by show d_X3_move w _ y = _; rw [d_X3_move, m_isCell, m_isCell, if_neg (by rw [ex]; decide), if_pos ey])
    · rw [if_neg (by rw [ey]; decide), zlet_def, zlet_def, nI_clamp (by omega), nI_clamp (by omega)]
      rw [k_reasonAgainst w 0 hf ht (by rw [c0]; exact hs) (by rw [c0]; exact hI.2.2.2.2.2.2.1), c0]
      by_cases hr : s_refuses (aS A) f t = 0
      · rw [if_pos hr, zlet_def, zlet_def]
        have hh : aS A f = aS A 144 ∧ ¬ aS A t = aS A 144 ∧ 0 ≤ s_costOf (aS A) f t ∧ s_costOf (aS A) f t ≤ aS A (72 + f) ∧ ¬ aS A f = -1 := by
          unfold s_refuses at hr
          by_cases a1 : aS A 145 ≤ 0
          · rw [if_pos a1] at hr
            by_cases a2 : aS A f = -1
            · rw [if_pos a2] at hr; exact absurd hr (by decide)
            · rw [if_neg a2] at hr
              by_cases a3 : aS A f = aS A 144
              · rw [if_pos a3] at hr
                by_cases a4 : aS A t = aS A 144
                · rw [if_pos a4] at hr; exact absurd hr (by decide)
                · rw [if_neg a4] at hr
                  by_cases a5 : 0 ≤ s_costOf (aS A) f t
                  · rw [if_pos a5] at hr
                    refine ⟨a3, a4, a5, ?_, a2⟩
                    rw [s_canGo, zlet_def, if_neg (Int32.not_lt.mpr a5)] at hr
                    by_cases a6 : aS A (72 + f) < s_costOf (aS A) f t
                    · rw [if_pos a6, if_pos rfl] at hr; exact absurd hr (by decide)
                    · exact Int32.not_lt.mp a6
                  · rw [if_neg a5] at hr; exact absurd hr (by decide)
              · rw [if_neg a3] at hr; exact absurd hr (by decide)
          · rw [if_neg a1] at hr; exact absurd hr (by decide)
        have r0 := rec_0 h.1
        rw [k_makeMove _ 0 hf ht (by rw [r0]; exact hs) (by rw [r0]; exact hh.1) (by rw [r0]; exact (hs f hf).resolve_left hh.2.2.2.2) (by rw [r0]; exact Int32.not_lt.mpr hh.2.2.1) (fun e => hh.2.1 (by rw [← e]; exact hh.1)), r0]
        dsimp only
        refine like_rec h (inv_makes hI hf ht (Int32.not_lt.mpr hh.2.2.1) hh.2.2.2.1) (fun u hu hp => ?_)
        rw [d_X3_move, m_isCell, m_isCell, if_neg (by rw [ex]; decide), if_neg (by rw [ey]; decide), zlet_def, zlet_def, nI_clamp (by omega), nI_clamp (by omega), m_refuses, hu, if_pos hr, zlet_def, zlet_def, zlet_def, m_costOf, m_makes, m_rec_11 u hp, hu]
      · rw [if_neg hr]
        refine like_no h ?_
        show d_X3_move w (nI f) (nI t) = _
        rw [d_X3_move, m_isCell, m_isCell, if_neg (by rw [ex]; decide), if_neg (by rw [ey]; decide), zlet_def, zlet_def, nI_clamp (by omega), nI_clamp (by omega), m_refuses, m11, if_neg hr]
theorem P_pass {w : xW} {A : xA} (h : zSim w A) : zLike (d_X2_pass w) d_X3_pass := by
  have hI := h.2.2.1
  have m11 := h.2.1.1
  have c0 := h.1.2.1
  rw [d_X2_pass, k_reasonAgainstPass w 0 (by rw [c0]; exact hI.2.1) (by rw [c0]; exact hI.2.2.2.2.2.2.1) (by rw [c0]; exact hI.2.2.2.2.2.1), c0]
  by_cases hr : s_refusesPass (aS A) = 0
  · have h145 : aS A 145 = 0 := by
      unfold s_refusesPass at hr
      by_cases a1 : aS A 145 ≤ 0
      · rcases hI.2.2.2.2.2.2.1 with e | e | e
        · exact e
        · rw [e] at a1; exact absurd a1 (by decide)
        · rw [e] at a1; exact absurd a1 (by decide)
      · rw [if_neg a1] at hr; exact absurd hr (by decide)
    have r0 := rec_0 h.1
    have hN := inv_passes hI
    rw [if_pos hr, zlet_def, zlet_def, k_makePass _ 0 (by rw [r0]; exact hI.1.2.2) (by rw [r0]; exact hI.2.2.2.2.2.2.2.1 h145), r0, k_isOver, xv_row]
    have e : (if (if s_passes (aS A) 145 = 0 then (0 : Int32) else 1) = 0 then ((0 : Int32), xv (d_X2_record w) 0 (s_passes (aS A))) else (1, xv (d_X2_record w) 0 (s_passes (aS A)))) = ((if s_passes (aS A) 145 ≤ 0 then 0 else 1), xv (d_X2_record w) 0 (s_passes (aS A))) := by
      rcases hN.2.2.2.2.2.2.1 with e | e | e <;> rw [e] <;> rfl
    rw [e]
    refine like_rec h hN (fun u hu hp => ?_)
    rw [d_X3_pass, m_refusesPass, hu, if_pos hr, zlet_def, zlet_def, m_passes, m_rec_11 u hp, hu, xg_xv']
    by_cases a : s_passes (aS A) 145 ≤ 0
    · rw [if_pos a, if_pos a]
    · rw [if_neg a, if_neg a]
  · rw [if_neg hr]
    refine like_no h ?_
    rw [d_X3_pass, m_refusesPass, m11, if_neg hr]
