theorem k_isSide (w : xW) (s : Int32) : d_X2_isSide w s = s_isSide s := by
  rw [d_X2_isSide]
  unfold s_isSide
  by_cases h0 : s = 0
  · rw [if_pos h0, h0]; rfl
  · rw [if_neg h0]
    by_cases h1 : s = 1
    · rw [if_pos h1, h1]; rfl
    · rw [if_neg h1]
      rcases in_of (v := s) (a := 0) (b := 1) (by omega) with h | ⟨h, q⟩
      · exact h.symm
      · obtain ⟨k, k1, k2, e⟩ := q (by decide) (by omega)
        have : k = 0 ∨ k = 1 := by omega
        rcases this with r | r
        · exact absurd (by rw [e, r]; rfl) h0
        · exact absurd (by rw [e, r]; rfl) h1
theorem isSide_of {s : Int32} (h : ¬ s_isSide s = 0) : s = 0 ∨ s = 1 := by
  unfold s_isSide at h
  rcases in_of (v := s) (a := 0) (b := 1) (by omega) with q | ⟨q, r⟩
  · exact absurd q h
  · obtain ⟨k, k1, k2, e⟩ := r (by decide) (by omega)
    have : k = 0 ∨ k = 1 := by omega
    rcases this with z | z
    · exact Or.inl (by rw [e, z]; rfl)
    · exact Or.inr (by rw [e, z]; rfl)
theorem m_tower_eq (u : xW) {S : Nat → Int32} (hu : u.1 11 = S) (hp : ∃ p, p ≤ 5 ∧ u.1 17 0 = nI p) {c : Nat} (hc : c < 36) (hcell : ¬ s_isCell (nI c) = 0) (h6 : ¬ (S (108 + c) = 0 ∧ s_towers S = 6)) : d_X3_tower u (nI c) = (s_towers (zU S (108 + c) (1 - S (108 + c))), xv (d_X3_records u) 11 (zU S (108 + c) (1 - S (108 + c)))) := by
  have e : (zlet (d_X3_records u) fun w6 => zlet (xs w6 11 (108 + c) (1 - (xg w6 11 (108 + c)))) fun w7 => ((d_X3_towers w7), w7)) = (s_towers (zU S (108 + c) (1 - S (108 + c))), xv (d_X3_records u) 11 (zU S (108 + c) (1 - S (108 + c)))) := by
    rw [zlet_def, zlet_def, m_towers, xs_xv, xv_row, xg_row, m_rec_11 u hp, hu]
  rw [d_X3_tower, m_isCell, if_neg hcell, zlet_def, nI_clamp (by omega), xg_row, hu, m_towers, hu]
  by_cases a : S (108 + c) = 0
  · rw [if_pos a, if_neg (fun z => h6 ⟨a, z⟩)]; exact e
  · rw [if_neg a]; exact e
theorem P_tower {w : xW} {A : xA} (h : zSim w A) (cell : Int32) : zLike (d_X2_tower w cell) (fun u => d_X3_tower u cell) := by
  have hI := h.2.2.1
  have r0 := rec_0 h.1
  have m11 := h.2.1.1
  have c0 := h.1.2.1
  rw [d_X2_tower, k_isCell]
  rcases is_cell cell with ex | ⟨ex, c, hc, rfl⟩
  · rw [if_pos ex]
    exact like_no h (by show d_X3_tower w cell = _; rw [d_X3_tower, m_isCell, if_pos ex])
  · have hx : ¬ s_isCell (nI c) = 0 := by rw [ex]; decide
    rw [if_neg hx, zlet_def, nI_clamp (by omega), k_isTower _ 0 hc, k_towers, c0]
    have e : (zlet (d_X2_record w) fun w8 => if (d_X0_isTower w8 0 c) = 0 then (zlet (d_X0_markTower w8 0 c 1) fun w11 => ((d_X0_towersInAll w11 0), w11)) else (zlet (d_X0_markTower w8 0 c 0) fun w10 => ((d_X0_towersInAll w10 0), w10))) = (s_towers (zU (aS A) (108 + c) (1 - aS A (108 + c))), xv (d_X2_record w) 0 (zU (aS A) (108 + c) (1 - aS A (108 + c)))) := by
      rw [zlet_def, k_isTower _ 0 hc, r0]
      rcases hI.2.2.2.1 c hc with z | z
      · rw [if_neg (show ¬ aS A (108 + c) = 1 by rw [z]; decide), if_pos rfl, zlet_def, k_markTower _ 0 hc, k_towers, xv_row, r0, z]; rfl
      · rw [if_pos z, if_neg (by decide), zlet_def, k_markTower _ 0 hc, k_towers, xv_row, r0, z]; rfl
    rcases hI.2.2.2.1 c hc with z | z
    · rw [if_neg (show ¬ aS A (108 + c) = 1 by rw [z]; decide), if_pos rfl]
      obtain ⟨n, hn, hs⟩ := hI.2.2.2.2.1
      by_cases h6 : n = 6
      · rw [if_neg (show ¬ s_towers (aS A) < 6 by rw [hs, h6]; decide)]
        exact like_no h (by show d_X3_tower w _ = _; rw [d_X3_tower, m_isCell, if_neg hx, zlet_def, nI_clamp (by omega), xg_row, m11, if_pos z, m_towers, m11, if_pos (by rw [hs, h6]; rfl)])
      · have h6' : ¬ s_towers (aS A) = 6 := by
          rw [hs]; exact fun q => h6 ((nI_eq (a := n) (b := 6) (by omega) (by omega)).mp q)
        rw [if_pos (show s_towers (aS A) < 6 by rw [hs]; exact nI_lt (a := n) (b := 6) (by omega) (by omega)), e]
        exact like_rec h (inv_tower hI hc (Or.inr h6')) (fun u hu hp => m_tower_eq u hu hp hc hx (fun q => h6' q.2))
    · rw [if_pos z, if_neg (by decide), e]
      exact like_rec h (inv_tower hI hc (Or.inl z)) (fun u hu hp => m_tower_eq u hu hp hc hx (fun q => by rw [z] at q; exact absurd q.1 (by decide)))
theorem m_undo_go (kt : Nat → xW → Int32 × xW) : ∀ (n j k : Nat) (w : xW) (m : Nat), w.1 17 0 = nI m → m ≤ 5 → k + j = 159 → j < n → d_X3_undo_22 kt n k w = kt 159 (xv w 11 (fun b => if k ≤ b ∧ b < 159 then w.1 12 (159 * m + b) else w.1 11 b)) := by
  intro n
  induction n with
  | zero => intro j k w m h0 h1 h2 h3; omega
  | succ n ih =>
    intro j k w m h0 h1 h2 h3
    rw [d_X3_undo_22]
    by_cases hk : 159 ≤ k
    · rw [if_pos hk, show k = 159 by omega]
      congr 1
      conv => lhs; rw [← xv_self w 11]
      congr 1
      funext b
      rw [if_neg (by omega)]
    · rw [if_neg hk, zlet_def, zlet_def, show xg w 17 0 = nI m from h0, (nI_lt5 h1).2.2.2.2.2.2.2, xs_xv]
      rw [ih (j - 1) (k + 1) _ m (by rw [xv_ne _ _ (by omega)]; exact h0) h1 (by omega) (by omega), xv_xv, xv_ne _ _ (by omega : ¬ 12 = 11), xv_row]
      congr 2
      funext b
      by_cases hb : k + 1 ≤ b ∧ b < 159
      · rw [if_pos hb, if_pos ⟨by omega, hb.2⟩]
      · rw [if_neg hb, zU_at]
        by_cases hb2 : b = k
        · rw [if_pos hb2, if_pos ⟨by omega, by omega⟩, hb2, xg_row]
        · rw [if_neg hb2, if_neg (by omega)]
theorem P_undo {w : xW} {A : xA} (h : zSim w A) : zLike (d_X2_undo w) d_X3_undo := by
  have hI := h.2.2.1
  have m11 := h.2.1.1
  have c0 := h.1.2.1
  have c10 := h.1.2.2.1
  have m17 := h.2.1.2.1
  have n := nI_lt5 h.1.1
  rw [d_X2_undo, xg_row, c10]
  by_cases hk : ak A = 0
  · rw [if_pos (show nI (ak A) - 1 < 0 by rw [hk]; decide)]
    exact like_no h (by rw [d_X3_undo, xg_row, m17, if_pos (n.2.2.2.2.1.mpr hk)])
  · obtain ⟨k, ek⟩ : ∃ k, ak A = k + 1 := ⟨ak A - 1, by omega⟩
    have hk5 : k < 5 := by have := h.1.1; omega
    have hkk : k < ak A := by omega
    obtain ⟨_, _, _, b, c, d, e, f, g, pr⟩ := h.1
    have nk := nI_lt5 (k := k) (by omega)
    rw [ek, nI_pred, if_neg nk.2.1, if_neg (fun q => by have := nk.2.2.1.mp q; omega), nk.2.2.2.2.2.2.2, zlet_def, zlet_def, xs_xv]
    have hge := c k hk5
    have hlt := zpg_lt w k
    have hz : zRw ((xv w 10 (zU (w.1 10) 0 (nI k))).1 (zpg w k)) := by
      rw [xv_ne _ _ (by omega)]; exact f _ hlt
    have hz0 : zRw ((xv w 10 (zU (w.1 10) 0 (nI k))).1 0) := by
      rw [xv_ne _ _ (by omega)]; exact f _ (by omega)
    rw [k_copyFrom _ (by omega) hz0 hz, xv_ne w _ (show ¬ zpg w k = 10 by omega), e k hkk, xg_row, xv_ne _ _ (by omega), xv_row, zU_eq]
    refine like_mk (B := (aH A k, aH A, k, aT A, an A)) h ?_ (zFM_tr (zFM_xv w (by omega) _) (zFM_xv _ (by omega) _)) ⟨h.2.2.2.1 k hkk, fun i hi => h.2.2.2.1 i (by have : i < k := hi; omega), h.2.2.2.2.1, h.2.2.2.2.2⟩ (fun u hu => ?_)
    · refine ⟨show k ≤ 5 by omega, xv_row _ _ _, ?_, ?_, c, d, ?_, ?_, ?_, pr⟩
      · rw [xv_ne _ _ (by omega), xv_row, zU_eq]; rfl
      · rw [xv_ne _ _ (by omega), xv_row, zU_ne _ _ (by omega)]; exact b
      · intro i hi
        have hi' : i < k := hi
        have := c i (by omega)
        have := zpg_lt w i
        rw [zpg_xv, zpg_xv, xv_ne _ _ (by omega), xv_ne _ _ (by omega)]
        exact e i (by omega)
      · intro q hq
        by_cases z : q = 0
        · rw [z, xv_row]; exact (h.2.2.2.1 k hkk).1
        · rw [xv_ne _ _ z, xv_ne _ _ (by omega)]; exact f q hq
      · intro j hj
        rw [xv_ne _ _ (by omega), xv_ne _ _ (by omega)]
        exact g j hj
    · obtain ⟨a', b', c', d', e'⟩ := hu
      rw [ek] at b'
      rw [d_X3_undo, xg_row, b', if_neg (show ¬ nI (k + 1) = 0 from nI_ne0 (by omega) (by omega)), zlet_def, nI_pred, xs_xv]
      rw [m_undo_go _ 160 159 0 _ k (by rw [xv_row, zU_eq]) (by omega) (by omega) (by omega), d_X3_undo_22k, xv_ne _ _ (by omega : ¬ 12 = 17), xv_ne _ _ (by omega : ¬ 11 = 17)]
      have er : (fun b => if 0 ≤ b ∧ b < 159 then u.1 12 (159 * k + b) else u.1 11 b) = aH A k := by
        funext b
        by_cases hb : b < 159
        · rw [if_pos ⟨Nat.zero_le _, hb⟩]; exact d' k hkk b hb
        · rw [if_neg (fun q => hb q.2), a', hI.1.2.1 b (by omega), (h.2.2.2.1 k hkk).1.2.1 b (by omega)]
      rw [er]
      refine ⟨?_, ⟨xv_row _ _ _, ?_, ?_, ?_, ?_⟩, zFC_tr (zFC_xv u (by omega) _) (zFC_xv _ (by omega) _)⟩
      · rw [xg_row, xv_ne _ _ (by omega), xv_row, zU_eq]
      · rw [xv_ne _ _ (by omega), xv_row, zU_eq]; rfl
      · rw [xv_ne _ _ (by omega), xv_row, zU_ne _ _ (by omega)]; exact c'
      · intro i hi j hj
        have hi' : i < k := hi
        rw [xv_ne _ _ (by omega), xv_ne _ _ (by omega)]
        exact d' i (by omega) j hj
      · intro j hj
        rw [xv_ne _ _ (by omega), xv_ne _ _ (by omega)]
        exact e' j hj
theorem P_refusal {w : xW} {A : xA} (h : zSim w A) (x y : Int32) : d_X2_refusal w x y = d_X3_refusal w x y := by
  have hI := h.2.2.1
  have m11 := h.2.1.1
  have c0 := h.1.2.1
  rw [d_X2_refusal, d_X3_refusal, k_isCell, k_isCell, m_isCell, m_isCell]
  rcases is_cell x with ex | ⟨ex, f, hf, rfl⟩
  · rw [if_pos ex, if_pos ex]
  · have nx : ¬ s_isCell (nI f) = 0 := by rw [ex]; decide
    rw [if_neg nx, if_neg nx]
    rcases is_cell y with ey | ⟨ey, t, ht, rfl⟩
    · rw [if_pos ey, if_pos ey]
    · have ny : ¬ s_isCell (nI t) = 0 := by rw [ey]; decide
      rw [if_neg ny, if_neg ny, zlet_def, zlet_def, zlet_def, zlet_def, nI_clamp (by omega), nI_clamp (by omega), k_reasonAgainst w 0 hf ht (by rw [c0]; exact hI.2.1) (by rw [c0]; exact hI.2.2.2.2.2.2.1), m_refuses, c0, m11]
theorem P_cost {w : xW} {A : xA} (h : zSim w A) (x y : Int32) : d_X2_cost w x y = d_X3_cost w x y := by
  have hI := h.2.2.1
  have m11 := h.2.1.1
  have c0 := h.1.2.1
  rw [d_X2_cost, d_X3_cost, k_isCell, k_isCell, m_isCell, m_isCell]
  rcases is_cell x with ex | ⟨ex, f, hf, rfl⟩
  · rw [if_pos ex, if_pos ex]
  · have nx : ¬ s_isCell (nI f) = 0 := by rw [ex]; decide
    rw [if_neg nx, if_neg nx]
    rcases is_cell y with ey | ⟨ey, t, ht, rfl⟩
    · rw [if_pos ey, if_pos ey]
    · have ny : ¬ s_isCell (nI t) = 0 := by rw [ey]; decide
      rw [if_neg ny, if_neg ny, zlet_def, zlet_def, zlet_def, zlet_def, zlet_def, zlet_def, nI_clamp (by omega), nI_clamp (by omega), k_price w 0 hf ht (by rw [c0]; exact hI.2.1 f hf) (by rw [c0]; exact hI.2.1 t ht), m_costOf, xg_row, c0, m11]
      by_cases a : aS A f = -1
      · rw [if_pos a, if_pos a]; rfl
      · rw [if_neg a, if_neg a]
        have hz : ¬ s_costOf (aS A) f t = 0 := s_cost_nz _ _ _ hf ht
        unfold s_pos
        by_cases b : s_costOf (aS A) f t < 0
        · rw [if_pos b, if_pos rfl, if_neg (Int32.not_le.mpr b)]
        · rw [if_neg b, if_neg hz, if_pos (Int32.not_lt.mp b)]
theorem P_moves {w : xW} {A : xA} (h : zSim w A) (s : Int32) : d_X2_moves w s = d_X3_moves w s := by
  have hI := h.2.2.1
  have m11 := h.2.1.1
  have c0 := h.1.2.1
  rw [d_X2_moves, d_X3_moves, k_isSide, m_isSide]
  by_cases a : s_isSide s = 0
  · rw [if_pos a, if_pos a]
  · rw [if_neg a, if_neg a, k_movesOf w 0 s (by rw [c0]; exact hI.2.1) (by rcases isSide_of a with e | e <;> rw [e] <;> decide), m_movesOf, c0, m11]
theorem P_listed {w : xW} {A : xA} (h : zSim w A) (s i : Int32) : d_X2_listed w s i = d_X3_listed w s i := by
  have hI := h.2.2.1
  have m11 := h.2.1.1
  have c0 := h.1.2.1
  rw [d_X2_listed, d_X3_listed, k_isSide, m_isSide]
  by_cases a : s_isSide s = 0
  · rw [if_pos a, if_pos a]
  · rw [if_neg a, if_neg a]
    by_cases b : 0 ≤ i
    · obtain ⟨j, hj, rfl⟩ := nI_of (Int32.not_lt.mpr b)
      rw [if_pos b, if_pos b, zlet_def, k_listed w s (by rw [c0]; exact hI.2.1) (by rcases isSide_of a with e | e <;> rw [e] <;> decide) (by omega), m_moveAt, s_moveAt_nth _ _ (by omega), c0, m11]
      unfold s_nth
      cases z : (s_mvs (aS A) s)[j]? with
      | none => rfl
      | some q =>
        have hm := (s_mvs_mem (List.mem_of_getElem? z)).1
        dsimp only
        rw [if_pos (nI_pos' (by omega))]
    · rw [if_neg b, if_neg b]
theorem P_type {w : xW} {A : xA} (h : zSim w A) (ch : Int32) : zLike (d_X2_type w ch) (fun u => d_X3_type u ch) := by
  have c11 := h.1.2.2.2.1
  have m18 := h.2.1.2.2.1
  have hn := h.2.2.2.2.1
  rw [d_X2_type]
  by_cases a : ch < 32
  · rw [if_pos a]
    exact like_no h (by show d_X3_type w ch = _; rw [d_X3_type, m_in]; unfold s_in; rw [if_pos a, if_pos rfl])
  · rw [if_neg a]
    by_cases b : ch ≤ 126
    · have hin : ¬ s_in ch 32 126 = 0 := by
        unfold s_in; rw [if_neg a, if_neg (Int32.not_lt.mpr b)]; decide
      rw [if_pos b, xg_row, c11, if_neg (nI_pos (by omega))]
      by_cases e : an A = 80
      · rw [if_neg (show ¬ nI (an A) < 80 by rw [e]; decide)]
        exact like_no h (by show d_X3_type w ch = _; rw [d_X3_type, m_in, if_neg hin, xg_row, m18, if_pos (by rw [e]; rfl)])
      · rw [if_pos (show nI (an A) < 80 from nI_lt (a := an A) (b := 80) (by omega) (by omega)), zlet_def, zlet_def, nI_clamp (by omega)]
        obtain ⟨m, hm, em⟩ := nI_of2 (n := 126) (M := 126) (x := ch) (by decide) (fun q => a (Int32.lt_trans q (by decide))) b
        have hzc : zc ch = ch := by
          rw [em]
          have : ∀ k, k < 127 → zc (nI k) = nI k := by decide +kernel
          exact this m (by omega)
        rw [hzc, xs_xv, xs_xv, xg_xv', zU_eq, xg_row, xv_ne w _ (show ¬ 10 = 7 by omega), c11, nI_1]
        refine like_mk (B := (aS A, aH A, ak A, fun j => if j = an A then ch else aT A j, an A + 1)) h ?_ (zFM_tr (zFM_xv w (by omega) _) (zFM_xv _ (by omega) _)) ⟨h.2.2.1, h.2.2.2.1, show an A + 1 ≤ 80 by omega, ?_⟩ (fun u hu => ?_)
        · obtain ⟨k5, a', b', c', d', e', g', i', j', pr⟩ := h.1
          refine ⟨k5, ?_, ?_, ?_, d', e', ?_, ?_, ?_, pr⟩
          · rw [xv_ne _ _ (by omega), xv_ne _ _ (by omega)]; exact a'
          · rw [xv_row, zU_ne _ _ (by omega)]; exact b'
          · rw [xv_row, zU_eq]; rfl
          · intro q hq
            have := zpg_lt w q
            rw [zpg_xv, zpg_xv, xv_ne _ _ (by omega), xv_ne _ _ (by omega)]
            exact g' q hq
          · intro q hq
            rw [xv_ne _ _ (by omega), xv_ne _ _ (by omega)]
            exact i' q hq
          · intro j hj
            have hj' : j < an A + 1 := hj
            rw [xv_ne _ _ (by omega), xv_row]
            show _ = if j = an A then ch else aT A j
            rw [zU_at]
            by_cases z : j = an A
            · rw [if_pos z, if_pos z]
            · rw [if_neg z, if_neg z]; exact j' j (by omega)
        · intro j hj
          have hj' : j < an A + 1 := hj
          show 32 ≤ (if j = an A then ch else aT A j) ∧ (if j = an A then ch else aT A j) ≤ 126
          by_cases z : j = an A
          · rw [if_pos z]; exact ⟨Int32.not_lt.mp a, b⟩
          · rw [if_neg z]; exact h.2.2.2.2.2 j (by omega)
        · obtain ⟨a', b', c', d', e'⟩ := hu
          show (d_X3_type u ch).1 = _ ∧ zMR (d_X3_type u ch).2 _ ∧ zFC u (d_X3_type u ch).2
          rw [d_X3_type, m_in, if_neg hin, xg_row, c', if_neg (show ¬ nI (an A) = 80 from fun q => e ((nI_eq (a := an A) (b := 80) (by omega) (by omega)).mp q)), zlet_def, zlet_def, nI_clamp (by omega), xs_xv, xs_xv, xg_xv', zU_eq, xg_row, xv_ne u _ (show ¬ 17 = 14 by omega), c', nI_1]
          refine ⟨rfl, ⟨?_, ?_, ?_, ?_, ?_⟩, zFC_tr (zFC_xv u (by omega) _) (zFC_xv _ (by omega) _)⟩
          · rw [xv_ne _ _ (by omega), xv_ne _ _ (by omega)]; exact a'
          · rw [xv_row, zU_ne _ _ (by omega)]; exact b'
          · rw [xv_row, zU_eq]; rfl
          · intro i hi j hj
            rw [xv_ne _ _ (by omega), xv_ne _ _ (by omega)]
            exact d' i hi j hj
          · intro j hj
            have hj' : j < an A + 1 := hj
            rw [xv_ne _ _ (by omega), xv_row]
            show _ = if j = an A then ch else aT A j
            rw [zU_at]
            by_cases z : j = an A
            · rw [if_pos z, if_pos z]
            · rw [if_neg z, if_neg z]; exact e' j (by omega)
    · rw [if_neg b]
      exact like_no h (by show d_X3_type w ch = _; rw [d_X3_type, m_in]; unfold s_in; rw [if_neg a, if_pos (Int32.not_le.mp b), if_pos rfl])
theorem P_clearText {w : xW} {A : xA} (h : zSim w A) : zLike (d_X2_clearText w) d_X3_clearText := by
  have c11 := h.1.2.2.2.1
  rw [d_X2_clearText, zlet_def, zlet_def, xg_row, c11, xs_xv]
  refine like_mk (B := (aS A, aH A, ak A, aT A, 0)) h ?_ (zFM_xv w (by omega) _) ⟨h.2.2.1, h.2.2.2.1, Nat.zero_le _, fun j hj => absurd hj (Nat.not_lt_zero _)⟩ (fun u hu => ?_)
  · obtain ⟨k5, a', b', c', d', e', g', i', j', pr⟩ := h.1
    refine ⟨k5, ?_, ?_, ?_, d', e', ?_, ?_, fun j hj => absurd hj (Nat.not_lt_zero _), pr⟩
    · rw [xv_ne _ _ (by omega)]; exact a'
    · rw [xv_row, zU_ne _ _ (by omega)]; exact b'
    · rw [xv_row, zU_eq]; rfl
    · intro q hq
      have := zpg_lt w q
      rw [zpg_xv, xv_ne _ _ (by omega)]
      exact g' q hq
    · intro q hq
      rw [xv_ne _ _ (by omega)]
      exact i' q hq
  · obtain ⟨a', b', c', d', e'⟩ := hu
    rw [d_X3_clearText, zlet_def, zlet_def, xg_row, c', xs_xv]
    refine ⟨rfl, ⟨?_, ?_, ?_, ?_, fun j hj => absurd hj (Nat.not_lt_zero _)⟩, zFC_xv u (by omega) _⟩
    · rw [xv_ne _ _ (by omega)]; exact a'
    · rw [xv_row, zU_ne _ _ (by omega)]; exact b'
    · rw [xv_row, zU_eq]; rfl
    · intro i hi j hj
      rw [xv_ne _ _ (by omega)]
      exact d' i hi j hj
