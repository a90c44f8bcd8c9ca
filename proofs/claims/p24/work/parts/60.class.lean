/-! the class alone: what each call answers and what it leaves -/
theorem rec_0 {w : xW} {A : xA} (h : zCR w A) : (d_X2_record w).1 0 = aS A := by
  rw [(C_rec h).2.1, aS_rec]
theorem isC {c : Nat} (h : c < 36) : s_isCell (nI c) = 1 := by
  unfold s_isCell s_in
  rw [if_neg (nI_pos (by omega)), if_neg (show ¬ (35 : Int32) < nI c from nI_nlt (b := c) (a := 35) (by omega) (by omega))]
theorem isCn {c : Nat} (h : c < 36) : ¬ s_isCell (nI c) = 0 := by rw [isC h]; decide
/-- after keeping the state, a new row -/
theorem K_new {w : xW} {A : xA} (h : zSim w A) {S : Nat → Int32} (hS : zInv S) : zSim (xv (d_X2_record w) 0 S) (a_set (a_rec A) S) := ⟨zCR_set (C_rec h.1) hS.1, trivial, zAI_set (zAI_rec h.2.2 h.1.1) hS⟩
theorem K_setUp {w : xW} {A : xA} (h : zSim w A) : d_X2_setUp w = (s_allSprings (s_begins (aS A)), xv (d_X2_record w) 0 (s_begins (aS A))) ∧ zInv (s_begins (aS A)) := by
  have hi : zInv (s_begins (aS A)) := inv_begins h.2.2.1.1.2.1 h.2.2.1.2.2.2.2.2.2.2.2.1 h.2.2.1.2.2.2.2.2.2.2.2.2.1 h.2.2.1.2.2.2.2.2.2.2.2.2.2
  refine ⟨?_, hi⟩
  rw [d_X2_setUp, zlet_def, zlet_def, k_begin _ 0 (by rw [rec_0 h.1]; exact h.2.2.1.1.1), k_springsInAll, xv_row, rec_0 h.1]
theorem K_move_bad (w : xW) {x y : Int32} (h : s_isCell x = 0 ∨ s_isCell y = 0) : d_X2_move w x y = (-1, w) := by
  rw [d_X2_move, k_isCell, k_isCell]
  by_cases a : s_isCell x = 0
  · rw [if_pos a]
  · rw [if_neg a, if_pos (h.resolve_left a)]
theorem K_move_no {w : xW} {A : xA} (h : zSim w A) {f t : Nat} (hf : f < 36) (ht : t < 36) (hr : ¬ s_refuses (aS A) f t = 0) : d_X2_move w (nI f) (nI t) = (-2, w) := by
  have hI := h.2.2.1
  have c0 := h.1.2.1
  rw [d_X2_move, k_isCell, k_isCell, if_neg (isCn hf), if_neg (isCn ht), zlet_def, zlet_def, nI_clamp (by omega), nI_clamp (by omega)]
  rw [k_reasonAgainst w 0 hf ht (by rw [c0]; exact hI.2.1) (by rw [c0]; exact hI.2.2.2.2.2.2.1), c0, if_neg hr]
theorem K_move {w : xW} {A : xA} (h : zSim w A) {f t : Nat} (hf : f < 36) (ht : t < 36) (hr : s_refuses (aS A) f t = 0) : d_X2_move w (nI f) (nI t) = (s_costOf (aS A) f t, xv (d_X2_record w) 0 (s_makes (aS A) f t)) ∧ zInv (s_makes (aS A) f t) := by
  have hI := h.2.2.1
  have c0 := h.1.2.1
  have r0 := rec_0 h.1
  obtain ⟨a1, a2, a3, a4, a5⟩ := refuses_0 hI hr
  refine ⟨?_, inv_makes hI hf ht a3 a4⟩
  rw [d_X2_move, k_isCell, k_isCell, if_neg (isCn hf), if_neg (isCn ht), zlet_def, zlet_def, nI_clamp (by omega), nI_clamp (by omega)]
  rw [k_reasonAgainst w 0 hf ht (by rw [c0]; exact hI.2.1) (by rw [c0]; exact hI.2.2.2.2.2.2.1), c0, if_pos hr, zlet_def, zlet_def]
  rw [k_makeMove _ 0 hf ht (by rw [r0]; exact hI.2.1) (by rw [r0]; exact a1) (by rw [r0]; exact a5) (by rw [r0]; exact a3) (fun e => a2 (by rw [← e]; exact a1)), r0]
theorem K_pass_no {w : xW} {A : xA} (h : zSim w A) (hr : ¬ s_refusesPass (aS A) = 0) : d_X2_pass w = (-2, w) := by
  have hI := h.2.2.1
  have c0 := h.1.2.1
  rw [d_X2_pass, k_reasonAgainstPass w 0 (by rw [c0]; exact hI.2.1) (by rw [c0]; exact hI.2.2.2.2.2.2.1) (by rw [c0]; exact hI.2.2.2.2.2.1), c0, if_neg hr]
theorem K_pass {w : xW} {A : xA} (h : zSim w A) (hr : s_refusesPass (aS A) = 0) : d_X2_pass w = ((if s_passes (aS A) 145 = 0 then 0 else 1), xv (d_X2_record w) 0 (s_passes (aS A))) ∧ zInv (s_passes (aS A)) := by
  have hI := h.2.2.1
  have c0 := h.1.2.1
  have r0 := rec_0 h.1
  have h145 : aS A 145 = 0 := by
    unfold s_refusesPass at hr
    by_cases a1 : aS A 145 ≤ 0
    · rcases hI.2.2.2.2.2.2.1 with e | e | e
      · exact e
      · rw [e] at a1; exact absurd a1 (by decide)
      · rw [e] at a1; exact absurd a1 (by decide)
    · rw [if_neg a1] at hr; exact absurd hr (by decide)
  refine ⟨?_, inv_passes hI⟩
  rw [d_X2_pass, k_reasonAgainstPass w 0 (by rw [c0]; exact hI.2.1) (by rw [c0]; exact hI.2.2.2.2.2.2.1) (by rw [c0]; exact hI.2.2.2.2.2.1), c0]
  rw [if_pos hr, zlet_def, zlet_def, k_makePass _ 0 (by rw [r0]; exact hI.1.2.2) (by rw [r0]; exact hI.2.2.2.2.2.2.2.1 h145), r0, k_isOver, xv_row]
  by_cases e : s_passes (aS A) 145 = 0
  · rw [if_pos e, if_pos rfl]
  · rw [if_neg e, if_neg (by decide)]
def s_set (S : Nat → Int32) (k : Nat) (v : Int32) : Nat → Int32 := if k = 0 then s_cut 36 0 (zU S 149 v) else zU S (149 + k) v
theorem s_set_0 (S : Nat → Int32) (v : Int32) : s_set S 0 v = s_cut 36 0 (zU S 149 v) := if_pos rfl
theorem s_set_1 (S : Nat → Int32) (v : Int32) : s_set S 1 v = zU S 150 v := if_neg (by decide)
theorem s_set_2 (S : Nat → Int32) (v : Int32) : s_set S 2 v = zU S 151 v := if_neg (by decide)
theorem K_set_bad (w : xW) {what v : Int32} (h : s_canBe what v = 0) : d_X2_set w what v = (-1, w) := by
  rw [d_X2_set, k_isSetting, if_pos h]
theorem K_set {w : xW} {A : xA} (h : zSim w A) {what v : Int32} (hb : ¬ s_canBe what v = 0) : ∃ k m, k ≤ 2 ∧ m ≤ 12 ∧ what = nI k ∧ v = nI m ∧ (k = 0 → 1 ≤ m) ∧ d_X2_set w what v = (aS A (149 + k), xv (d_X2_record w) 0 (s_set (aS A) k v)) ∧ zInv (s_set (aS A) k v) := by
  have hI := h.2.2.1
  have r0 := rec_0 h.1
  rw [d_X2_set, k_isSetting, if_neg hb, zlet_def, zlet_def, zlet_def, d_X1_setting, xg_row, xg_row, xg_row, r0, d_X1_changeSetting]
  rcases canBe_of hb with ⟨e, m, m1, m2, em⟩ | ⟨e, m, m2, em⟩
  · refine ⟨0, m, by omega, m2, e, em, fun _ => m1, ?_, ?_⟩
    · rw [if_pos (show what = 0 from e), if_pos (show what = 0 from e), zlet_def, zlet_def, d_X1_cutSprings, xs_xv, k_cut _ 0 _ 37 36 0 _ (by omega) (by omega), d_X1_cutSprings_2k, r0, s_set_0]
    · rw [s_set_0, em]; exact inv_cut hI m1 m2
  · rcases e with e | e
    · refine ⟨1, m, by omega, by omega, e, em, fun q => absurd q (by decide), ?_, ?_⟩
      · rw [if_neg (show ¬ what = 0 by rw [e]; decide), if_pos (show what = 1 from e), if_neg (show ¬ what = 0 by rw [e]; decide), if_pos (show what = 1 from e), zlet_def, xs_xv, r0, s_set_1]
      · rw [s_set_1, em]; exact inv_15x hI (Or.inl rfl) m2
    · refine ⟨2, m, by omega, by omega, e, em, fun q => absurd q (by decide), ?_, ?_⟩
      · rw [if_neg (show ¬ what = 0 by rw [e]; decide), if_neg (show ¬ what = 1 by rw [e]; decide), if_neg (show ¬ what = 0 by rw [e]; decide), if_neg (show ¬ what = 1 by rw [e]; decide), zlet_def, xs_xv, r0, s_set_2]
      · rw [s_set_2, em]; exact inv_15x hI (Or.inr rfl) m2
theorem k_put_head {w : xW} {A : xA} (h : zSim w A) (cell side kind spring : Int32) : d_X2_put w cell side kind spring = if s_isCell cell = 0 then (-1, w) else if s_in side (-1) 1 = 0 then (-1, w) else if s_in kind 0 4 = 0 then (-1, w) else if s_in spring 0 (aS A 149) = 0 then (-1, w) else if ¬ aS A 145 = 0 then (-2, w) else ((if d_X0_hasPiece (d_X2_record w) 0 cell.toNatClampNeg = 0 then (0 : Int32) else 1), d_X1_putInstead (d_X2_record w) 0 cell.toNatClampNeg side kind spring) := by
  have c0 := h.1.2.1
  rw [d_X2_put, side_11, zlet_def, zlet_def, zlet_def, k_isCell]
  show (if s_isCell cell = 0 then (-1, w) else if s_in side (-1) 1 = 0 then (-1, w) else if s_in kind 0 4 = 0 then (-1, w) else if s_in spring 0 (w.1 0 149) = 0 then (-1, w) else _) = _
  rw [c0]
  by_cases a : s_isCell cell = 0
  · rw [if_pos a, if_pos a]
  rw [if_neg a, if_neg a]
  by_cases b : s_in side (-1) 1 = 0
  · rw [if_pos b, if_pos b]
  rw [if_neg b, if_neg b]
  by_cases c : s_in kind 0 4 = 0
  · rw [if_pos c, if_pos c]
  rw [if_neg c, if_neg c]
  by_cases d : s_in spring 0 (aS A 149) = 0
  · rw [if_pos d, if_pos d]
  rw [if_neg d, if_neg d, zlet_def, k_isOver, c0]
  by_cases e : aS A 145 = 0
  · rw [if_pos e, if_pos rfl, if_neg (fun q => q e), zlet_def, zlet_def, zlet_def]
    by_cases g : d_X0_hasPiece (d_X2_record w) 0 cell.toNatClampNeg = 0
    · rw [if_pos g, if_pos g]
    · rw [if_neg g, if_neg g]
  · rw [if_neg e, if_neg (by decide), if_pos e]
theorem K_put_bad {w : xW} {A : xA} (h : zSim w A) {cell side kind spring : Int32} (hb : s_isCell cell = 0 ∨ s_in side (-1) 1 = 0 ∨ s_in kind 0 4 = 0 ∨ s_in spring 0 (aS A 149) = 0) : d_X2_put w cell side kind spring = (-1, w) := by
  rw [k_put_head h]
  by_cases a : s_isCell cell = 0
  · rw [if_pos a]
  rw [if_neg a]
  by_cases b : s_in side (-1) 1 = 0
  · rw [if_pos b]
  rw [if_neg b]
  by_cases c : s_in kind 0 4 = 0
  · rw [if_pos c]
  rw [if_neg c]
  rw [if_pos (((hb.resolve_left a).resolve_left b).resolve_left c)]
theorem K_put_over {w : xW} {A : xA} (h : zSim w A) {c : Nat} (hc : c < 36) {side kind spring : Int32} (h1 : ¬ s_in side (-1) 1 = 0) (h2 : ¬ s_in kind 0 4 = 0) (h3 : ¬ s_in spring 0 (aS A 149) = 0) (h4 : ¬ aS A 145 = 0) : d_X2_put w (nI c) side kind spring = (-2, w) := by
  rw [k_put_head h, if_neg (isCn hc), if_neg h1, if_neg h2, if_neg h3, if_pos h4]
theorem K_put {w : xW} {A : xA} (h : zSim w A) {c : Nat} (hc : c < 36) {side kind spring : Int32} (h1 : ¬ s_in side (-1) 1 = 0) (h2 : ¬ s_in kind 0 4 = 0) (h3 : ¬ s_in spring 0 (aS A 149) = 0) (h4 : aS A 145 = 0) : d_X2_put w (nI c) side kind spring = ((if aS A c = -1 then 0 else 1), xv (d_X2_record w) 0 (s_put (aS A) c side kind spring)) ∧ zInv (s_put (aS A) c side kind spring) := by
  have r0 := rec_0 h.1
  refine ⟨?_, inv_put h.2.2.1 hc side kind spring h1 h3⟩
  rw [k_put_head h, if_neg (isCn hc), if_neg h1, if_neg h2, if_neg h3, if_neg (fun q => q h4), nI_clamp (by omega), k_hasPiece _ 0 hc, k_putInstead _ 0 hc, r0]
  by_cases e : aS A c = -1
  · rw [if_pos e, if_pos rfl]
  · rw [if_neg e, if_neg (by decide)]
theorem K_tower_bad (w : xW) {cell : Int32} (h : s_isCell cell = 0) : d_X2_tower w cell = (-1, w) := by
  rw [d_X2_tower, k_isCell, if_pos h]
theorem K_tower_full {w : xW} {A : xA} (h : zSim w A) {c : Nat} (hc : c < 36) (z : aS A (108 + c) = 0) (h6 : s_towers (aS A) = 6) : d_X2_tower w (nI c) = (-3, w) := by
  have c0 := h.1.2.1
  rw [d_X2_tower, k_isCell, if_neg (isCn hc), zlet_def, nI_clamp (by omega), k_isTower _ 0 hc, k_towers, c0, if_neg (show ¬ aS A (108 + c) = 1 by rw [z]; decide), if_pos rfl, if_neg (show ¬ s_towers (aS A) < 6 by rw [h6]; decide)]
theorem K_tower {w : xW} {A : xA} (h : zSim w A) {c : Nat} (hc : c < 36) (h6 : aS A (108 + c) = 1 ∨ ¬ s_towers (aS A) = 6) : d_X2_tower w (nI c) = (s_towers (zU (aS A) (108 + c) (1 - aS A (108 + c))), xv (d_X2_record w) 0 (zU (aS A) (108 + c) (1 - aS A (108 + c)))) ∧ zInv (zU (aS A) (108 + c) (1 - aS A (108 + c))) := by
  have hI := h.2.2.1
  have r0 := rec_0 h.1
  have c0 := h.1.2.1
  refine ⟨?_, inv_tower hI hc h6⟩
  rw [d_X2_tower, k_isCell, if_neg (isCn hc), zlet_def, nI_clamp (by omega), k_isTower _ 0 hc, k_towers, c0]
  have e : (zlet (d_X2_record w) fun w8 => if (d_X0_isTower w8 0 c) = 0 then (zlet (d_X0_markTower w8 0 c 1) fun w11 => ((d_X0_towersInAll w11 0), w11)) else (zlet (d_X0_markTower w8 0 c 0) fun w10 => ((d_X0_towersInAll w10 0), w10))) = (s_towers (zU (aS A) (108 + c) (1 - aS A (108 + c))), xv (d_X2_record w) 0 (zU (aS A) (108 + c) (1 - aS A (108 + c)))) := by
    rw [zlet_def, k_isTower _ 0 hc, r0]
    rcases hI.2.2.2.1 c hc with z | z
    · rw [if_neg (show ¬ aS A (108 + c) = 1 by rw [z]; decide), if_pos rfl, zlet_def, k_markTower _ 0 hc, k_towers, xv_row, r0, z]; rfl
    · rw [if_pos z, if_neg (by decide), zlet_def, k_markTower _ 0 hc, k_towers, xv_row, r0, z]; rfl
  rcases hI.2.2.2.1 c hc with z | z
  · rw [if_neg (show ¬ aS A (108 + c) = 1 by rw [z]; decide), if_pos rfl]
    obtain ⟨n, hn, hs⟩ := hI.2.2.2.2.1
    have h6' : ¬ s_towers (aS A) = 6 := h6.resolve_left (by rw [z]; decide)
    have hn6 : ¬ n = 6 := fun q => h6' (by rw [hs, q]; rfl)
    rw [if_pos (show s_towers (aS A) < 6 by rw [hs]; exact nI_lt (a := n) (b := 6) (by omega) (by omega)), e]
  · rw [if_pos z, if_neg (by decide), e]
theorem K_undo0 {w : xW} {A : xA} (h : zSim w A) (hk : ak A = 0) : d_X2_undo w = (-2, w) := by
  rw [d_X2_undo, xg_row, h.1.2.2.1, if_pos (show nI (ak A) - 1 < 0 by rw [hk]; decide)]
theorem K_undo {w : xW} {A : xA} (h : zSim w A) {k : Nat} (ek : ak A = k + 1) : ∃ u, d_X2_undo w = (nI k, u) ∧ zSim u (aH A k, aH A, k, aT A, an A) ∧ u.2 = w.2 := by
  have c10 := h.1.2.2.1
  have hk5 : k < 5 := by have := h.1.1; omega
  have hkk : k < ak A := by omega
  obtain ⟨_, _, _, b, c, d, e, f, g, pr⟩ := h.1
  have nk := nI_lt5 (k := k) (by omega)
  rw [d_X2_undo, xg_row, c10, ek, nI_pred, if_neg nk.2.1, if_neg (fun q => by have := nk.2.2.1.mp q; omega), nk.2.2.2.2.2.2.2, zlet_def, zlet_def, xs_xv]
  have hge := c k hk5
  have hlt := zpg_lt w k
  have hz : zRw ((xv w 10 (zU (w.1 10) 0 (nI k))).1 (zpg w k)) := by
    rw [xv_ne _ _ (by omega)]; exact f _ hlt
  have hz0 : zRw ((xv w 10 (zU (w.1 10) 0 (nI k))).1 0) := by
    rw [xv_ne _ _ (by omega)]; exact f _ (by omega)
  rw [k_copyFrom _ (by omega) hz0 hz, xv_ne w _ (show ¬ zpg w k = 10 by omega), e k hkk, xg_row, xv_ne _ _ (by omega), xv_row, zU_eq]
  refine ⟨_, rfl, ⟨⟨show k ≤ 5 by omega, xv_row _ _ _, ?_, ?_, c, d, ?_, ?_, ?_, pr⟩, trivial, h.2.2.2.1 k hkk, fun i hi => h.2.2.2.1 i (by have : i < k := hi; omega), h.2.2.2.2.1, h.2.2.2.2.2⟩, rfl⟩
  · rw [xv_ne _ _ (by omega), xv_row, zU_eq]; rfl
  · rw [xv_ne _ _ (by omega), xv_row, zU_ne _ _ (by omega)]; exact b
  · intro i hi
    have hi' : i < k := hi
    have := c i (by omega)
    have := zpg_lt w i
    rw [zpg_xv, zpg_xv, xv_ne _ _ (by omega), xv_ne _ _ (by omega)]
    exact e i (by omega)
  · intro q hq
    by_cases z : q = 0
    · rw [z, xv_row]; exact (h.2.2.2.1 k hkk).1
    · rw [xv_ne _ _ z, xv_ne _ _ (by omega)]; exact f q hq
  · intro j hj
    rw [xv_ne _ _ (by omega), xv_ne _ _ (by omega)]
    exact g j hj
theorem K_refusal_bad (w : xW) {x y : Int32} (h : s_isCell x = 0 ∨ s_isCell y = 0) : d_X2_refusal w x y = -1 := by
  rw [d_X2_refusal, k_isCell, k_isCell]
  by_cases a : s_isCell x = 0
  · rw [if_pos a]
  · rw [if_neg a, if_pos (h.resolve_left a)]
theorem K_refusal {w : xW} {A : xA} (h : zSim w A) {f t : Nat} (hf : f < 36) (ht : t < 36) : d_X2_refusal w (nI f) (nI t) = s_refuses (aS A) f t := by
  have hI := h.2.2.1
  have c0 := h.1.2.1
  rw [d_X2_refusal, k_isCell, k_isCell, if_neg (isCn hf), if_neg (isCn ht), zlet_def, zlet_def, nI_clamp (by omega), nI_clamp (by omega), k_reasonAgainst w 0 hf ht (by rw [c0]; exact hI.2.1) (by rw [c0]; exact hI.2.2.2.2.2.2.1), c0]
theorem K_cost_bad (w : xW) {x y : Int32} (h : s_isCell x = 0 ∨ s_isCell y = 0) : d_X2_cost w x y = -1 := by
  rw [d_X2_cost, k_isCell, k_isCell]
  by_cases a : s_isCell x = 0
  · rw [if_pos a]
  · rw [if_neg a, if_pos (h.resolve_left a)]
theorem K_cost {w : xW} {A : xA} (h : zSim w A) {f t : Nat} (hf : f < 36) (ht : t < 36) : d_X2_cost w (nI f) (nI t) = if aS A f = -1 then -4 else if s_costOf (aS A) f t < 0 then -4 else s_costOf (aS A) f t := by
  have hI := h.2.2.1
  have c0 := h.1.2.1
  rw [d_X2_cost, k_isCell, k_isCell, if_neg (isCn hf), if_neg (isCn ht), zlet_def, zlet_def, zlet_def, nI_clamp (by omega), nI_clamp (by omega), k_price w 0 hf ht (by rw [c0]; exact hI.2.1 f hf) (by rw [c0]; exact hI.2.1 t ht), c0]
  by_cases a : aS A f = -1
  · rw [if_pos a, if_pos a]; rfl
  · rw [if_neg a, if_neg a]
    have hz : ¬ s_costOf (aS A) f t = 0 := s_cost_nz _ _ _ hf ht
    unfold s_pos
    by_cases b : s_costOf (aS A) f t < 0
    · rw [if_pos b, if_pos rfl, if_pos b]
    · rw [if_neg b, if_neg hz, if_neg b]
theorem K_moves_bad (w : xW) {s : Int32} (h : s_isSide s = 0) : d_X2_moves w s = -1 := by
  rw [d_X2_moves, k_isSide, if_pos h]
theorem K_moves {w : xW} {A : xA} (h : zSim w A) {s : Int32} (a : ¬ s_isSide s = 0) : d_X2_moves w s = s_movesOf (aS A) s := by
  have hI := h.2.2.1
  have c0 := h.1.2.1
  rw [d_X2_moves, k_isSide, if_neg a, k_movesOf w 0 s (by rw [c0]; exact hI.2.1) (by rcases isSide_of a with e | e <;> rw [e] <;> decide), c0]
theorem K_listed_bad (w : xW) {s i : Int32} (h : s_isSide s = 0 ∨ ¬ 0 ≤ i) : d_X2_listed w s i = -1 := by
  rw [d_X2_listed, k_isSide]
  by_cases a : s_isSide s = 0
  · rw [if_pos a]
  · rw [if_neg a, if_neg (h.resolve_left a)]
theorem K_listed {w : xW} {A : xA} (h : zSim w A) {s : Int32} (a : ¬ s_isSide s = 0) {i : Nat} (hi : i < 2147483648) : d_X2_listed w s (nI i) = s_nth (s_mvs (aS A) s) i (-4) := by
  have hI := h.2.2.1
  have c0 := h.1.2.1
  rw [d_X2_listed, k_isSide, if_neg a, if_pos (nI_pos' hi), k_listed w s (by rw [c0]; exact hI.2.1) (by rcases isSide_of a with e | e <;> rw [e] <;> decide) hi, c0]
theorem K_type_bad (w : xW) {ch : Int32} (h : ch < 32 ∨ ¬ ch ≤ 126) : d_X2_type w ch = (-1, w) := by
  rw [d_X2_type]
  by_cases a : ch < 32
  · rw [if_pos a]
  · rw [if_neg a, if_neg (h.resolve_left a)]
theorem K_type_full {w : xW} {A : xA} (h : zSim w A) {ch : Int32} (a : ¬ ch < 32) (b : ch ≤ 126) (e : an A = 80) : d_X2_type w ch = (-3, w) := by
  have c11 := h.1.2.2.2.1
  have hn := h.2.2.2.2.1
  rw [d_X2_type, if_neg a, if_pos b, xg_row, c11, if_neg (nI_pos (by omega)), if_neg (show ¬ nI (an A) < 80 by rw [e]; decide)]
theorem K_type {w : xW} {A : xA} (h : zSim w A) {ch : Int32} (a : ¬ ch < 32) (b : ch ≤ 126) (e : ¬ an A = 80) : ∃ u, d_X2_type w ch = (nI (an A + 1), u) ∧ zSim u (aS A, aH A, ak A, fun j => if j = an A then ch else aT A j, an A + 1) := by
  have c11 := h.1.2.2.2.1
  have hn := h.2.2.2.2.1
  rw [d_X2_type, if_neg a, if_pos b, xg_row, c11, if_neg (nI_pos (by omega))]
  rw [if_pos (show nI (an A) < 80 from nI_lt (a := an A) (b := 80) (by omega) (by omega)), zlet_def, zlet_def, nI_clamp (by omega)]
  obtain ⟨m, hm, em⟩ := nI_of2 (n := 126) (M := 126) (x := ch) (by decide) (fun q => a (Int32.lt_trans q (by decide))) b
  have hzc : zc ch = ch := by
    rw [em]
    have : ∀ k, k < 127 → zc (nI k) = nI k := by decide +kernel
    exact this m (by omega)
  rw [hzc, xs_xv, xs_xv, xg_xv', zU_eq, xg_row, xv_ne w _ (show ¬ 10 = 7 by omega), c11, nI_1]
  refine ⟨_, rfl, ?_, trivial, h.2.2.1, h.2.2.2.1, show an A + 1 ≤ 80 by omega, ?_⟩
  · obtain ⟨k5, a', b', c', d', e', g', i', j', pr⟩ := h.1
    refine ⟨k5, ?_, ?_, ?_, d', e', ?_, ?_, ?_, pr⟩
    · rw [xv_ne _ _ (by omega), xv_ne _ _ (by omega)]; exact a'
    · rw [xv_row, zU_ne _ _ (by omega)]; exact b'
    · rw [xv_row, zU_eq]; rfl
    · intro q hq
      have := zpg_lt w q
      rw [zpg_xv, zpg_xv, xv_ne _ _ (by omega), xv_ne _ _ (by omega)]
      exact g' q hq
    · intro q hq
      rw [xv_ne _ _ (by omega), xv_ne _ _ (by omega)]
      exact i' q hq
    · intro j hj
      have hj' : j < an A + 1 := hj
      rw [xv_ne _ _ (by omega), xv_row]
      show _ = if j = an A then ch else aT A j
      rw [zU_at]
      by_cases z : j = an A
      · rw [if_pos z, if_pos z]
      · rw [if_neg z, if_neg z]; exact j' j (by omega)
  · intro j hj
    have hj' : j < an A + 1 := hj
    show 32 ≤ (if j = an A then ch else aT A j) ∧ (if j = an A then ch else aT A j) ≤ 126
    by_cases z : j = an A
    · rw [if_pos z]; exact ⟨Int32.not_lt.mp a, b⟩
    · rw [if_neg z]; exact h.2.2.2.2.2 j (by omega)
theorem K_clearText {w : xW} {A : xA} (h : zSim w A) : ∃ u, d_X2_clearText w = (nI (an A), u) ∧ zSim u (aS A, aH A, ak A, aT A, 0) := by
  have c11 := h.1.2.2.2.1
  rw [d_X2_clearText, zlet_def, zlet_def, xg_row, c11, xs_xv]
  refine ⟨_, rfl, ?_, trivial, h.2.2.1, h.2.2.2.1, Nat.zero_le _, fun j hj => absurd hj (Nat.not_lt_zero _)⟩
  obtain ⟨k5, a', b', c', d', e', g', i', j', pr⟩ := h.1
  refine ⟨k5, ?_, ?_, ?_, d', e', ?_, ?_, fun j hj => absurd hj (Nat.not_lt_zero _), pr⟩
  · rw [xv_ne _ _ (by omega)]; exact a'
  · rw [xv_row, zU_ne _ _ (by omega)]; exact b'
  · rw [xv_row, zU_eq]; rfl
  · intro q hq
    have := zpg_lt w q
    rw [zpg_xv, xv_ne _ _ (by omega)]
    exact g' q hq
  · intro q hq
    rw [xv_ne _ _ (by omega)]
    exact i' q hq
