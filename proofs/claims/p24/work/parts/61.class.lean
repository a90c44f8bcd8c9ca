/-! the class alone: what it tells of its state, and the calls that play aside -/
def s_count (S : Nat → Int32) (k n : Nat) (what : Int32) : Int32 :=
  if what = 0 then S 144 else if what = 1 then S 145 else if what = 2 then (if S 146 = -1 then -4 else S 146) else if what = 3 then S 147
  else if what = 4 then s_pieces S else if what = 5 then s_towers S else if what = 6 then s_springs S 0 else if what = 7 then s_springs S 1
  else if what = 8 then nI k else if what = 9 then nI n
  else if what = 10 then (if what - 10 = 0 then S 149 else if what - 10 = 1 then S 150 else S 151)
  else if what = 11 then (if what - 10 = 0 then S 149 else if what - 10 = 1 then S 150 else S 151)
  else if what = 12 then (if what - 10 = 0 then S 149 else if what - 10 = 1 then S 150 else S 151)
  else if (if what - 20 < 0 then (0 : Int32) else if 6 < what - 20 then 0 else 1) = 0 then -1
  else if what - 20 = 0 then S 152 else if what - 20 = 1 then S 153 else if what - 20 = 2 then S 154 else if what - 20 = 3 then S 155
  else if what - 20 = 4 then S 156 else if what - 20 = 5 then s_allSprings S else S 158
theorem K_count {w : xW} {A : xA} (h : zSim w A) (what : Int32) : d_X2_count w what = s_count (aS A) (ak A) (an A) what := by
  have c0 := h.1.2.1
  have c10 := h.1.2.2.1
  have c11 := h.1.2.2.2.1
  rw [d_X2_count]
  simp only [k_pieces, k_towers, k_springsOf, xg_row, c0, c10, c11, d_X1_setting, d_X1_account, k_springsInAll, d_X2_isAccount]
  rfl
/-- what stands on a cell: the answers 0 to 3 -/
def s_cell (S : Nat → Int32) (c : Nat) (what : Nat) : Int32 :=
  if what = 3 then S (108 + c) else if S c = -1 then -4 else if what = 0 then S c else if what = 1 then S (36 + c) else S (72 + c)
theorem K_cell {w : xW} {A : xA} (h : zSim w A) {c : Nat} (hc : c < 36) {q : Nat} (hq : q < 4) : d_X2_cell w (nI c) (nI q) = s_cell (aS A) c q := by
  have hI := h.2.2.1
  have c0 := h.1.2.1
  rw [d_X2_cell, k_isCell, if_neg (isCn hc), if_neg (nI_pos (by omega)), if_pos (show nI q ≤ 4 from nI_le (b := 4) (by omega) (by omega)), zlet_def, nI_clamp (by omega), k_isTower w 0 hc, k_hasPiece w 0 hc, k_sideOn w 0 hc, k_kindOn w 0 hc, k_springOn w 0 hc, c0]
  unfold s_cell
  rcases (by omega : q = 0 ∨ q = 1 ∨ q = 2 ∨ q = 3) with rfl | rfl | rfl | rfl
  · rw [if_neg (by decide), if_neg (show ¬ (0 : Nat) = 3 by decide)]
    by_cases e : aS A c = -1
    · rw [if_pos e, if_pos rfl, if_pos e]
    · rw [if_neg e, if_neg (by decide), if_neg e, if_pos (by decide), if_pos rfl]
  · rw [if_neg (by decide), if_neg (show ¬ (1 : Nat) = 3 by decide)]
    by_cases e : aS A c = -1
    · rw [if_pos e, if_pos rfl, if_pos e]
    · rw [if_neg e, if_neg (by decide), if_neg e, if_neg (by decide), if_pos (by decide), if_neg (by decide), if_pos rfl]
  · rw [if_neg (by decide), if_neg (show ¬ (2 : Nat) = 3 by decide)]
    by_cases e : aS A c = -1
    · rw [if_pos e, if_pos rfl, if_pos e]
    · rw [if_neg e, if_neg (by decide), if_neg e, if_neg (by decide), if_neg (by decide), if_pos (by decide), if_neg (by decide), if_neg (by decide)]
  · rw [if_pos (by decide), if_pos rfl]
    rcases hI.2.2.2.1 c hc with z | z <;> rw [z] <;> rfl
theorem K_cell4 {w : xW} {A : xA} (h : zSim w A) {c : Nat} (hc : c < 36) : d_X2_cell w (nI c) 4 = if aS A c = -1 then -4 else s_movesFrom (aS A) c := by
  have hI := h.2.2.1
  have c0 := h.1.2.1
  rw [d_X2_cell, k_isCell, if_neg (isCn hc), if_neg (by decide), if_pos (by decide), zlet_def, nI_clamp (by omega), k_isTower w 0 hc, k_hasPiece w 0 hc, k_sideOn w 0 hc, k_kindOn w 0 hc, k_springOn w 0 hc, c0, if_neg (by decide)]
  by_cases e : aS A c = -1
  · rw [if_pos e, if_pos rfl, if_pos e]
  · rw [if_neg e, if_neg (by decide), if_neg e, if_neg (by decide), if_neg (by decide), if_neg (by decide), k_movesFrom w 0 hc (by rw [c0]; exact hI.2.1) (by rw [c0]; exact e), c0]
theorem K_cell_bad (w : xW) {x what : Int32} (h : s_isCell x = 0 ∨ what < 0 ∨ ¬ what ≤ 4) : d_X2_cell w x what = -1 := by
  rw [d_X2_cell, k_isCell]
  by_cases a : s_isCell x = 0
  · rw [if_pos a]
  · rw [if_neg a]
    by_cases b : what < 0
    · rw [if_pos b]
    · rw [if_neg b, if_neg ((h.resolve_left a).resolve_left b)]
theorem K_struck_bad (w : xW) {x side : Int32} (h : s_isCell x = 0 ∨ s_isSide side = 0) : d_X2_struck w x side = (-1, w) := by
  rw [d_X2_struck, k_isCell, k_isSide]
  by_cases a : s_isCell x = 0
  · rw [if_pos a]
  · rw [if_neg a, if_pos (h.resolve_left a)]
theorem K_struck {w : xW} {A : xA} (h : zSim w A) {c : Nat} (hc : c < 36) {side : Int32} (es : ¬ s_isSide side = 0) : ∃ u, d_X2_struck w (nI c) side = (s_stk (s_lays (aS A) c (1 - side) 1 0) side c 36 0 0, u) ∧ zSim u A := by
  have hI := h.2.2.1
  have c0 := h.1.2.1
  have nx := isCn hc
  have hd : ¬ side = -1 := by rcases isSide_of es with e | e <;> rw [e] <;> decide
  have h1s : zside (1 - side) := by
    rcases isSide_of es with e | e <;> rw [e]
    · exact Or.inr (Or.inr (by decide))
    · exact Or.inr (Or.inl (by decide))
  have hnes : ¬ 1 - side = side := by rcases isSide_of es with e | e <;> rw [e] <;> decide
  rw [d_X2_struck, k_isCell, k_isSide, if_neg nx, if_neg es, zlet_def, zlet_def, zlet_def, nI_clamp (by omega), k_copyBoard w (by omega : ¬ 0 = 1), k_place _ 1 hc, xv_row, xv_xv, c0]
  have sidesC : ∀ j, j < 36 → s_lays (zpx (w.1 1) (aS A) 144) c (1 - side) 4 0 j = s_lays (aS A) c (1 - side) 1 0 j := by
    intro j hj
    rw [s_lays_at, s_lays_at, if_neg (show ¬ j = 72 + c by omega), if_neg (show ¬ j = 36 + c by omega), if_neg (show ¬ j = 72 + c by omega), if_neg (show ¬ j = 36 + c by omega), zpx_lo (by omega)]
  have hs : zsides (s_lays (zpx (w.1 1) (aS A) 144) c (1 - side) 4 0) := by
    intro j hj
    rw [sidesC j hj, s_lays_at, if_neg (by omega), if_neg (by omega)]
    by_cases e : j = c
    · rw [if_pos e]; exact h1s
    · rw [if_neg e]; exact hI.2.1 j hj
  have hkp : ∀ f, f < 36 → s_lays (zpx (w.1 1) (aS A) 144) c (1 - side) 4 0 f = side → s_lays (zpx (w.1 1) (aS A) 144) c (1 - side) 4 0 (36 + f) = s_lays (aS A) c (1 - side) 1 0 (36 + f) ∧ s_lays (zpx (w.1 1) (aS A) 144) c (1 - side) 4 0 (72 + f) = s_lays (aS A) c (1 - side) 1 0 (72 + f) := by
    intro f hf hfs
    have hfc : ¬ f = c := by
      intro e
      rw [e, s_lays_at, if_neg (by omega), if_neg (by omega), if_pos rfl] at hfs
      exact hnes hfs
    constructor
    · rw [s_lays_at, s_lays_at, if_neg (by omega), if_neg (by omega), if_neg (by omega), if_neg (by omega), if_neg (by omega), if_neg (by omega), zpx_lo (by omega)]
    · rw [s_lays_at, s_lays_at, if_neg (by omega), if_neg (by omega), if_neg (by omega), if_neg (by omega), if_neg (by omega), if_neg (by omega), zpx_lo (by omega)]
  rw [k_stk _ side hc (by rw [xv_row]; exact hs) hd _ 37 36 0 0 (by omega) (by omega), xv_row, d_X2_struck_51k, s_stk_agree hc sidesC hkp 36 0 0 (by omega)]
  exact ⟨_, rfl, zCR_row1 h.1 (zRw_lays (zRw_zpx (h.1.2.2.2.2.2.2.2.1 1 (by omega))) hc _ _ _), trivial, h.2.2⟩
theorem K_reach_bad (w : xW) {x mv : Int32} (h : s_isCell x = 0 ∨ mv < 0 ∨ ¬ mv ≤ 12) : d_X2_reach w x mv = (-1, w) := by
  rw [d_X2_reach, k_isCell]
  by_cases a : s_isCell x = 0
  · rw [if_pos a]
  · rw [if_neg a]
    by_cases b : mv < 0
    · rw [if_pos b]
    · rw [if_neg b, if_neg ((h.resolve_left a).resolve_left b)]
theorem K_reach_none {w : xW} {A : xA} (h : zSim w A) {c m : Nat} (hc : c < 36) (hm : m ≤ 12) (hS : aS A c = -1) : d_X2_reach w (nI c) (nI m) = (-4, w) := by
  have c0 := h.1.2.1
  rw [d_X2_reach, k_isCell, if_neg (isCn hc), if_neg (nI_pos (by omega)), if_pos (show nI m ≤ 12 from nI_le (b := 12) hm (by omega)), zlet_def, nI_clamp (by omega), k_hasPiece w 0 hc, c0, if_pos hS, if_pos rfl]
theorem K_reach {w : xW} {A : xA} (h : zSim w A) {c m : Nat} (hc : c < 36) (hm : m ≤ 12) (hS : ¬ aS A c = -1) : ∃ u, d_X2_reach w (nI c) (nI m) = (u_cnt (u_iter (s_lays (aS A) c (-1) 0 0) (aS A c) (aS A (36 + c)) m (u_0 (aS A) (fun _ => 0) c)) 36 0 0, u) ∧ zSim u A := by
  have hI := h.2.2.1
  have c0 := h.1.2.1
  have pr := h.1.2.2.2.2.2.2.2.2.2
  rw [d_X2_reach, k_isCell, if_neg (isCn hc), if_neg (nI_pos (by omega)), if_pos (show nI m ≤ 12 from nI_le (b := 12) hm (by omega)), zlet_def, nI_clamp (by omega), k_hasPiece w 0 hc, c0]
  rw [if_neg hS, if_neg (by decide), zlet_def, zlet_def, zlet_def, zlet_def, zlet_def, nI_clamp (by omega), k_sideOn w 0 hc, k_kindOn w 0 hc, k_copyBoard w (by omega : ¬ 0 = 1), k_empty _ 1 hc, xv_row, xv_xv, c0]
  have hs01 : aS A c = 0 ∨ aS A c = 1 := (hI.2.1 c hc).resolve_left hS
  have h5 := zpr_34 w 5
  have h6 := zpr_34 w 6
  rw [k_reach_92 c hc _ 37 36 0 _ (by omega) (by omega), d_X2_reach_92k]
  have p5 : zpr (xv w 1 (s_lays (zpx (w.1 1) (aS A) 144) c (-1) 0 0)) 5 = zpr w 5 := rfl
  rw [p5, xv_ne _ _ (show ¬ 0 = 1 by omega), c0, xv_ne _ _ (show ¬ 5 + zpr w 5 = 1 by omega)]
  have hRs : zsides (s_lays (aS A) c (-1) 0 0) := by
    intro j hj
    rw [s_lays_at, if_neg (by omega), if_neg (by omega)]
    by_cases e : j = c
    · rw [if_pos e]; exact Or.inl rfl
    · rw [if_neg e]; exact hI.2.1 j hj
  have hM0 : ∀ f, f < 36 → z1M (u_0 (aS A) (fun _ => 0) c f) := by
    intro f hf
    unfold u_0
    rw [if_pos hf]
    by_cases e : f = c
    · rw [if_pos e]
      obtain ⟨k, L, l1, l2, l3, l4⟩ := hI.2.2.1 c hc
      exact Or.inr ⟨k, by omega, l4⟩
    · rw [if_neg e]; exact Or.inl rfl
  have hRM0 : ∀ f, f < 36 → ¬ u_0 (aS A) (fun _ => 0) c f ≤ 0 → s_lays (aS A) c (-1) 0 0 f = -1 := by
    intro f hf q
    unfold u_0 at q
    rw [if_pos hf] at q
    by_cases e : f = c
    · rw [e, s_lays_at, if_neg (by omega), if_neg (by omega), if_pos rfl]
    · rw [if_neg e] at q
      exact absurd (by decide) q
  obtain ⟨u', e1, e2, e3⟩ := k_reach_136 (w0 := w) hRs hs01 (kd := aS A (36 + c)) m d_X2_reach_136k (m + 1) m 0 (xv (xv w 1 (s_lays (zpx (w.1 1) (aS A) 144) c (-1) 0 0)) (5 + zpr w 5) (fun b => if 0 ≤ b ∧ b < 36 then (if b = c then aS A (72 + c) else -1) else w.1 (5 + zpr w 5) b)) (u_0 (aS A) (fun _ => 0) c) (by omega) (by omega) (by
    refine ⟨?_, fun _ _ => rfl, pr, ?_, ?_, ?_⟩
    · intro v v1 v8 v9
      rw [xv_ne _ _ (by omega), xv_ne _ _ v1]
    · rw [xv_ne _ _ (by omega), xv_row]
      exact zRw_lays (zRw_zpx (h.1.2.2.2.2.2.2.2.1 1 (by omega))) hc _ _ _
    · intro j hj
      rw [xv_ne _ _ (by omega), xv_row, s_lays_at, s_lays_at, if_neg (show ¬ j = 72 + c by omega), if_neg (show ¬ j = 36 + c by omega), if_neg (show ¬ j = 72 + c by omega), if_neg (show ¬ j = 36 + c by omega), zpx_lo (by omega)]
    · intro q hq
      show (xv _ (5 + zpr w 5) _).1 (5 + zpr w 5) q = _
      rw [xv_row, if_pos ⟨Nat.zero_le _, hq⟩]
      unfold u_0
      rw [if_pos hq]) hM0 hRM0
  rw [e1, d_X2_reach_136k, d_X2_cellsReached, k_cells u' _ e2.2.2.2.2.2 e3 _ 37 36 0 0 (by omega) (by omega), d_X2_cellsReached_4k]
  exact ⟨_, rfl, zCR_re h.1 e2, trivial, h.2.2⟩
theorem K_replies {w : xW} {A : xA} (h : zSim w A) : ∃ u, d_X2_replies w = (r_sum (aS A) (r_list (aS A) 1296 0) 0, u) ∧ zSim u A := by
  have hI := h.2.2.1
  have c0 := h.1.2.1
  have hI0 : zInv (w.1 0) := by rw [c0]; exact hI
  obtain ⟨R', hR', e⟩ := k_replies_4 w hI0 d_X2_replies_4k 37 36 0 (w.1 1) 0 (by omega) (by omega) (h.1.2.2.2.2.2.2.2.1 1 (by omega))
  rw [xv_self] at e
  rw [d_X2_replies, e, d_X2_replies_4k, c0]
  exact ⟨_, rfl, zCR_row1 h.1 hR', trivial, h.2.2⟩
theorem K_best {w : xW} {A : xA} (h : zSim w A) : ∃ u, d_X2_best w = ((r_best (aS A) (r_list (aS A) 1296 0) (-4) 0).1, u) ∧ zSim u A := by
  have hI := h.2.2.1
  have c0 := h.1.2.1
  have hI0 : zInv (w.1 0) := by rw [c0]; exact hI
  obtain ⟨R', hR', e⟩ := k_best_7 w hI0 d_X2_best_7k 37 36 0 (w.1 1) (-4) 0 (by omega) (by omega) (h.1.2.2.2.2.2.2.2.1 1 (by omega)) (Or.inl rfl)
  rw [xv_self] at e
  rw [d_X2_best, e, d_X2_best_7k, c0]
  exact ⟨_, rfl, zCR_row1 h.1 hR', trivial, h.2.2⟩
theorem K_fault_bad (w : xW) {what : Int32} (h0 : ¬ what = 0) (h1 : ¬ what = 1) : d_X2_fault w what = (-1, w) := by
  rw [d_X2_fault, if_neg h0, if_neg h1]
/-- the text's place and reason of a fault -/
def t_at (A : xA) (q : Nat) : Int32 := if (t_run (aT A) (an A) 81 0 (aS A)).1 = 0 then -4 else if q = 0 then nI (t_run (aT A) (an A) 81 0 (aS A)).2.1 else (t_run (aT A) (an A) 81 0 (aS A)).1
theorem t_dv {A : xA} (hn : an A ≤ 80) {x : Int32} (ex : x = (if (t_run (aT A) (an A) 81 0 (aS A)).1 = 0 then -1 else 16 * nI (t_run (aT A) (an A) 81 0 (aS A)).2.1 + (t_run (aT A) (an A) 81 0 (aS A)).1)) : (x = -1 ↔ (t_run (aT A) (an A) 81 0 (aS A)).1 = 0) ∧ (¬ (t_run (aT A) (an A) 81 0 (aS A)).1 = 0 → x / 16 = nI (t_run (aT A) (an A) 81 0 (aS A)).2.1 ∧ x - x / 16 * 16 = (t_run (aT A) (an A) 81 0 (aS A)).1) := by
  obtain ⟨c, hc, ec, hlt⟩ := t_run_8 (aT A) (an A) 81 0 (aS A)
  by_cases z : (t_run (aT A) (an A) 81 0 (aS A)).1 = 0
  · rw [if_pos z] at ex
    exact ⟨⟨fun _ => z, fun _ => ex⟩, fun q => absurd z q⟩
  · have hl := hlt.resolve_left z
    rw [if_neg z, ec, show (16 : Int32) = nI 16 from rfl, pk_mul, nI_add] at ex
    refine ⟨⟨fun q => absurd (ex.symm.trans q) (nI_ne_m1 (by omega)), fun q => absurd q z⟩, fun _ => ?_⟩
    rw [ex, show (16 : Int32) = nI 16 from rfl, pk_rem (by omega) (by omega) (by omega), pk_div (by omega) (by omega) (by omega), ec]
    exact ⟨congrArg nI (by omega), congrArg nI (by omega)⟩
theorem K_fault {w : xW} {A : xA} (h : zSim w A) {q : Nat} (hq : q < 2) : ∃ u, d_X2_fault w (nI q) = (t_at A q, u) ∧ zSim u A := by
  obtain ⟨et, hS⟩ := k_tryText h
  obtain ⟨x, ex⟩ : ∃ x : Int32, x = (if (t_run (aT A) (an A) 81 0 (aS A)).1 = 0 then -1 else 16 * nI (t_run (aT A) (an A) 81 0 (aS A)).2.1 + (t_run (aT A) (an A) 81 0 (aS A)).1) := ⟨_, rfl⟩
  rw [← ex] at et
  have dv := t_dv h.2.2.2.2.1 ex
  have hC : zSim (xv w 1 (t_run (aT A) (an A) 81 0 (aS A)).2.2.1) A := ⟨zCR_row1 h.1 hS.1, trivial, h.2.2⟩
  unfold t_at
  rw [d_X2_fault, et, zlet_def]
  dsimp only
  rcases (by omega : q = 0 ∨ q = 1) with rfl | rfl
  · rw [if_pos (show nI 0 = 0 by decide)]
    by_cases z : (t_run (aT A) (an A) 81 0 (aS A)).1 = 0
    · rw [if_pos (dv.1.mpr z), if_pos z]; exact ⟨_, rfl, hC⟩
    · rw [if_neg (fun q => z (dv.1.mp q)), if_pos (show nI 0 = 0 by decide), if_neg z, if_pos rfl, (dv.2 z).1]; exact ⟨_, rfl, hC⟩
  · rw [if_neg (show ¬ nI 1 = 0 by decide), if_pos (show nI 1 = 1 by decide)]
    by_cases z : (t_run (aT A) (an A) 81 0 (aS A)).1 = 0
    · rw [if_pos (dv.1.mpr z), if_pos z]; exact ⟨_, rfl, hC⟩
    · rw [if_neg (fun q => z (dv.1.mp q)), if_neg (show ¬ nI 1 = 0 by decide), if_neg z, if_neg (show ¬ (1 : Nat) = 0 by decide), (dv.2 z).2]; exact ⟨_, rfl, hC⟩
theorem t_ne1 {A : xA} (hn : an A ≤ 80) (z : ¬ (t_run (aT A) (an A) 81 0 (aS A)).1 = 0) : ¬ 16 * nI (t_run (aT A) (an A) 81 0 (aS A)).2.1 + (t_run (aT A) (an A) 81 0 (aS A)).1 = -1 := by
  obtain ⟨c, hc, ec, hlt⟩ := t_run_8 (aT A) (an A) 81 0 (aS A)
  have hl := hlt.resolve_left z
  rw [ec, show (16 : Int32) = nI 16 from rfl, pk_mul, nI_add]
  exact nI_ne_m1 (by omega)
theorem K_play_no {w : xW} {A : xA} (h : zSim w A) (z : ¬ (t_run (aT A) (an A) 81 0 (aS A)).1 = 0) : ∃ u, d_X2_play w = (-2, u) ∧ zSim u A := by
  obtain ⟨et, hS⟩ := k_tryText h
  rw [d_X2_play, et, zlet_def]
  dsimp only
  rw [if_neg z, if_neg (t_ne1 h.2.2.2.2.1 z)]
  exact ⟨_, rfl, zCR_row1 h.1 hS.1, trivial, h.2.2⟩
theorem K_play {w : xW} {A : xA} (h : zSim w A) (z : (t_run (aT A) (an A) 81 0 (aS A)).1 = 0) : ∃ u, d_X2_play w = (nI (t_cnt (aT A) (an A) 0), u) ∧ zSim u (a_set (a_rec A) (t_run (aT A) (an A) 81 0 (aS A)).2.2.1) := by
  obtain ⟨et, hS⟩ := k_tryText h
  have hn := h.2.2.2.2.1
  have hch := h.2.2.2.2.2
  obtain ⟨q, hq⟩ : ∃ q, q = t_run (aT A) (an A) 81 0 (aS A) := ⟨_, rfl⟩
  rw [← hq] at et hS z ⊢
  have hC1 : zCR (xv w 1 q.2.2.1) A := zCR_row1 h.1 hS.1
  rw [d_X2_play, et, zlet_def]
  dsimp only
  rw [if_pos z, if_pos rfl, zlet_def, zlet_def]
  have cr := C_rec hC1
  have r1 : (d_X2_record (xv w 1 q.2.2.1)).1 1 = q.2.2.1 := by rw [rec_row1 hC1, xv_row]
  have zr := cr.2.2.2.2.2.2.2.1
  rw [k_copyFrom _ (by omega : ¬ 1 = 0) (zr 0 (by omega)) (zr 1 (by omega)), r1]
  have hC2 : zCR (xv (d_X2_record (xv w 1 q.2.2.1)) 0 q.2.2.1) (a_set (a_rec A) q.2.2.1) := zCR_set cr hS.1
  have eT : aT (a_set (a_rec A) q.2.2.1) = aT A := (aT_rec A).1
  have en : an (a_set (a_rec A) q.2.2.1) = an A := (aT_rec A).2
  have hm := k_movesInText hn (by rw [hC2.2.2.2.1, en]) (fun j hj => by rw [hC2.2.2.2.2.2.2.2.2.1 j (by rw [en]; exact hj), eT]) hch
  rw [hm]
  exact ⟨_, rfl, hC2, trivial, zAI_set (zAI_rec h.2.2 h.1.1) hS⟩
