/-! rows as tables, and what is known of a world: its row, how many states are kept and the last of them, its text -/
def rT (N : Nat) : Nat → Int32 := fun j => if j < 159 then nI ((N >>> (8 * j)) % 256) - 128 else 0
def tT (N : Nat) : Nat → Int32 := fun j => nI ((N >>> (8 * j)) % 256)
def rEq (F G : Nat → Int32) : Nat → Bool
  | 0 => true
  | n + 1 => decide (F n = G n) && rEq F G n
theorem rEq_at {F G : Nat → Int32} : ∀ (n : Nat), rEq F G n = true → ∀ j, j < n → F j = G j := by
  intro n
  induction n with
  | zero => intro _ j hj; omega
  | succ n ih =>
    intro h j hj
    rw [rEq, Bool.and_eq_true] at h
    by_cases e : j = n
    · rw [e]; exact of_decide_eq_true h.1
    · exact ih h.2 j (by omega)
theorem rT_hi (N : Nat) {j : Nat} (h : 159 ≤ j) : rT N j = 0 := if_neg (by omega)
theorem rT_of {F : Nat → Int32} {N : Nat} (h : zInv F) (e : rEq F (rT N) 159 = true) : F = rT N := by
  funext j
  by_cases hj : j < 159
  · exact rEq_at 159 e j hj
  · rw [h.1.2.1 j (by omega), rT_hi N (by omega)]
theorem rT_makes {N N' f t : Nat} (hf : f < 36) (ht : t < 36) (e : rEq (s_makes (rT N) f t) (rT N') 159 = true) : s_makes (rT N) f t = rT N' := by
  funext j
  by_cases hj : j < 159
  · exact rEq_at 159 e j hj
  · rw [s_makes_hi (by omega) _ hf ht, rT_hi N (by omega), rT_hi N' (by omega)]
theorem rec_ak (A : xA) : ak (a_rec A) = if ak A < 5 then ak A + 1 else 5 := by
  unfold a_rec
  by_cases h : ak A < 5
  · rw [if_pos h, if_pos h]; rfl
  · rw [if_neg h, if_neg h]; rfl
theorem rec_last (A : xA) : aH (a_rec A) (ak (a_rec A) - 1) = aS A := by
  unfold a_rec
  by_cases h : ak A < 5
  · rw [if_pos h]
    show (if ak A + 1 - 1 = ak A then aS A else aH A (ak A + 1 - 1)) = aS A
    rw [if_pos (by omega)]
  · rw [if_neg h]
    show (if 5 - 1 = 4 then aS A else aH (a_drop A) (5 - 1)) = aS A
    rw [if_pos (by omega)]
def zQ (w : xW) (S : Nat → Int32) (k n : Nat) (T H : Nat → Int32) : Prop := ∃ A : xA, zSim w A ∧ aS A = S ∧ ak A = k ∧ an A = n ∧ (∀ j, j < n → aT A j = T j) ∧ (0 < k → aH A (k - 1) = H)
def q5 (k : Nat) : Nat := if k < 5 then k + 1 else 5
theorem q_new {u : xW} {A : xA} {S S' T : Nat → Int32} {k n : Nat} (e1 : aS A = S) (e2 : ak A = k) (e3 : an A = n) (e4 : ∀ j, j < n → aT A j = T j) (hu : zSim u (a_set (a_rec A) S')) : zQ u S' (q5 k) n T S := by
  refine ⟨a_set (a_rec A) S', hu, rfl, ?_, (aT_rec A).2.trans e3, fun j hj => ?_, fun _ => ?_⟩
  · show ak (a_rec A) = _
    rw [rec_ak, e2]; rfl
  · show aT (a_rec A) j = _
    rw [(aT_rec A).1]; exact e4 j hj
  · show aH (a_rec A) (q5 k - 1) = S
    have : q5 k = ak (a_rec A) := by rw [rec_ak, e2]; rfl
    rw [this, rec_last, e1]
section QQ
variable {w : xW} {S S' T H : Nat → Int32} {k n f t c N : Nat} {x y z v r s : Int32} {L : List Nat}
theorem Q_inv (h : zQ w S k n T H) : zInv S := by
  obtain ⟨A, hA, rfl, -⟩ := h
  exact hA.2.2.1
theorem Q_move (h : zQ w S k n T H) (hf : f < 36) (ht : t < 36) (er : s_refuses S f t = 0) (ec : s_costOf S f t = r) (e : rEq (s_makes S f t) (rT N) 159 = true) : ∃ u, d_X2_move w (nI f) (nI t) = (r, u) ∧ zQ u (rT N) (q5 k) n T S := by
  obtain ⟨A, hA, rfl, e2, e3, e4, e5⟩ := h
  obtain ⟨a, b⟩ := K_move hA hf ht er
  have := K_new hA b
  rw [rT_of b e] at a this
  rw [ec] at a
  exact ⟨_, a, q_new rfl e2 e3 e4 this⟩
theorem Q_move_no (h : zQ w S k n T H) (hf : f < 36) (ht : t < 36) (er : ¬ s_refuses S f t = 0) : d_X2_move w (nI f) (nI t) = (-2, w) := by
  obtain ⟨A, hA, rfl, -⟩ := h
  exact K_move_no hA hf ht er
theorem Q_pass (h : zQ w S k n T H) (er : s_refusesPass S = 0) (ec : (if rT N 145 = 0 then (0 : Int32) else 1) = r) (e : rEq (s_passes S) (rT N) 159 = true) : ∃ u, d_X2_pass w = (r, u) ∧ zQ u (rT N) (q5 k) n T S := by
  obtain ⟨A, hA, rfl, e2, e3, e4, e5⟩ := h
  obtain ⟨a, b⟩ := K_pass hA er
  have := K_new hA b
  rw [rT_of b e] at a this
  rw [ec] at a
  exact ⟨_, a, q_new rfl e2 e3 e4 this⟩
theorem Q_pass_no (h : zQ w S k n T H) (er : ¬ s_refusesPass S = 0) : d_X2_pass w = (-2, w) := by
  obtain ⟨A, hA, rfl, -⟩ := h
  exact K_pass_no hA er
theorem Q_put (h : zQ w S k n T H) (hc : c < 36) (h1 : ¬ s_in x (-1) 1 = 0) (h2 : ¬ s_in y 0 4 = 0) (h3 : ¬ s_in z 0 (S 149) = 0) (h4 : S 145 = 0) (ec : (if S c = -1 then (0 : Int32) else 1) = r) (e : rEq (s_put S c x y z) (rT N) 159 = true) : ∃ u, d_X2_put w (nI c) x y z = (r, u) ∧ zQ u (rT N) (q5 k) n T S := by
  obtain ⟨A, hA, rfl, e2, e3, e4, e5⟩ := h
  obtain ⟨a, b⟩ := K_put hA hc h1 h2 h3 h4
  have := K_new hA b
  rw [rT_of b e] at a this
  rw [ec] at a
  exact ⟨_, a, q_new rfl e2 e3 e4 this⟩
theorem Q_put_over (h : zQ w S k n T H) (hc : c < 36) (h1 : ¬ s_in x (-1) 1 = 0) (h2 : ¬ s_in y 0 4 = 0) (h3 : ¬ s_in z 0 (S 149) = 0) (h4 : ¬ S 145 = 0) : d_X2_put w (nI c) x y z = (-2, w) := by
  obtain ⟨A, hA, rfl, -⟩ := h
  exact K_put_over hA hc h1 h2 h3 h4
theorem Q_put_bad (h : zQ w S k n T H) (hb : s_isCell v = 0 ∨ s_in x (-1) 1 = 0 ∨ s_in y 0 4 = 0 ∨ s_in z 0 (S 149) = 0) : d_X2_put w v x y z = (-1, w) := by
  obtain ⟨A, hA, rfl, -⟩ := h
  exact K_put_bad hA hb
theorem Q_set (h : zQ w S k n T H) (hb : ¬ s_canBe (nI c) v = 0) (hc : c < 3) (ec : S (149 + c) = r) (e : rEq (s_set S c v) (rT N) 159 = true) : ∃ u, d_X2_set w (nI c) v = (r, u) ∧ zQ u (rT N) (q5 k) n T S := by
  obtain ⟨A, hA, rfl, e2, e3, e4, e5⟩ := h
  obtain ⟨c', m, hc', hm, f1, f2, f3, a, b⟩ := K_set hA hb
  have : c' = c := (nI_eq (by omega) (by omega)).mp f1.symm
  subst this
  have := K_new hA b
  rw [rT_of b e] at a this
  rw [ec] at a
  exact ⟨_, a, q_new rfl e2 e3 e4 this⟩
theorem Q_tower (h : zQ w S k n T H) (hc : c < 36) (h6 : S (108 + c) = 1 ∨ ¬ s_towers S = 6) (ec : s_towers (rT N) = r) (e : rEq (zU S (108 + c) (1 - S (108 + c))) (rT N) 159 = true) : ∃ u, d_X2_tower w (nI c) = (r, u) ∧ zQ u (rT N) (q5 k) n T S := by
  obtain ⟨A, hA, rfl, e2, e3, e4, e5⟩ := h
  obtain ⟨a, b⟩ := K_tower hA hc h6
  have := K_new hA b
  rw [rT_of b e] at a this
  rw [ec] at a
  exact ⟨_, a, q_new rfl e2 e3 e4 this⟩
theorem Q_tower_full (h : zQ w S k n T H) (hc : c < 36) (z : S (108 + c) = 0) (h6 : s_towers S = 6) : d_X2_tower w (nI c) = (-3, w) := by
  obtain ⟨A, hA, rfl, -⟩ := h
  exact K_tower_full hA hc z h6
theorem Q_setUp (h : zQ w S k n T H) (ec : s_allSprings (rT N) = r) (e : rEq (s_begins S) (rT N) 159 = true) : ∃ u, d_X2_setUp w = (r, u) ∧ zQ u (rT N) (q5 k) n T S := by
  obtain ⟨A, hA, rfl, e2, e3, e4, e5⟩ := h
  obtain ⟨a, b⟩ := K_setUp hA
  have := K_new hA b
  rw [rT_of b e] at a this
  rw [ec] at a
  exact ⟨_, a, q_new rfl e2 e3 e4 this⟩
theorem Q_undo (h : zQ w S (k + 1) n T H) : ∃ u H', d_X2_undo w = (nI k, u) ∧ zQ u H k n T H' := by
  obtain ⟨A, hA, rfl, e2, e3, e4, e5⟩ := h
  obtain ⟨u, a, b, -⟩ := K_undo hA e2
  refine ⟨u, aH A (k - 1), a, (aH A k, aH A, k, aT A, an A), b, ?_, rfl, e3, e4, fun _ => rfl⟩
  exact e5 (by omega)
theorem Q_undo0 (h : zQ w S 0 n T H) : d_X2_undo w = (-2, w) := by
  obtain ⟨A, hA, rfl, e2, -⟩ := h
  exact K_undo0 hA e2
theorem Q_refusal (h : zQ w S k n T H) (hf : f < 36) (ht : t < 36) (er : s_refuses S f t = r) : d_X2_refusal w (nI f) (nI t) = r := by
  obtain ⟨A, hA, rfl, -⟩ := h
  exact (K_refusal hA hf ht).trans er
theorem Q_cost (h : zQ w S k n T H) (hf : f < 36) (ht : t < 36) (er : (if S f = -1 then -4 else if s_costOf S f t < 0 then -4 else s_costOf S f t) = r) : d_X2_cost w (nI f) (nI t) = r := by
  obtain ⟨A, hA, rfl, -⟩ := h
  exact (K_cost hA hf ht).trans er
theorem Q_moves (h : zQ w S k n T H) (a : ¬ s_isSide s = 0) (eL : s_mvs S s = L) (er : nI L.length = r) : d_X2_moves w s = r := by
  obtain ⟨A, hA, rfl, -⟩ := h
  rw [K_moves hA a, s_movesOf_len, eL, er]
theorem Q_listed (h : zQ w S k n T H) (a : ¬ s_isSide s = 0) (hi : c < 2147483648) (eL : s_mvs S s = L) (er : s_nth L c (-4) = r) : d_X2_listed w s (nI c) = r := by
  obtain ⟨A, hA, rfl, -⟩ := h
  rw [K_listed hA a hi, eL, er]
theorem Q_count (h : zQ w S k n T H) (er : s_count S k n x = r) : d_X2_count w x = r := by
  obtain ⟨A, hA, rfl, rfl, rfl, -⟩ := h
  exact (K_count hA x).trans er
theorem Q_cell (h : zQ w S k n T H) (hc : c < 36) (hf : f < 4) (er : s_cell S c f = r) : d_X2_cell w (nI c) (nI f) = r := by
  obtain ⟨A, hA, rfl, -⟩ := h
  exact (K_cell hA hc hf).trans er
theorem Q_cell4 (h : zQ w S k n T H) (hc : c < 36) (er : (if S c = -1 then -4 else s_movesFrom S c) = r) : d_X2_cell w (nI c) (nI 4) = r := by
  obtain ⟨A, hA, rfl, -⟩ := h
  exact (K_cell4 hA hc).trans er
theorem Q_struck (h : zQ w S k n T H) (hc : c < 36) (es : ¬ s_isSide s = 0) (er : s_stk (s_lays S c (1 - s) 1 0) s c 36 0 0 = r) : ∃ u, d_X2_struck w (nI c) s = (r, u) ∧ zQ u S k n T H := by
  obtain ⟨A, hA, rfl, e2, e3, e4, e5⟩ := h
  obtain ⟨u, a, b⟩ := K_struck hA hc es
  exact ⟨u, a.trans (by rw [er]), A, b, rfl, e2, e3, e4, e5⟩
theorem Q_reach (h : zQ w S k n T H) (hc : c < 36) (hf : f ≤ 12) (hS : ¬ S c = -1) (er : u_cnt (u_iter (s_lays S c (-1) 0 0) (S c) (S (36 + c)) f (u_0 S (fun _ => 0) c)) 36 0 0 = r) : ∃ u, d_X2_reach w (nI c) (nI f) = (r, u) ∧ zQ u S k n T H := by
  obtain ⟨A, hA, rfl, e2, e3, e4, e5⟩ := h
  obtain ⟨u, a, b⟩ := K_reach hA hc hf hS
  exact ⟨u, a.trans (by rw [er]), A, b, rfl, e2, e3, e4, e5⟩
theorem Q_reach_none (h : zQ w S k n T H) (hc : c < 36) (hf : f ≤ 12) (hS : S c = -1) : d_X2_reach w (nI c) (nI f) = (-4, w) := by
  obtain ⟨A, hA, rfl, -⟩ := h
  exact K_reach_none hA hc hf hS
theorem q_list (h : zInv S) (e5 : S 145 ≤ 0) (e4 : S 144 = s) (eL : s_mvs S s = L) : r_list S 1296 0 = L := by
  rw [r_list_eq h, if_pos e5, e4]
  exact eL
theorem q_list0 (h : zInv S) (e5 : ¬ S 145 ≤ 0) : r_list S 1296 0 = [] := by
  rw [r_list_eq h, if_neg e5]
theorem Q_replies (h : zQ w S k n T H) (eL : r_list S 1296 0 = L) (er : r_sum S L 0 = r) : ∃ u, d_X2_replies w = (r, u) ∧ zQ u S k n T H := by
  obtain ⟨A, hA, rfl, e2, e3, e4, e5⟩ := h
  obtain ⟨u, a, b⟩ := K_replies hA
  exact ⟨u, a.trans (by rw [eL, er]), A, b, rfl, e2, e3, e4, e5⟩
theorem Q_best (h : zQ w S k n T H) (eL : r_list S 1296 0 = L) (er : (r_best S L (-4) 0).1 = r) : ∃ u, d_X2_best w = (r, u) ∧ zQ u S k n T H := by
  obtain ⟨A, hA, rfl, e2, e3, e4, e5⟩ := h
  obtain ⟨u, a, b⟩ := K_best hA
  exact ⟨u, a.trans (by rw [eL, er]), A, b, rfl, e2, e3, e4, e5⟩
theorem t_why_congr {T T' : Nat → Int32} {n : Nat} (h : ∀ j, j < n → T j = T' j) (S : Nat → Int32) (p : Nat) : t_why T n S p = t_why T' n S p := by
  unfold t_why
  rw [t_form_congr h, t_cell_congr h, t_cell_congr h]
theorem t_then_congr {T T' : Nat → Int32} {n : Nat} (h : ∀ j, j < n → T j = T' j) (S : Nat → Int32) (p : Nat) : t_then T n S p = t_then T' n S p := by
  unfold t_then
  rw [t_form_congr h, t_cell_congr h, t_cell_congr h]
theorem t_run_congr {T T' : Nat → Int32} {n : Nat} (h : ∀ j, j < n → T j = T' j) : ∀ (m p : Nat) (S : Nat → Int32), t_run T n m p S = t_run T' n m p S := by
  intro m
  induction m with
  | zero => intros; rfl
  | succ m ih =>
    intro p S
    by_cases a : n ≤ p
    · rw [t_run_end a, t_run_end a]
    · have hlt := Nat.lt_of_not_le a
      by_cases b : t_why T n S p = 0
      · rw [t_run_go hlt b, t_run_go hlt ((t_why_congr h S p).symm.trans b), ih, t_form_congr h, t_then_congr h]
      · rw [t_run_bad hlt b, t_run_bad hlt (fun q => b ((t_why_congr h S p).trans q)), t_why_congr h]
theorem t_cnt_congr {T T' : Nat → Int32} : ∀ (n p : Nat), (∀ j, j < p + n → T j = T' j) → t_cnt T n p = t_cnt T' n p := by
  intro n
  induction n with
  | zero => intros; rfl
  | succ n ih =>
    intro p h
    rw [t_cnt, t_cnt, h p (by omega), ih (p + 1) (fun j hj => h j (by omega))]
/-- what a text's run tells: reason and place -/
def t_tell (T : Nat → Int32) (n : Nat) (S : Nat → Int32) (q : Nat) : Int32 := if (t_run T n 81 0 S).1 = 0 then -4 else if q = 0 then nI (t_run T n 81 0 S).2.1 else (t_run T n 81 0 S).1
theorem Q_fault (h : zQ w S k n T H) (hf : f < 2) (er : t_tell T n S f = r) : ∃ u, d_X2_fault w (nI f) = (r, u) ∧ zQ u S k n T H := by
  obtain ⟨A, hA, rfl, e2, rfl, e4, e5⟩ := h
  obtain ⟨u, a, b⟩ := K_fault hA hf
  refine ⟨u, a.trans ?_, A, b, rfl, e2, rfl, e4, e5⟩
  unfold t_at
  rw [t_run_congr e4]
  rw [← er]; rfl
theorem Q_play_no (h : zQ w S k n T H) (er : ¬ (t_run T n 81 0 S).1 = 0) : ∃ u, d_X2_play w = (-2, u) ∧ zQ u S k n T H := by
  obtain ⟨A, hA, rfl, e2, rfl, e4, e5⟩ := h
  obtain ⟨u, a, b⟩ := K_play_no hA (by rw [t_run_congr e4]; exact er)
  exact ⟨u, a, A, b, rfl, e2, rfl, e4, e5⟩
theorem Q_play (h : zQ w S k n T H) (er : (t_run T n 81 0 S).1 = 0) (ec : nI (t_cnt T n 0) = r) (e : rEq (t_run T n 81 0 S).2.2.1 (rT N) 159 = true) : ∃ u, d_X2_play w = (r, u) ∧ zQ u (rT N) (q5 k) n T S := by
  obtain ⟨A, hA, rfl, e2, rfl, e4, e5⟩ := h
  have hS := (k_tryText hA).2
  obtain ⟨u, a, b⟩ := K_play hA (by rw [t_run_congr e4]; exact er)
  rw [t_run_congr e4] at hS b
  rw [t_cnt_congr (an A) 0 (fun j hj => e4 j (by omega)), ec] at a
  rw [rT_of hS e] at b
  exact ⟨u, a, q_new rfl e2 rfl e4 b⟩
theorem Q_type (h : zQ w S k n T H) (a : ¬ x < 32) (b : x ≤ 126) (e : ¬ n = 80) {T' : Nat → Int32} (eT : ∀ j, j < n + 1 → (if j = n then x else T j) = T' j) : ∃ u, d_X2_type w x = (nI (n + 1), u) ∧ zQ u S k (n + 1) T' H := by
  obtain ⟨A, hA, rfl, e2, rfl, e4, e5⟩ := h
  obtain ⟨u, a1, b1⟩ := K_type hA a b e
  refine ⟨u, a1, _, b1, rfl, e2, rfl, fun j hj => ?_, e5⟩
  show (if j = an A then x else aT A j) = T' j
  rw [← eT j hj]
  by_cases z : j = an A
  · rw [if_pos z, if_pos z]
  · rw [if_neg z, if_neg z]; exact e4 j (by omega)
theorem Q_type_full (h : zQ w S k n T H) (a : ¬ x < 32) (b : x ≤ 126) (e : n = 80) : d_X2_type w x = (-3, w) := by
  obtain ⟨A, hA, rfl, e2, rfl, -⟩ := h
  exact K_type_full hA a b e
theorem Q_clear (h : zQ w S k n T H) : ∃ u, d_X2_clearText w = (nI n, u) ∧ zQ u S k 0 T H := by
  obtain ⟨A, hA, rfl, e2, rfl, e4, e5⟩ := h
  obtain ⟨u, a, b⟩ := K_clearText hA
  exact ⟨u, a, _, b, rfl, e2, rfl, fun j hj => absurd hj (Nat.not_lt_zero _), e5⟩
end QQ
