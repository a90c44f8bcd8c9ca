/-! the accounts at a game's beginning; what a drawn change does -/
def spC (S : Nat → Int32) (side : Int32) : Nat → Nat → Int32
  | 0, _ => 0
  | n + 1, c => (if S c = side then S (72 + c) else 0) + spC S side n (c + 1)
theorem sp_go (S : Nat → Int32) (side : Int32) : ∀ (n j c : Nat) (a : Int32), c + j = 36 → j < n → s_springs_4 S side s_springs_4k n a c = a + spC S side j c := by
  intro n
  induction n with
  | zero => intro j c a h1 h2; omega
  | succ n ih =>
    intro j c a h1 h2
    rw [s_springs_4]
    cases j with
    | zero =>
      rw [if_pos (by omega), spC, Int32.add_zero]
      rfl
    | succ j =>
      rw [if_neg (by omega), zlet_def, zlet_def, ih j (c + 1) _ (by omega) (by omega), spC, Int32.add_assoc]
theorem sp_eq (S : Nat → Int32) (side : Int32) : s_springs S side = spC S side 36 0 := by
  unfold s_springs
  rw [sp_go S side 37 36 0 0 rfl (by omega), Int32.zero_add]
theorem rg20 (a b : Int32) : 0 + a + (0 + b) = 0 + (a + b) := by grind
theorem rg21 (x a b : Int32) : x + a + (0 + b) = x + (a + b) := by grind
theorem rg22 (x a b : Int32) : 0 + a + (x + b) = x + (a + b) := by grind
theorem sp_sum {S : Nat → Int32} (hs : zsides S) (he : zEm S) : ∀ (n k : Nat), k + n ≤ 36 → spC S 0 n k + spC S 1 n k = sumC S n k := by
  intro n
  induction n with
  | zero => intro k _; exact Int32.add_zero 0
  | succ n ih =>
    intro k hk
    rw [spC, spC, sumC, ← ih (k + 1) (by omega)]
    rcases hs k (by omega) with e | e | e
    · rw [if_neg (show ¬ S k = 0 by rw [e]; decide), if_neg (show ¬ S k = 1 by rw [e]; decide), he k (by omega) e]
      exact rg20 _ _
    · rw [if_pos e, if_neg (show ¬ S k = 1 by rw [e]; decide)]
      exact rg21 _ _ _
    · rw [if_neg (show ¬ S k = 0 by rw [e]; decide), if_pos e]
      exact rg22 _ _ _
theorem all_sum {S : Nat → Int32} (hs : zsides S) (he : zEm S) : s_allSprings S = sumC S 36 0 := by
  unfold s_allSprings
  rw [sp_eq, sp_eq, sp_sum hs he 36 0 (by omega)]
theorem rg23 (a b c d e f s : Int32) (h : a + b + c + d - (e + f) - s = 0) : a + b + c + d = e + f + s := by grind
/-- the accounts as the law asks for them -/
theorem acc_law {S : Nat → Int32} (hI : zInv S) (h : zAcc S) : S 152 + S 153 + S 154 + S 158 = S 155 + S 156 + s_allSprings S := by
  rw [all_sum hI.2.1 h.1]
  exact rg23 _ _ _ _ _ _ _ h.2
theorem sum_nn {S : Nat → Int32} (h : zInv S) : ∀ (n k : Nat), k + n ≤ 36 → ∃ m, m ≤ 12 * n ∧ sumC S n k = nI m := by
  intro n
  induction n with
  | zero => intro k _; exact ⟨0, by omega, rfl⟩
  | succ n ih =>
    intro k hk
    obtain ⟨m, hm, e⟩ := ih (k + 1) (by omega)
    obtain ⟨q, L, l1, l2, l3, l4⟩ := h.2.2.1 k (by omega)
    rw [sumC, e, l4, nI_add]
    exact ⟨q + m, by omega, rfl⟩
theorem em_qB (x1 : Int32) : ∀ (n k : Nat) (S : Nat → Int32), k + n ≤ 6 → zEm S → zEm (q_B x1 n k S) := by
  intro n
  induction n with
  | zero => intro k S _ h; exact h
  | succ n ih =>
    intro k S hk h
    rw [q_B]
    have n0 : (0 : Int32) = -1 → x1 = 0 := fun q => absurd q (by decide)
    have n1 : (1 : Int32) = -1 → x1 = 0 := fun q => absurd q (by decide)
    exact ih _ _ (by omega) (em_lays (em_lays (em_lays (em_lays h (by omega) _ n0) (by omega) _ n0) (by omega) _ n1) (by omega) _ n1)
theorem rg24 (x : Int32) : x + 0 + 0 + 0 - (0 + 0) - x = 0 := by grind
theorem acc_begins {S : Nat → Int32} (hI : zInv (s_begins S)) : zAcc (s_begins S) := by
  have hs := hI.2.1
  rw [s_begins_eq] at hs ⊢
  have hz : ∀ j, 152 ≤ j → j < 159 → bg_R S j = 0 := by
    intro j h1 h2
    unfold bg_R
    rw [q_C_at, if_pos (by omega)]
  have lo : ∀ j, j < 144 → bg_R S j = q_B (S 149 / 2) 6 0 (q_A bg_tw 36 0 S) j := by
    intro j h1
    unfold bg_R
    rw [q_C_at, if_neg (by omega)]
    unfold bg_G
    rw [zU_ne _ _ (by omega), zU_ne _ _ (by omega), zU_ne _ _ (by omega), zU_ne _ _ (by omega), zU_ne _ _ (by omega)]
  have hem : zEm (bg_R S) := by
    intro c hc
    rw [lo _ (by omega), lo _ (by omega)]
    exact em_qB _ 6 0 _ (by omega) (fun c hc _ => (q_A_cells bg_tw 36 0 S (by omega) (fun c hc => by omega) c hc).2) c hc
  have hsR : zsides (bg_R S) := by
    intro c hc
    have := hs c hc
    rw [zU_ne _ _ (by omega)] at this
    exact this
  refine ⟨em_hi hem (by omega) _, ?_⟩
  unfold accF
  rw [zU_eq, zU_ne _ _ (by omega), zU_ne _ _ (by omega), zU_ne _ _ (by omega), zU_ne _ _ (by omega), zU_ne _ _ (by omega), sumC_ne _ _ 36 0 (fun c h1 h2 => by omega), hz 153 (by omega) (by omega), hz 154 (by omega) (by omega), hz 155 (by omega) (by omega), hz 156 (by omega) (by omega), hz 158 (by omega) (by omega), all_sum hsR hem]
  exact rg24 _
theorem rec2_2 {w : xW} {A : xA} (h : zCR w A) (hk : ak A < 5) : (if (xg w 10 0) < 0 then w else (if 5 ≤ (xg w 10 0) then w else (zlet (d_X1_copyFrom w (zpg w ((xg w 10 0)).toNatClampNeg) 0) fun w4 => zlet (xs w4 10 0 ((xg w4 10 0) + 1)) fun w5 => w5))).2 = w.2 := by
  obtain ⟨k5, a, b, c, d, e, g, i, j, pr⟩ := h
  have n := nI_lt5 k5
  have hlt := zpg_lt w (ak A)
  have hge := d (ak A) hk
  rw [xg_row, b, if_neg n.2.1, if_neg (fun q => by have := n.2.2.1.mp q; omega), n.2.2.2.2.2.2.2, zlet_def, zlet_def]
  rw [k_copyFrom w (by omega) (i _ hlt) (i 0 (by omega))]
  rfl
theorem rec_2 {w : xW} {A : xA} (h : zCR w A) {j : Nat} (hj : 5 ≤ j) : (d_X2_record w).2 j = w.2 j := by
  have k5 := h.1
  have b := h.2.2.1
  have n := nI_lt5 k5
  rw [d_X2_record]
  by_cases hk : ak A < 5
  · rw [if_pos (by rw [xg_row, b]; exact n.1.mpr hk), zlet_def, rec2_2 h hk]
  · rw [if_neg (by rw [xg_row, b]; exact fun q => hk (n.1.mp q)), C_drop_w, d_X2_record_21k, zlet_def, zlet_def, zlet_def]
    have h5 : ak A = 5 := by omega
    have e := rec2_2 (C_drop h h5) (show 4 < 5 by omega)
    refine (congrFun e j).trans ?_
    have xp2 : ∀ (u : xW) (a q : Nat), ¬ j = a → (xp u a q).2 j = u.2 j := fun u a q h => if_neg h
    show (xp (xp (xp (xp (xp w 0 (zpg w 1)) 1 (zpg w 2)) 2 (zpg w 3)) 3 (zpg w 4)) 4 (zpg w 0)).2 j = w.2 j
    rw [xp2 _ _ _ (by omega), xp2 _ _ _ (by omega), xp2 _ _ _ (by omega), xp2 _ _ _ (by omega), xp2 _ _ _ (by omega)]
/-- a drawn change: refused and nothing changed, or done and a state kept -/
def zDo (w : xW) (A : xA) (p : Int32 × xW) : Prop := (p.1 < 0 ∧ p.2 = w) ∨ (¬ p.1 < 0 ∧ ∃ S', zAcc S' ∧ zSim p.2 (a_set (a_rec A) S') ∧ ∀ j, 5 ≤ j → p.2.2 j = w.2 j)
theorem do_no {w : xW} {A : xA} {r : Int32} (h : r < 0) : zDo w A (r, w) := Or.inl ⟨h, rfl⟩
theorem do_rec {w : xW} {A : xA} (h : zSim w A) {S' : Nat → Int32} (hS : zInv S') (ha : zAcc S') {r : Int32} (hr : ¬ r < 0) : zDo w A (r, xv (d_X2_record w) 0 S') :=
  Or.inr ⟨hr, S', ha, K_new h hS, fun j hj => rec_2 h.1 hj⟩
theorem D_move {w : xW} {A : xA} (h : zSim w A) (ha : zAcc (aS A)) {f t : Nat} (hf : f < 36) (ht : t < 36) : zDo w A (d_X2_move w (nI f) (nI t)) := by
  have hI := h.2.2.1
  by_cases hr : s_refuses (aS A) f t = 0
  · obtain ⟨a1, a2, a3, a4, a5⟩ := refuses_0 hI hr
    obtain ⟨e, i⟩ := K_move h hf ht hr
    rw [e]
    refine do_rec h i (acc_makes ha hf ht (fun z => a2 (by rw [← z]; exact a1)) ?_ hI.2.2.2.2.2.1) a3
    rcases a5 with z | z <;> rw [z] <;> decide
  · rw [K_move_no h hf ht hr]; exact do_no (by decide)
theorem D_pass {w : xW} {A : xA} (h : zSim w A) (ha : zAcc (aS A)) : zDo w A (d_X2_pass w) := by
  have hI := h.2.2.1
  by_cases hr : s_refusesPass (aS A) = 0
  · obtain ⟨e, i⟩ := K_pass h hr
    rw [e]
    refine do_rec h i (acc_passes ha hI.2.2.2.2.2.1) ?_
    by_cases z : s_passes (aS A) 145 = 0
    · rw [if_pos z]; decide
    · rw [if_neg z]; decide
  · rw [K_pass_no h hr]; exact do_no (by decide)
theorem D_setUp {w : xW} {A : xA} (h : zSim w A) : zDo w A (d_X2_setUp w) := by
  obtain ⟨e, i⟩ := K_setUp h
  have ha := acc_begins i
  rw [e]
  refine do_rec h i ha ?_
  obtain ⟨m, hm, em⟩ := sum_nn i 36 0 (by omega)
  rw [all_sum i.2.1 ha.1, em]
  exact nI_pos (by omega)
theorem D_set {w : xW} {A : xA} (h : zSim w A) (ha : zAcc (aS A)) (what v : Int32) : zDo w A (d_X2_set w what v) := by
  have hI := h.2.2.1
  by_cases hb : s_canBe what v = 0
  · rw [K_set_bad w hb]; exact do_no (by decide)
  · obtain ⟨k, m, hk, hm, e1, e2, e3, e, i⟩ := K_set h hb
    rw [e]
    refine do_rec h i (by rw [e2]; exact acc_set ha hk hm) ?_
    rcases (by omega : k = 0 ∨ k = 1 ∨ k = 2) with rfl | rfl | rfl
    · obtain ⟨L, l1, l2, l3⟩ := hI.2.2.2.2.2.2.2.2.1
      rw [show aS A (149 + 0) = nI L from l3]; exact nI_pos (by omega)
    · obtain ⟨L, l2, l3⟩ := hI.2.2.2.2.2.2.2.2.2.1
      rw [show aS A (149 + 1) = nI L from l3]; exact nI_pos (by omega)
    · obtain ⟨L, l2, l3⟩ := hI.2.2.2.2.2.2.2.2.2.2
      rw [show aS A (149 + 2) = nI L from l3]; exact nI_pos (by omega)
theorem D_put {w : xW} {A : xA} (h : zSim w A) (ha : zAcc (aS A)) {c : Nat} (hc : c < 36) {side kind : Int32} (spring : Int32) (h1 : ¬ s_in side (-1) 1 = 0) (h2 : ¬ s_in kind 0 4 = 0) : zDo w A (d_X2_put w (nI c) side kind spring) := by
  by_cases h3 : s_in spring 0 (aS A 149) = 0
  · rw [K_put_bad h (Or.inr (Or.inr (Or.inr h3)))]; exact do_no (by decide)
  · by_cases h4 : aS A 145 = 0
    · obtain ⟨e, i⟩ := K_put h hc h1 h2 h3 h4
      rw [e]
      refine do_rec h i (acc_put ha hc _ _ _) ?_
      by_cases z : aS A c = -1
      · rw [if_pos z]; decide
      · rw [if_neg z]; decide
    · rw [K_put_over h hc h1 h2 h3 h4]; exact do_no (by decide)
theorem D_tower {w : xW} {A : xA} (h : zSim w A) (ha : zAcc (aS A)) {c : Nat} (hc : c < 36) : zDo w A (d_X2_tower w (nI c)) := by
  have hI := h.2.2.1
  have ok : (aS A (108 + c) = 1 ∨ ¬ s_towers (aS A) = 6) → zDo w A (d_X2_tower w (nI c)) := by
    intro h6
    obtain ⟨e, i⟩ := K_tower h hc h6
    rw [e]
    refine do_rec h i (acc_free ha (by omega) _) ?_
    obtain ⟨n, hn, en⟩ := i.2.2.2.2.1
    rw [en]; exact nI_pos (by omega)
  rcases hI.2.2.2.1 c hc with z | z
  · by_cases h6 : s_towers (aS A) = 6
    · rw [K_tower_full h hc z h6]; exact do_no (by decide)
    · exact ok (Or.inr h6)
  · exact ok (Or.inl z)
