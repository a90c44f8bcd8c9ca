/-! what a game's row keeps: setting up, settings, laying, towers -/
theorem inv_gen' {S S' : Nat → Int32} (h : zInv S) (h1 : zsides S') (h2 : ∀ c, c < 36 → zspr (S' 149) (S' (72 + c))) (h3 : z01 (S' 144)) (h4 : z012 (S' 145)) (h5 : S' 145 = 0 → S' 146 = -1) (h6 : z01 (S' 148)) (hl : zlim S') (hb : z05 (S' 150)) (hw : z05 (S' 151)) (h7 : ∀ j, (108 ≤ j ∧ j < 144) ∨ j = 157 ∨ 159 ≤ j → S' j = S j) : zInv S' := by
  obtain ⟨a, b, c, d, e, f, g, i, j, k, l⟩ := h
  refine ⟨⟨by rw [h7 _ (by omega)]; exact a.1, fun q hq => by rw [h7 _ (by omega)]; exact a.2.1 q hq, h6⟩, h1, h2, fun q hq => by rw [h7 _ (by omega)]; exact d q hq, ?_, h3, h4, h5, hl, hb, hw⟩
  rw [s_towers_agree (S' := S) (fun q hq => h7 _ (by omega))]; exact e
theorem q_A_cells (T : Nat → Int32) : ∀ (n k : Nat) (S : Nat → Int32), k + n = 36 → (∀ c, c < k → S c = -1 ∧ S (72 + c) = 0) → ∀ c, c < 36 → q_A T n k S c = -1 ∧ q_A T n k S (72 + c) = 0 := by
  intro n
  induction n with
  | zero => intro k S h1 h c hc; exact h c (by omega)
  | succ n ih =>
    intro k S h1 h
    rw [q_A]
    refine ih _ _ (by omega) (fun c hc => ?_)
    rw [zU_ne _ _ (by omega), zU_ne _ _ (by omega), s_lays_at, s_lays_at, if_neg (by omega), if_neg (by omega)]
    by_cases e : c = k
    · rw [if_pos e, if_pos (by omega)]; exact ⟨rfl, rfl⟩
    · rw [if_neg e, if_neg (by omega), if_neg (by omega), if_neg (by omega)]; exact h c (by omega)
def zpc (x1 : Int32) (S : Nat → Int32) : Prop := ∀ c, c < 36 → zside (S c) ∧ (S (72 + c) = 0 ∨ S (72 + c) = x1)
theorem zpc_lays {x1 : Int32} {S : Nat → Int32} (h : zpc x1 S) {c : Nat} (hc : c < 36) {a : Int32} (b : Int32) (ha : zside a) : zpc x1 (s_lays S c a b x1) := by
  intro q hq
  rw [s_lays_at, s_lays_at, if_neg (by omega), if_neg (by omega)]
  by_cases e : q = c
  · rw [if_pos e, if_pos (by omega)]; exact ⟨ha, Or.inr rfl⟩
  · rw [if_neg e, if_neg (by omega), if_neg (by omega), if_neg (by omega)]; exact h q hq
theorem q_B_cl {x1 : Int32} : ∀ (n k : Nat) (S : Nat → Int32), k + n ≤ 6 → zpc x1 S → zpc x1 (q_B x1 n k S) := by
  intro n
  induction n with
  | zero => intro k S h1 h; exact h
  | succ n ih =>
    intro k S h1 h
    rw [q_B]
    exact ih _ _ (by omega) (zpc_lays (zpc_lays (zpc_lays (zpc_lays h (by omega) _ (Or.inr (Or.inl rfl))) (by omega) _ (Or.inr (Or.inl rfl))) (by omega) _ (Or.inr (Or.inr rfl))) (by omega) _ (Or.inr (Or.inr rfl)))
theorem bg_tw_01 : ∀ c, c < 36 → z01 (bg_tw c) := by
  have h : ∀ c, c < 36 → (bg_tw c = 0 ∨ bg_tw c = 1) := by decide +kernel
  exact h
theorem bg_tw_6 : s_towers (fun j => bg_tw (j - 108)) = nI 6 := by decide +kernel
theorem inv_begins {S : Nat → Int32} (ht : ∀ j, 159 ≤ j → S j = 0) (hl : zlim S) (hb : z05 (S 150)) (hw : z05 (S 151)) : zInv (s_begins S) := by
  rw [s_begins_eq]
  have hi : ∀ j, 149 ≤ j → ¬ (152 ≤ j ∧ j < 159) → bg_R S j = S j := by
    intro j h1 h2
    unfold bg_R
    rw [q_C_at, if_neg (by omega)]
    unfold bg_G
    rw [zU_ne _ _ (by omega), zU_ne _ _ (by omega), zU_ne _ _ (by omega), zU_ne _ _ (by omega), zU_ne _ _ (by omega), q_B_hi _ (by omega) 6 0 _ (by omega)]
    rw [q_A_lo bg_tw bg_tw (by omega) 36 0 S S (by omega) rfl]
    have : ∀ (n k : Nat) (R : Nat → Int32), k + n ≤ 36 → q_A bg_tw n k R j = R j := by
      intro n
      induction n with
      | zero => intros; rfl
      | succ n ih =>
        intro k R hk
        rw [q_A, ih _ _ (by omega), zU_ne _ _ (by omega), s_lays_hi _ _ _ _ (by omega) (by omega)]
    exact this 36 0 S (by omega)
  have lo : ∀ j, j < 144 → bg_R S j = q_B (S 149 / 2) 6 0 (q_A bg_tw 36 0 S) j := by
    intro j h1
    unfold bg_R
    rw [q_C_at, if_neg (by omega)]
    unfold bg_G
    rw [zU_ne _ _ (by omega), zU_ne _ _ (by omega), zU_ne _ _ (by omega), zU_ne _ _ (by omega), zU_ne _ _ (by omega)]
  have tw : ∀ c, c < 36 → bg_R S (108 + c) = bg_tw c := by
    intro c hc
    rw [lo _ (by omega), q_B_hi _ (by omega) 6 0 _ (by omega), q_A_tw _ hc 36 0 _ (by omega), if_pos ⟨by omega, by omega⟩]
  have cl : zpc (S 149 / 2) (q_B (S 149 / 2) 6 0 (q_A bg_tw 36 0 S)) := by
    refine q_B_cl 6 0 _ (by omega) (fun c hc => ?_)
    have := q_A_cells bg_tw 36 0 S (by omega) (fun c hc => by omega) c hc
    rw [this.1, this.2]
    exact ⟨Or.inl rfl, Or.inl rfl⟩
  have md : bg_R S 144 = 0 ∧ bg_R S 145 = 0 ∧ bg_R S 146 = -1 ∧ bg_R S 148 = 0 ∧ bg_R S 157 = 0 := by
    unfold bg_R
    rw [q_C_at, q_C_at, q_C_at, q_C_at, q_C_at]
    unfold bg_G
    refine ⟨?_, ?_, ?_, ?_, ?_⟩
    · rw [if_neg (by omega), zU_ne _ _ (by omega), zU_ne _ _ (by omega), zU_ne _ _ (by omega), zU_ne _ _ (by omega), zU_eq]
    · rw [if_neg (by omega), zU_ne _ _ (by omega), zU_ne _ _ (by omega), zU_ne _ _ (by omega), zU_eq]
    · rw [if_neg (by omega), zU_ne _ _ (by omega), zU_ne _ _ (by omega), zU_eq]
    · rw [if_neg (by omega), zU_eq]
    · rw [if_pos (by omega)]
  obtain ⟨L, l1, l2, l3⟩ := hl
  have hall : zInv (bg_R S) := by
    refine ⟨⟨md.2.2.2.2, fun j hj => by rw [hi j (by omega) (by omega)]; exact ht j hj, Or.inl md.2.2.2.1⟩, fun c hc => ?_, fun c hc => ?_, fun c hc => ?_, ⟨6, by omega, ?_⟩, Or.inl md.1, Or.inl md.2.1, fun _ => md.2.2.1, ⟨L, l1, l2, ?_⟩, ?_, ?_⟩
    · rw [lo c (by omega)]; exact (cl c hc).1
    · rw [lo (72 + c) (by omega), hi 149 (by omega) (by omega)]
      rcases (cl c hc).2 with e | e
      · rw [e]; exact ⟨0, L, by omega, l2, l3, rfl⟩
      · rw [e, l3, nI_half l2]; exact ⟨L / 2, L, by omega, l2, rfl, rfl⟩
    · rw [tw c hc]; exact bg_tw_01 c hc
    · rw [← bg_tw_6]
      exact s_towers_agree (fun c hc => by rw [tw c hc, Nat.add_sub_cancel_left])
    · rw [hi 149 (by omega) (by omega)]; exact l3
    · rw [hi 150 (by omega) (by omega)]; exact hb
    · rw [hi 151 (by omega) (by omega)]; exact hw
  exact inv_free hall (by omega) _
/-- the springs cut down to the limit, from cell k on -/
def s_cut : Nat → Nat → (Nat → Int32) → (Nat → Int32)
  | 0, _, S => S
  | n + 1, k, S => s_cut n (k + 1) (if S (72 + k) - S 149 ≤ 0 then S else zU (zU S (72 + k) (S 149)) 158 (S 158 - (S (72 + k) - S 149)))
theorem k_cut (w : xW) (g : Nat) (kt : Nat → xW → xW) : ∀ (n j k : Nat) (S : Nat → Int32), k + j = 36 → j < n → d_X1_cutSprings_2 g kt n k (xv w g S) = kt 36 (xv w g (s_cut j k S)) := by
  intro n
  induction n with
  | zero => intro j k S h1 h2; omega
  | succ n ih =>
    intro j k S h1 h2
    rw [d_X1_cutSprings_2]
    cases j with
    | zero => rw [if_pos (by omega), show k = 36 by omega]; rfl
    | succ j =>
      rw [if_neg (by omega), zlet_def, k_springOn _ g (by omega), xv_row, xg_xv', s_cut]
      by_cases a : S (72 + k) - S 149 ≤ 0
      · rw [if_pos a, if_pos a]; exact ih j (k + 1) S (by omega) (by omega)
      · rw [if_neg a, if_neg a, zlet_def, zlet_def, k_changeSpring _ g (by omega), xv_row, xv_xv, xs_xv11, xg_xv', zU_ne _ _ (show 158 ≠ 72 + k by omega)]
        exact ih j (k + 1) _ (by omega) (by omega)
theorem i32_ss (a b : Int32) : a - (a - b) = b := by
  rw [Int32.sub_eq_add_neg, Int32.neg_sub, Int32.add_comm, Int32.sub_add_cancel]
theorem s_cut_ne {j : Nat} (hj : j ≠ 158) : ∀ (n k : Nat) (S : Nat → Int32), ¬ (72 + k ≤ j ∧ j < 72 + (k + n)) → s_cut n k S j = S j := by
  intro n
  induction n with
  | zero => intros; rfl
  | succ n ih =>
    intro k S h
    rw [s_cut, ih _ _ (by omega)]
    by_cases a : S (72 + k) - S 149 ≤ 0
    · rw [if_pos a]
    · rw [if_neg a, zU_ne _ _ hj, zU_ne _ _ (by omega)]
theorem s_cut_at {c : Nat} : ∀ (n k : Nat) (S : Nat → Int32), k + n ≤ 36 → k ≤ c → c < k + n → s_cut n k S (72 + c) = if S (72 + c) - S 149 ≤ 0 then S (72 + c) else S 149 := by
  intro n
  induction n with
  | zero => intros; omega
  | succ n ih =>
    intro k S h1 h2 h3
    rw [s_cut]
    by_cases e : c = k
    · rw [s_cut_ne (by omega) _ _ _ (by omega), e]
      by_cases a : S (72 + k) - S 149 ≤ 0
      · rw [if_pos a, if_pos a]
      · rw [if_neg a, if_neg a, zU_ne _ _ (by omega), zU_eq]
    · rw [ih _ _ (by omega) (by omega) (by omega)]
      by_cases a : S (72 + k) - S 149 ≤ 0
      · rw [if_pos a]
      · rw [if_neg a, zU_ne _ _ (show 72 + c ≠ 158 by omega), zU_ne _ _ (show 72 + c ≠ 72 + k by omega), zU_ne _ _ (show 149 ≠ 158 by omega), zU_ne _ _ (show 149 ≠ 72 + k by omega)]
theorem s_cut_id : ∀ (n k : Nat) (S : Nat → Int32), k + n ≤ 36 → (∀ c, c < 36 → S (72 + c) - S 149 ≤ 0) → s_cut n k S = S := by
  intro n
  induction n with
  | zero => intros; rfl
  | succ n ih =>
    intro k S h1 h
    rw [s_cut, if_pos (h k (by omega))]
    exact ih _ _ (by omega) h
theorem nI_diff : ∀ a b, a ≤ 12 → b ≤ 12 → (nI a - nI b ≤ 0 ↔ a ≤ b) := by
  have h : ∀ a, a < 13 → ∀ b, b < 13 → (nI a - nI b ≤ 0 ↔ a ≤ b) := by decide +kernel
  exact fun a b ha hb => h a (by omega) b (by omega)
theorem inv_cut {S : Nat → Int32} (h : zInv S) {v : Nat} (h1 : 1 ≤ v) (h2 : v ≤ 12) : zInv (s_cut 36 0 (zU S 149 (nI v))) := by
  have ne : ∀ j, j ≠ 158 → ¬ (72 ≤ j ∧ j < 108) → j ≠ 149 → s_cut 36 0 (zU S 149 (nI v)) j = S j := by
    intro j a b c
    rw [s_cut_ne a 36 0 _ (by omega), zU_ne _ _ c]
  have e149 : s_cut 36 0 (zU S 149 (nI v)) 149 = nI v := by
    rw [s_cut_ne (by omega) 36 0 _ (by omega), zU_eq]
  refine inv_gen' h (fun q hq => ?_) (fun q hq => ?_) ?_ ?_ ?_ ?_ ⟨v, h1, h2, e149⟩ ?_ ?_ (fun q hq => ?_)
  · rw [ne _ (by omega) (by omega) (by omega)]; exact h.2.1 q hq
  · rw [e149, s_cut_at 36 0 _ (by omega) (by omega) (by omega), zU_ne _ _ (by omega), zU_eq]
    obtain ⟨a, L, b1, b2, b3, b4⟩ := h.2.2.1 q hq
    rw [b4]
    by_cases c : nI a - nI v ≤ 0
    · rw [if_pos c]; exact ⟨a, v, (nI_diff a v (by omega) h2).mp c, h2, rfl, rfl⟩
    · rw [if_neg c]; exact ⟨v, v, Nat.le_refl _, h2, rfl, rfl⟩
  · rw [ne _ (by omega) (by omega) (by omega)]; exact h.2.2.2.2.2.1
  · rw [ne _ (by omega) (by omega) (by omega)]; exact h.2.2.2.2.2.2.1
  · rw [ne _ (by omega) (by omega) (by omega), ne _ (by omega) (by omega) (by omega)]; exact h.2.2.2.2.2.2.2.1
  · rw [ne _ (by omega) (by omega) (by omega)]; exact h.1.2.2
  · rw [ne _ (by omega) (by omega) (by omega)]; exact h.2.2.2.2.2.2.2.2.2.1
  · rw [ne _ (by omega) (by omega) (by omega)]; exact h.2.2.2.2.2.2.2.2.2.2
  · rw [ne _ (by omega) (by omega) (by omega)]
theorem inv_15x {S : Nat → Int32} (h : zInv S) {j v : Nat} (hj : j = 150 ∨ j = 151) (hv : v ≤ 5) : zInv (zU S j (nI v)) := by
  have e149 : zU S j (nI v) 149 = S 149 := zU_ne _ _ (by omega)
  refine inv_gen' h (fun q hq => ?_) (fun q hq => ?_) ?_ ?_ ?_ ?_ ?_ ?_ ?_ (fun q hq => ?_)
  · rw [zU_ne _ _ (by omega)]; exact h.2.1 q hq
  · rw [e149, zU_ne _ _ (by omega)]; exact h.2.2.1 q hq
  · rw [zU_ne _ _ (by omega)]; exact h.2.2.2.2.2.1
  · rw [zU_ne _ _ (by omega)]; exact h.2.2.2.2.2.2.1
  · rw [zU_ne _ _ (by omega), zU_ne _ _ (by omega)]; exact h.2.2.2.2.2.2.2.1
  · rw [zU_ne _ _ (by omega)]; exact h.1.2.2
  · unfold zlim; rw [e149]; exact h.2.2.2.2.2.2.2.2.1
  · rw [zU_at]
    by_cases e : 150 = j
    · rw [if_pos e]; exact ⟨v, hv, rfl⟩
    · rw [if_neg e]; exact h.2.2.2.2.2.2.2.2.2.1
  · rw [zU_at]
    by_cases e : 151 = j
    · rw [if_pos e]; exact ⟨v, hv, rfl⟩
    · rw [if_neg e]; exact h.2.2.2.2.2.2.2.2.2.2
  · rw [zU_ne _ _ (by omega)]
def s_tsum (S : Nat → Int32) : Nat → Nat → Int32
  | 0, _ => 0
  | n + 1, k => S (108 + k) + s_tsum S n (k + 1)
theorem s_towers_go (S : Nat → Int32) (kt : Int32 → Nat → Int32) : ∀ (n j k : Nat) (a : Int32), k + j = 36 → j < n → s_towers_4 S kt n a k = kt (a + s_tsum S j k) 36 := by
  intro n
  induction n with
  | zero => intro j k a h1 h2; omega
  | succ n ih =>
    intro j k a h1 h2
    rw [s_towers_4]
    cases j with
    | zero => rw [if_pos (by omega), show k = 36 by omega, s_tsum, Int32.add_zero]
    | succ j => rw [if_neg (by omega), zlet_def, ih j (k + 1) _ (by omega) (by omega), s_tsum, Int32.add_assoc]
theorem s_towers_sum (S : Nat → Int32) : s_towers S = s_tsum S 36 0 := by
  rw [s_towers, s_towers_go S _ 37 36 0 _ (by omega) (by omega), s_towers_4k, Int32.zero_add]
theorem s_tsum_zU (S : Nat → Int32) {c : Nat} (x : Int32) : ∀ (n k : Nat), s_tsum (zU S (108 + c) x) n k = s_tsum S n k + if k ≤ c ∧ c < k + n then x - S (108 + c) else 0 := by
  intro n
  induction n with
  | zero => intro k; rw [if_neg (by omega), s_tsum, s_tsum, Int32.add_zero]
  | succ n ih =>
    intro k
    rw [s_tsum, s_tsum, ih]
    by_cases e : k = c
    · rw [e, zU_eq, if_neg (by omega), if_pos ⟨by omega, by omega⟩, Int32.add_zero, Int32.add_comm (S (108 + c)), Int32.add_assoc, Int32.add_comm (S (108 + c)), Int32.sub_add_cancel, Int32.add_comm]
    · rw [zU_ne _ _ (by omega), Int32.add_assoc]
      by_cases d : k + 1 ≤ c ∧ c < k + 1 + n
      · rw [if_pos d, if_pos ⟨by omega, by omega⟩]
      · rw [if_neg d, if_neg (by omega)]
theorem s_tsum_pos {S : Nat → Int32} (h : ∀ c, c < 36 → z01 (S (108 + c))) {c : Nat} (hc : S (108 + c) = 1) : ∀ (n k : Nat), k + n ≤ 36 → ∃ m, m ≤ n ∧ s_tsum S n k = nI m ∧ (k ≤ c → c < k + n → 1 ≤ m) := by
  intro n
  induction n with
  | zero => intro k hk; exact ⟨0, by omega, rfl, fun a b => by omega⟩
  | succ n ih =>
    intro k hk
    obtain ⟨m, hm, hs, hp⟩ := ih (k + 1) (by omega)
    rw [s_tsum, hs]
    rcases h k (by omega) with e | e
    · rw [e]
      refine ⟨m, by omega, Int32.zero_add _, fun a b => ?_⟩
      by_cases z : k = c
      · rw [z] at e; rw [e] at hc; exact absurd hc (by decide)
      · exact hp (by omega) (by omega)
    · rw [e]
      exact ⟨m + 1, by omega, by rw [Int32.add_comm]; exact nI_1 m, fun a b => by omega⟩
theorem inv_tower {S : Nat → Int32} (h : zInv S) {c : Nat} (hc : c < 36) (h6 : S (108 + c) = 1 ∨ ¬ s_towers S = 6) : zInv (zU S (108 + c) (1 - S (108 + c))) := by
  have hh := h
  obtain ⟨a, b, c', d, e, f, g, i, j, k, l⟩ := h
  refine ⟨⟨by rw [zU_ne _ _ (by omega)]; exact a.1, fun q hq => by rw [zU_ne _ _ (by omega)]; exact a.2.1 q hq, by rw [zU_ne _ _ (by omega)]; exact a.2.2⟩, fun q hq => by rw [zU_ne _ _ (by omega)]; exact b q hq, fun q hq => by rw [zU_ne _ _ (by omega), zU_ne _ _ (by omega)]; exact c' q hq, fun q hq => ?_, ?_, by rw [zU_ne _ _ (by omega)]; exact f, by rw [zU_ne _ _ (by omega)]; exact g, by rw [zU_ne _ _ (by omega), zU_ne _ _ (by omega)]; exact i, ?_, by rw [zU_ne _ _ (by omega)]; exact k, by rw [zU_ne _ _ (by omega)]; exact l⟩
  · rw [zU_at]
    by_cases z : 108 + q = 108 + c
    · rw [if_pos z]
      rcases d c hc with y | y <;> rw [y]
      · exact Or.inr (by decide)
      · exact Or.inl (by decide)
    · rw [if_neg z]; exact d q hq
  · obtain ⟨n, hn, hs⟩ := e
    rw [s_towers_sum, s_tsum_zU, ← s_towers_sum, if_pos ⟨by omega, by omega⟩, hs]
    rcases d c hc with y | y
    · rw [y]
      have : n ≠ 6 := fun z => by
        rcases h6 with q | q
        · rw [y] at q; exact absurd q (by decide)
        · exact q (by rw [hs, z]; rfl)
      exact ⟨n + 1, by omega, (nI_1 n)⟩
    · rw [y]
      have hpos : n ≠ 0 := by
        intro z
        obtain ⟨m, hm, hs', hp⟩ := s_tsum_pos d y 36 0 (by omega)
        rw [s_towers_sum, hs'] at hs
        have := (nI_eq (by omega) (by omega)).mp hs
        have := hp (by omega) (by omega)
        omega
      refine ⟨n - 1, by omega, ?_⟩
      obtain ⟨m, rfl⟩ : ∃ m, n = m + 1 := ⟨n - 1, by omega⟩
      rw [Nat.add_sub_cancel, ← nI_pred m, Int32.sub_eq_add_neg (nI (m + 1))]
      rfl
  · unfold zlim; rw [zU_ne _ _ (by omega)]; exact j
