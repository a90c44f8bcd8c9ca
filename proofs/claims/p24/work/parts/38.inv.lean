/-! what a game's row keeps -/
def zlim (S : Nat → Int32) : Prop := ∃ L, 1 ≤ L ∧ L ≤ 12 ∧ S 149 = nI L
def zspr (l x : Int32) : Prop := ∃ k L, k ≤ L ∧ L ≤ 12 ∧ l = nI L ∧ x = nI k
def z05 (x : Int32) : Prop := ∃ k, k ≤ 5 ∧ x = nI k
def z01 (x : Int32) : Prop := x = 0 ∨ x = 1
def z012 (x : Int32) : Prop := x = 0 ∨ x = 1 ∨ x = 2
def zInv (S : Nat → Int32) : Prop := zRw S ∧ zsides S ∧ (∀ c, c < 36 → zspr (S 149) (S (72 + c))) ∧ (∀ c, c < 36 → z01 (S (108 + c))) ∧ (∃ n, n ≤ 6 ∧ s_towers S = nI n) ∧ z01 (S 144) ∧ z012 (S 145) ∧ (S 145 = 0 → S 146 = -1) ∧ zlim S ∧ z05 (S 150) ∧ z05 (S 151)
theorem s_towers_4_agree {S S' : Nat → Int32} (h : ∀ c, c < 36 → S (108 + c) = S' (108 + c)) (kt : Int32 → Nat → Int32) : ∀ (n : Nat) (a : Int32) (c : Nat), s_towers_4 S kt n a c = s_towers_4 S' kt n a c := by
  intro n
  induction n with
  | zero => intros; rfl
  | succ n ih =>
    intro a c
    rw [s_towers_4, s_towers_4]
    by_cases hc : 36 ≤ c
    · rw [if_pos hc, if_pos hc]
    · rw [if_neg hc, if_neg hc, zlet_def, zlet_def, h c (by omega)]
      exact ih _ _
theorem s_towers_agree {S S' : Nat → Int32} (h : ∀ c, c < 36 → S (108 + c) = S' (108 + c)) : s_towers S = s_towers S' := s_towers_4_agree h _ _ _ _
theorem inv_gen {S S' : Nat → Int32} (h : zInv S) (h1 : zsides S') (h2 : ∀ c, c < 36 → zspr (S 149) (S' (72 + c))) (h3 : z01 (S' 144)) (h4 : z012 (S' 145)) (h5 : S' 145 = 0 → S' 146 = -1) (h6 : z01 (S' 148)) (h7 : ∀ j, (108 ≤ j ∧ j < 144) ∨ (149 ≤ j ∧ j < 152) ∨ j = 157 ∨ 159 ≤ j → S' j = S j) : zInv S' := by
  obtain ⟨a, b, c, d, e, f, g, i, j, k, l⟩ := h
  refine ⟨⟨by rw [h7 _ (by omega)]; exact a.1, fun q hq => by rw [h7 _ (by omega)]; exact a.2.1 q hq, h6⟩, h1, fun q hq => by rw [h7 149 (by omega)]; exact h2 q hq, fun q hq => by rw [h7 _ (by omega)]; exact d q hq, ?_, h3, h4, h5, ?_, by rw [h7 _ (by omega)]; exact k, by rw [h7 _ (by omega)]; exact l⟩
  · rw [s_towers_agree (S' := S) (fun q hq => h7 _ (by omega))]; exact e
  · unfold zlim; rw [h7 _ (by omega)]; exact j
theorem inv_free {S : Nat → Int32} (h : zInv S) {j : Nat} (hj : j = 147 ∨ (152 ≤ j ∧ j < 157) ∨ j = 158) (x : Int32) : zInv (zU S j x) := by
  refine inv_gen h (fun q hq => ?_) (fun q hq => ?_) ?_ ?_ ?_ ?_ (fun q hq => ?_)
  · rw [zU_ne _ _ (by omega)]; exact h.2.1 q hq
  · rw [zU_ne _ _ (by omega)]; exact h.2.2.1 q hq
  · rw [zU_ne _ _ (by omega)]; exact h.2.2.2.2.2.1
  · rw [zU_ne _ _ (by omega)]; exact h.2.2.2.2.2.2.1
  · rw [zU_ne _ _ (by omega), zU_ne _ _ (by omega)]; exact h.2.2.2.2.2.2.2.1
  · rw [zU_ne _ _ (by omega)]; exact h.1.2.2
  · rw [zU_ne _ _ (by omega)]
theorem inv_lays {S : Nat → Int32} (h : zInv S) {c : Nat} (hc : c < 36) {a p : Int32} (b : Int32) (ha : zside a) (hp : zspr (S 149) p) : zInv (s_lays S c a b p) := by
  refine inv_gen h (fun q hq => ?_) (fun q hq => ?_) ?_ ?_ ?_ ?_ (fun q hq => ?_)
  · rw [s_lays_at, if_neg (by omega), if_neg (by omega)]
    by_cases e : q = c
    · rw [if_pos e]; exact ha
    · rw [if_neg e]; exact h.2.1 q hq
  · rw [s_lays_at]
    by_cases e : 72 + q = 72 + c
    · rw [if_pos e]; exact hp
    · rw [if_neg e, if_neg (by omega), if_neg (by omega)]; exact h.2.2.1 q hq
  · rw [s_lays_hi _ _ _ _ hc (by omega)]; exact h.2.2.2.2.2.1
  · rw [s_lays_hi _ _ _ _ hc (by omega)]; exact h.2.2.2.2.2.2.1
  · rw [s_lays_hi _ _ _ _ hc (by omega), s_lays_hi _ _ _ _ hc (by omega)]; exact h.2.2.2.2.2.2.2.1
  · rw [s_lays_hi _ _ _ _ hc (by omega)]; exact h.1.2.2
  · rw [s_lays_hi _ _ _ _ hc (by omega)]
theorem inv_spring {S : Nat → Int32} (h : zInv S) {c : Nat} (hc : c < 36) {p : Int32} (hp : zspr (S 149) p) : zInv (zU S (72 + c) p) := by
  refine inv_gen h (fun q hq => ?_) (fun q hq => ?_) ?_ ?_ ?_ ?_ (fun q hq => ?_)
  · rw [zU_ne _ _ (by omega)]; exact h.2.1 q hq
  · rw [zU_at]
    by_cases e : 72 + q = 72 + c
    · rw [if_pos e]; exact hp
    · rw [if_neg e]; exact h.2.2.1 q hq
  · rw [zU_ne _ _ (by omega)]; exact h.2.2.2.2.2.1
  · rw [zU_ne _ _ (by omega)]; exact h.2.2.2.2.2.2.1
  · rw [zU_ne _ _ (by omega), zU_ne _ _ (by omega)]; exact h.2.2.2.2.2.2.2.1
  · rw [zU_ne _ _ (by omega)]; exact h.1.2.2
  · rw [zU_ne _ _ (by omega)]
theorem inv_144 {S : Nat → Int32} (h : zInv S) {x : Int32} (hx : z01 x) : zInv (zU S 144 x) := by
  refine inv_gen h (fun q hq => ?_) (fun q hq => ?_) ?_ ?_ ?_ ?_ (fun q hq => ?_)
  · rw [zU_ne _ _ (by omega)]; exact h.2.1 q hq
  · rw [zU_ne _ _ (by omega)]; exact h.2.2.1 q hq
  · rw [zU_eq]; exact hx
  · rw [zU_ne _ _ (by omega)]; exact h.2.2.2.2.2.2.1
  · rw [zU_ne _ _ (by omega), zU_ne _ _ (by omega)]; exact h.2.2.2.2.2.2.2.1
  · rw [zU_ne _ _ (by omega)]; exact h.1.2.2
  · rw [zU_ne _ _ (by omega)]
theorem inv_148 {S : Nat → Int32} (h : zInv S) {x : Int32} (hx : z01 x) : zInv (zU S 148 x) := by
  refine inv_gen h (fun q hq => ?_) (fun q hq => ?_) ?_ ?_ ?_ ?_ (fun q hq => ?_)
  · rw [zU_ne _ _ (by omega)]; exact h.2.1 q hq
  · rw [zU_ne _ _ (by omega)]; exact h.2.2.1 q hq
  · rw [zU_ne _ _ (by omega)]; exact h.2.2.2.2.2.1
  · rw [zU_ne _ _ (by omega)]; exact h.2.2.2.2.2.2.1
  · rw [zU_ne _ _ (by omega), zU_ne _ _ (by omega)]; exact h.2.2.2.2.2.2.2.1
  · rw [zU_eq]; exact hx
  · rw [zU_ne _ _ (by omega)]
theorem inv_over {S : Nat → Int32} (h : zInv S) {x : Int32} (hx : x = 1 ∨ x = 2) (y : Int32) : zInv (zU (zU S 145 x) 146 y) := by
  refine inv_gen h (fun q hq => ?_) (fun q hq => ?_) ?_ ?_ ?_ ?_ (fun q hq => ?_)
  · rw [zU_ne _ _ (by omega), zU_ne _ _ (by omega)]; exact h.2.1 q hq
  · rw [zU_ne _ _ (by omega), zU_ne _ _ (by omega)]; exact h.2.2.1 q hq
  · rw [zU_ne _ _ (by omega), zU_ne _ _ (by omega)]; exact h.2.2.2.2.2.1
  · rw [zU_ne _ _ (by omega), zU_eq]; exact Or.inr hx
  · rw [zU_ne _ _ (by omega), zU_eq]; intro q; rcases hx with e | e <;> rw [e] at q <;> exact absurd q (by decide)
  · rw [zU_ne _ _ (by omega), zU_ne _ _ (by omega)]; exact h.1.2.2
  · rw [zU_ne _ _ (by omega), zU_ne _ _ (by omega)]
theorem zspr_0 {S : Nat → Int32} (h : zInv S) : zspr (S 149) 0 := by
  obtain ⟨L, h1, h2, h3⟩ := h.2.2.2.2.2.2.2.2.1
  exact ⟨0, L, by omega, h2, h3, rfl⟩
theorem nI_sub {a b : Nat} (h : b ≤ a) : nI a - nI b = nI (a - b) := by
  have e : nI a = nI (a - b) + nI b := by rw [nI_add, Nat.sub_add_cancel h]
  rw [e, Int32.add_sub_cancel]
theorem lesser_nI {a b : Nat} (ha : a < 2 ^ 31) (hb : b < 2 ^ 31) : s_lesser (nI a) (nI b) = nI (min a b) := by
  unfold s_lesser
  by_cases h : b ≤ a
  · rw [if_pos (nI_le h ha), Nat.min_eq_right h]
  · rw [if_neg (nI_ge (by omega) hb), Nat.min_eq_left (by omega)]
theorem inv_turns_20 (kt : Nat → (Nat → Int32) → (Nat → Int32)) (hk : ∀ k S, zInv S → zInv (kt k S)) : ∀ (n k : Nat) (S : Nat → Int32), 36 < k + n → k ≤ 36 → zInv S → zInv (s_turns_20 kt n k S) := by
  intro n
  induction n with
  | zero => intro k S h1 h2 h; omega
  | succ n ih =>
    intro k S h1 h2 h
    rw [s_turns_20]
    by_cases h36 : 36 ≤ k
    · rw [if_pos h36]; exact hk k S h
    · rw [if_neg h36]
      by_cases a : S (108 + k) = 1
      · rw [if_pos a]
        by_cases b : S k = S 144
        · rw [if_pos b, zlet_def, zlet_def, zlet_def]
          obtain ⟨q, L, hq, hL, hl, hs⟩ := h.2.2.1 k (by omega)
          obtain ⟨z, hz, hw⟩ := h.2.2.2.2.2.2.2.2.2.2
          refine ih _ _ (by omega) (by omega) (inv_free (inv_spring h (by omega) ⟨q + min z (L - q), L, by omega, hL, hl, ?_⟩) (by omega) _)
          rw [hl, hs, hw, nI_sub hq, lesser_nI (by omega) (by omega), nI_add]
        · rw [if_neg b]; exact ih _ _ (by omega) (by omega) h
      · rw [if_neg a]; exact ih _ _ (by omega) (by omega) h
theorem inv_turns {S : Nat → Int32} (h : zInv S) : zInv (s_turns S) := by
  rw [s_turns, zlet_def]
  refine inv_turns_20 _ (fun _ _ q => q) 37 0 _ (by omega) (by omega) (inv_144 h ?_)
  rcases h.2.2.2.2.2.1 with e | e <;> rw [e]
  · exact Or.inr (by decide)
  · exact Or.inl (by decide)
theorem inv_passes {S : Nat → Int32} (h : zInv S) : zInv (s_passes S) := by
  rw [s_passes, zlet_def]
  have h1 : zInv (zU S 147 (S 147 + 1)) := inv_free h (by omega) _
  by_cases a : zU S 147 (S 147 + 1) 148 = 1
  · rw [if_pos a, zlet_def, zlet_def, zlet_def, zlet_def]
    exact inv_over h1 (Or.inr rfl) _
  · rw [if_neg a, zlet_def, zlet_def]
    exact inv_turns (inv_148 h1 (Or.inr rfl))
theorem inv_won {S Z : Nat → Int32} (h : zInv Z) (f t : Nat) : zInv (s_won S f t Z) := by
  unfold s_won
  by_cases a : S (36 + t) = 0
  · rw [if_pos a]; exact inv_over h (Or.inl rfl) _
  · rw [if_neg a]; exact h
theorem nI_half {k : Nat} (h : k ≤ 12) : nI k / 2 = nI (k / 2) := by
  have : ∀ k, k < 13 → nI k / 2 = nI (k / 2) := by decide
  exact this k (by omega)
theorem s_won_149 (S : Nat → Int32) (f t : Nat) (Z : Nat → Int32) : s_won S f t Z 149 = Z 149 := by
  unfold s_won
  by_cases a : S (36 + t) = 0
  · rw [if_pos a, zU_ne _ _ (by omega), zU_ne _ _ (by omega)]
  · rw [if_neg a]
theorem inv_goes {S : Nat → Int32} (h : zInv S) {f t : Nat} (hf : f < 36) (ht : t < 36) (hc : ¬ s_costOf S f t < 0) (hs : s_costOf S f t ≤ S (72 + f)) : zInv (s_goes S f t) := by
  obtain ⟨q, L, hq, hL, hl, hsp⟩ := h.2.2.1 f hf
  obtain ⟨n, hn, hcn⟩ := nI_of2 (n := q) (M := S (72 + f)) (by rw [hsp]; exact nI_toInt (by omega)) hc hs
  by_cases a : S t = -1
  · rw [s_goes_A S hf ht a]
    refine inv_free (inv_lays (inv_lays h hf _ (Or.inl rfl) (zspr_0 h)) ht _ (h.2.1 f hf) ?_) (by omega) _
    rw [s_lays_hi _ _ _ _ hf (by omega)]
    exact ⟨q - n, L, by omega, hL, hl, by rw [hsp, hcn, nI_sub hn]⟩
  · rw [s_goes_B S hf ht a]
    have h1 : zInv (s_won S f t (zU (zU S 154 (S 154 + S 150)) 156 (s_lost S f t))) := inv_won (inv_free (inv_free h (by omega) _) (by omega) _) f t
    refine inv_free (inv_lays (inv_lays h1 hf _ (Or.inl rfl) (zspr_0 h1)) ht _ (h.2.1 f hf) ?_) (by omega) _
    rw [s_lays_hi _ _ _ _ hf (by omega), s_won_149, zU_ne _ _ (by omega), zU_ne _ _ (by omega)]
    obtain ⟨p, L', hp, hL', hl', htp⟩ := h.2.2.1 t ht
    obtain ⟨b, hb, hb2⟩ := h.2.2.2.2.2.2.2.2.2.1
    unfold s_tk
    rw [hl, hsp, htp, hb2, hcn, nI_sub hn, nI_half (by omega), nI_add, nI_add, lesser_nI (by omega) (by omega)]
    exact ⟨min L (q - n + (p / 2 + b)), L, Nat.min_le_left _ _, hL, rfl, rfl⟩
theorem inv_makes {S : Nat → Int32} (h : zInv S) {f t : Nat} (hf : f < 36) (ht : t < 36) (hc : ¬ s_costOf S f t < 0) (hs : s_costOf S f t ≤ S (72 + f)) : zInv (s_makes S f t) := by
  rw [s_makes_eq]
  have h1 : zInv (s_carry S f t) := inv_148 (inv_free (inv_goes h hf ht hc hs) (by omega) _) (Or.inl rfl)
  by_cases a : s_carry S f t 145 = 0
  · rw [if_pos a]; exact inv_turns h1
  · rw [if_neg a]; exact h1
