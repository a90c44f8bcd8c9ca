/-! the class's board, game by game, in the words of one row -/
theorem kc (w : xW) {c : Nat} (h : c < 36) : ¬ d_X2_isCell w (nI c) = 0 := by
  unfold d_X2_isCell
  rw [if_neg (nI_pos (by omega)), if_neg (show ¬ (36 : Int32) ≤ nI c from nI_ge (a := c) (b := 36) h (by decide))]
  decide
theorem k_sideOn (w : xW) (g : Nat) {c : Nat} (h : c < 36) : d_X0_sideOn w g c = w.1 g c := by
  unfold d_X0_sideOn
  rw [if_neg (kc w h)]
  rfl
theorem k_kindOn (w : xW) (g : Nat) {c : Nat} (h : c < 36) : d_X0_kindOn w g c = w.1 g (36 + c) := by
  unfold d_X0_kindOn
  rw [if_neg (kc w h)]
  rfl
theorem k_springOn (w : xW) (g : Nat) {c : Nat} (h : c < 36) : d_X0_springOn w g c = w.1 g (72 + c) := by
  unfold d_X0_springOn
  rw [if_neg (kc w h)]
  rfl
theorem k_hasPiece (w : xW) (g : Nat) {c : Nat} (h : c < 36) : d_X0_hasPiece w g c = if w.1 g c = -1 then 0 else 1 := by
  unfold d_X0_hasPiece
  rw [k_sideOn w g h]
theorem k_isTower (w : xW) (g : Nat) {c : Nat} (h : c < 36) : d_X0_isTower w g c = if w.1 g (108 + c) = 1 then 1 else 0 := by
  unfold d_X0_isTower
  rw [if_neg (kc w h)]
  rfl
theorem xs3 (w : xW) (v a b c : Nat) (x y z : Int32) : xs (xs (xs w v a x) v b y) v c z = xv w v (zU (zU (zU (w.1 v) a x) b y) c z) := by
  rw [xs_xv w, xs_xv (xv _ _ _), xv_row, xv_xv, xs_xv (xv _ _ _), xv_row, xv_xv]
theorem k_place (w : xW) (g : Nat) {c : Nat} (h : c < 36) (s k p : Int32) : d_X0_place w g c s k p = xv w g (s_lays (w.1 g) c s k p) := by
  unfold d_X0_place s_lays
  rw [if_neg (kc w h)]
  unfold zlet
  exact xs3 w g c (36 + c) (72 + c) s k p
theorem k_empty (w : xW) (g : Nat) {c : Nat} (h : c < 36) : d_X0_empty w g c = xv w g (s_lays (w.1 g) c (-1) 0 0) := by
  unfold d_X0_empty
  exact k_place w g h (-1) 0 0
theorem k_changeSpring (w : xW) (g : Nat) {c : Nat} (h : c < 36) (p : Int32) : d_X0_changeSpring w g c p = xv w g (zU (w.1 g) (72 + c) p) := by
  unfold d_X0_changeSpring
  rw [if_neg (kc w h)]
  exact xs_xv w g (72 + c) p
theorem k_markTower (w : xW) (g : Nat) {c : Nat} (h : c < 36) (b : Int32) : d_X0_markTower w g c b = xv w g (zU (w.1 g) (108 + c) (if b = 0 then 0 else 1)) := by
  unfold d_X0_markTower
  rw [if_neg (kc w h)]
  by_cases hb : b = 0
  · rw [if_pos hb, if_pos hb]; exact xs_xv w g (108 + c) 0
  · rw [if_neg hb, if_neg hb]; exact xs_xv w g (108 + c) 1
theorem k_springsOf_4 (w : xW) (g : Nat) (side : Int32) (kt : Int32 → Nat → Int32) : ∀ (n : Nat) (a : Int32) (c : Nat), d_X0_springsOf_4 w g side kt n a c = s_springs_4 (w.1 g) side kt n a c := by
  intro n
  induction n with
  | zero => intros; rfl
  | succ n ih =>
    intro a c
    rw [d_X0_springsOf_4, s_springs_4]
    by_cases h : 36 ≤ c
    · rw [if_pos h, if_pos h]
    · rw [if_neg h, if_neg h]
      unfold zlet
      by_cases h2 : w.1 g c = side
      · rw [if_pos (show xg w g c = side from h2)]
        dsimp only
        rw [if_pos h2, ih]
        rfl
      · rw [if_neg (show ¬ xg w g c = side from h2)]
        dsimp only
        rw [if_neg h2, ih, Int32.add_zero]
theorem k_springsOf (w : xW) (g : Nat) (side : Int32) : d_X0_springsOf w g side = s_springs (w.1 g) side := by
  unfold d_X0_springsOf s_springs
  exact k_springsOf_4 w g side s_springs_4k 37 0 0
theorem k_springsInAll (w : xW) (g : Nat) : d_X0_springsInAll w g = s_allSprings (w.1 g) := by
  unfold d_X0_springsInAll s_allSprings
  rw [k_springsOf, k_springsOf]
theorem k_pieces_4 (w : xW) (g : Nat) (kt : Int32 → Nat → Int32) : ∀ (n : Nat) (a : Int32) (c : Nat), d_X0_piecesInAll_4 w g kt n a c = s_pieces_4 (w.1 g) kt n a c := by
  intro n
  induction n with
  | zero => intros; rfl
  | succ n ih =>
    intro a c
    rw [d_X0_piecesInAll_4, s_pieces_4]
    by_cases h : 36 ≤ c
    · rw [if_pos h, if_pos h]
    · rw [if_neg h, if_neg h]
      unfold zlet
      by_cases h2 : w.1 g c = -1
      · rw [if_pos (show xg w g c = -1 from h2)]
        dsimp only
        rw [if_pos h2, ih, Int32.add_zero]
      · rw [if_neg (show ¬ xg w g c = -1 from h2)]
        dsimp only
        rw [if_neg h2, ih]
theorem k_pieces (w : xW) (g : Nat) : d_X0_piecesInAll w g = s_pieces (w.1 g) := by
  unfold d_X0_piecesInAll s_pieces
  exact k_pieces_4 w g s_pieces_4k 37 0 0
theorem k_towers_4 (w : xW) (g : Nat) (kt : Int32 → Nat → Int32) : ∀ (n : Nat) (a : Int32) (c : Nat), d_X0_towersInAll_4 w g kt n a c = s_towers_4 (w.1 g) kt n a c := by
  intro n
  induction n with
  | zero => intros; rfl
  | succ n ih =>
    intro a c
    rw [d_X0_towersInAll_4, s_towers_4]
    by_cases h : 36 ≤ c
    · rw [if_pos h, if_pos h]
    · rw [if_neg h, if_neg h]
      unfold zlet
      dsimp only
      rw [ih]
      rfl
theorem k_towers (w : xW) (g : Nat) : d_X0_towersInAll w g = s_towers (w.1 g) := by
  unfold d_X0_towersInAll s_towers
  exact k_towers_4 w g s_towers_4k 37 0 0
/-! lines -/
theorem zcmp (w : xW) (v : Int32) : d_J6_compare_7cf53 w v 0 = zsg v := by
  unfold d_J6_compare_7cf53 zsg
  by_cases h1 : v ≤ 0
  · by_cases h2 : 0 ≤ v
    · have e : v = 0 := Int32.le_antisymm h1 h2
      subst e
      rfl
    · rw [if_neg h2, if_pos h1, if_neg h2]
  · have h2 : 0 ≤ v := by
      rcases Int32.le_total 0 v with q | q
      · exact q
      · exact absurd q h1
    have h3 : ¬ v = 0 := fun q => h1 (by rw [q]; decide)
    rw [if_pos h2, if_neg h3, if_neg h1]
def zm_c (f t k : Nat) : Bool := !(zAlb f t) || (!(Nat.ble k (zL f t)) || decide (nI f + nI k * zst f t = nI (zl f t k)))
theorem zm_all : ∀ f, f < 36 → ∀ t, t < 36 → ∀ k, k < 6 → zm_c f t k = true := by decide +kernel
theorem zm_f {f t k : Nat} (hf : f < 36) (ht : t < 36) (ha : zAl f t) (hk : k ≤ zL f t) : nI f + nI k * zst f t = nI (zl f t k) := by
  have h5 := zL_le f t hf ht
  have h := zm_all f hf t ht k (by omega)
  unfold zm_c at h
  rw [zAl_b.mp ha, show Nat.ble k (zL f t) = true from Nat.ble_eq.mpr hk] at h
  simpa using h
theorem k_along_32 (w : xW) (g : Nat) {f t : Nat} (hf : f < 36) (ht : t < 36) (ha : zAl f t) (z : Int32) : ∀ (n k : Nat), k ≤ zL f t → zL f t < k + n → d_X0_priceAlong_32 w g f (nI (zL f t)) (zst f t) (d_X0_priceAlong_32k (nI (zL f t))) n k = if s_isFree_34 (w.1 g) f t z s_isFree_34k n k = 0 then 0 else nI (zL f t) := by
  intro n
  induction n with
  | zero => intro k h1 h2; omega
  | succ n ih =>
    intro k h1 h2
    have h5 := zL_le f t hf ht
    rw [d_X0_priceAlong_32, s_isFree_34]
    by_cases hk : k = zL f t
    · rw [if_pos (show nI (zL f t) ≤ nI k by rw [hk]; exact Int32.le_refl _), if_pos ((zl_f hf ht ha h1).2.1 hk)]
      unfold d_X0_priceAlong_32k s_isFree_34k
      rw [if_neg (by decide)]
    · have hlt : k < zL f t := by omega
      have hne := ((zl_f hf ht ha h1).2.2 hlt).1
      have h36 := (zl_f hf ht ha h1).1
      rw [if_neg (nI_ge hlt (by omega)), if_neg hne]
      unfold zlet
      dsimp only
      rw [zm_f hf ht ha h1, if_neg (nI_pos (by omega)), if_neg (show ¬ (36 : Int32) ≤ nI (zl f t k) from nI_ge (b := 36) h36 (by decide)), zcl (by omega)]
      by_cases hs : w.1 g (zl f t k) = -1
      · rw [if_pos (show xg w g (zl f t k) = -1 from hs), if_pos hs]
        exact ih (k + 1) (by omega) (by omega)
      · rw [if_neg (show ¬ xg w g (zl f t k) = -1 from hs), if_neg hs, if_pos rfl]
def zab (v : Int32) : Int32 := if 0 ≤ v then v else 0 - v
theorem zab_dx : ∀ f, f < 36 → ∀ t, t < 36 → zab (nI (t % 6) - nI (f % 6)) = nI (zdx f t) ∧ zab (nI (t / 6) - nI (f / 6)) = nI (zdy f t) := by decide +kernel
theorem k_along (w : xW) (g : Nat) {f t : Nat} (hf : f < 36) (ht : t < 36) (ha : zAl f t) : d_X0_priceAlong w g f (nI (t % 6) - nI (f % 6)) (nI (t / 6) - nI (f / 6)) = if s_isFree (w.1 g) f t = 0 then 0 else nI (zL f t) := by
  unfold d_X0_priceAlong s_isFree
  unfold zlet
  dsimp only
  rw [zcmp, zcmp]
  have e1 := (zab_dx f hf t ht).1
  have e2 := (zab_dx f hf t ht).2
  unfold zab at e1 e2
  rw [e1, e2]
  have e3 : (if nI (zdx f t) < nI (zdy f t) then nI (zdy f t) else nI (zdx f t)) = nI (zL f t) := by
    unfold zL
    have a1 := @zdx_lt f t
    have a2 := zdy_lt hf ht
    by_cases h : zdx f t < zdy f t
    · rw [if_pos h, if_pos (nI_lt h (by omega))]
    · rw [if_neg h, if_neg (nI_nlt (by omega) (by omega))]
  rw [e3]
  exact k_along_32 w g hf ht ha _ 7 1 (zl_1 hf ht ha) (by have := zL_le f t hf ht; omega)
def s_pos (c : Int32) : Int32 := if c < 0 then 0 else c
def zside (x : Int32) : Prop := x = -1 ∨ x = 0 ∨ x = 1
theorem s_pos_m1 : s_pos (-1) = 0 := by decide
theorem s_pos_n {n : Nat} (h : n < 2147483648) : s_pos (nI n) = nI n := by
  unfold s_pos
  rw [if_neg (nI_pos h)]
theorem z6_eq {a b : Nat} (ha : a < 6) (hb : b < 6) : (nI a = nI b) = (a = b) := propext (nI_eq (by omega) (by omega))
theorem z6_0 {a : Nat} (ha : a < 6) : (nI a = 0) = (a = 0) := propext (nI_eq (b := 0) (by omega) (by omega))
theorem z6_1 {a : Nat} (ha : a < 6) : (nI a = 1) = (a = 1) := propext (nI_eq (b := 1) (by omega) (by omega))
theorem z6_2 {a : Nat} (ha : a < 6) : ((2 : Int32) ≤ nI a) = (2 ≤ a) := propext (nI_leI (a := 2) (by omega) (by omega))
theorem z6_m {a b : Nat} (ha : a < 6) (hb : b < 6) : (nI a * nI b = 2) = (a * b = 2) := by
  rw [pk_mul]
  have : a * b ≤ 5 * 5 := Nat.mul_le_mul (by omega) (by omega)
  exact propext (nI_eq (b := 2) (by omega) (by omega))
theorem zdn {f t : Nat} (h : ¬ f = t) : ¬ (zdx f t = 0 ∧ zdy f t = 0) := by
  unfold zdx zdy
  omega
theorem znz' {a b : Nat} (ha : a < 6) (hb : b < 6) (h : ¬ (a = 0 ∧ b = 0)) : ¬ nI a + nI b = 0 := by
  rw [nI_add]
  intro q
  have := (nI_eq (b := 0) (by omega) (by omega)).mp q
  omega
theorem zL_max (f t : Nat) (hf : f < 36) (ht : t < 36) : (if nI (zdx f t) < nI (zdy f t) then nI (zdy f t) else nI (zdx f t)) = nI (zL f t) := by
  unfold zL
  have a1 := @zdx_lt f t
  have a2 := zdy_lt hf ht
  by_cases h : zdx f t < zdy f t
  · rw [if_pos h, if_pos (nI_lt h (by omega))]
  · rw [if_neg h, if_neg (nI_nlt (by omega) (by omega))]
theorem k_price (w : xW) (g : Nat) {f t : Nat} (hf : f < 36) (ht : t < 36) (h1 : zside (w.1 g f)) (h2 : zside (w.1 g t)) : d_X0_price w g f t = if w.1 g f = -1 then 0 else s_pos (s_costOf (w.1 g) f t) := by
  unfold d_X0_price
  rw [k_sideOn w g hf, k_sideOn w g ht, k_kindOn w g hf]
  unfold zlet
  dsimp only
  have e1 := (zab_dx f hf t ht).1
  have e2 := (zab_dx f hf t ht).2
  unfold zab at e1 e2
  rw [e1, e2, zL_max f t hf ht]
  have q1 : s_size (nI (t % 6) - nI (f % 6)) = nI (zdx f t) := (zsz_dx f hf t ht).1
  have q2 : s_size (nI (t / 6) - nI (f / 6)) = nI (zdy f t) := (zsz_dx f hf t ht).2
  unfold s_costOf s_costBy zlet
  dsimp only
  rw [q1, q2]
  have a6 := @zdx_lt f t
  have b6 := zdy_lt hf ht
  have al := fun (h : zAl f t) => k_along w g hf ht h
  have zle := zL_le f t hf ht
  generalize w.1 g = S at *
  by_cases hS : S f = -1
  · rw [if_pos hS, if_pos hS]
  · rw [if_neg hS, if_neg hS]
    by_cases hT : S t = S f
    · rw [if_pos hT]
      by_cases h0 : nI (zdx f t) + nI (zdy f t) = 0
      · rw [if_pos h0]; rfl
      · rw [if_neg h0, if_pos hT]; rfl
    · have hne : ¬ f = t := fun q => hT (by rw [q])
      have hz := zdn hne
      have h0 := znz' a6 b6 hz
      rw [if_neg hT, if_neg h0, if_neg hT]
      by_cases k0 : S (36 + f) = 0
      · rw [if_pos k0, if_pos k0]
        have : (nI (zL f t) = 1) = (zL f t = 1) := z6_1 (by omega)
        simp only [this, z6_2 a6, z6_2 b6]
        unfold zL
        by_cases c1 : 2 ≤ zdx f t
        · rw [if_pos c1, if_neg (by split <;> omega)]; rfl
        · rw [if_neg c1]
          by_cases c2 : 2 ≤ zdy f t
          · rw [if_pos c2, if_neg (by split <;> omega)]; rfl
          · rw [if_neg c2, if_pos (by split <;> omega)]; rfl
      rw [if_neg k0, if_neg k0]
      by_cases k1 : S (36 + f) = 1
      · rw [if_pos k1, if_pos k1]
        simp only [z6_0 a6, z6_0 b6]
        by_cases c1 : zdx f t = 0
        · rw [if_pos c1, if_pos c1, al ⟨hne, Or.inl c1⟩]
          by_cases hfr : s_isFree S f t = 0
          · rw [if_pos hfr, if_pos hfr]; rfl
          · rw [if_neg hfr, if_neg hfr, nI_add, s_pos_n (by omega)]
            congr 1
            unfold zL
            split <;> omega
        · rw [if_neg c1, if_neg c1]
          by_cases c2 : zdy f t = 0
          · rw [if_pos c2, if_pos c2, al ⟨hne, Or.inr (Or.inl c2)⟩]
            by_cases hfr : s_isFree S f t = 0
            · rw [if_pos hfr, if_pos hfr]; rfl
            · rw [if_neg hfr, if_neg hfr, nI_add, s_pos_n (by omega)]
              congr 1
              unfold zL
              split <;> omega
          · rw [if_neg c2, if_neg c2]; rfl
      rw [if_neg k1, if_neg k1]
      by_cases k2 : S (36 + f) = 2
      · rw [if_pos k2, if_pos k2]
        simp only [z6_eq a6 b6]
        by_cases c1 : zdx f t = zdy f t
        · rw [if_pos c1, if_pos c1, al ⟨hne, Or.inr (Or.inr c1)⟩]
          by_cases hfr : s_isFree S f t = 0
          · rw [if_pos hfr, if_pos hfr]; rfl
          · rw [if_neg hfr, if_neg hfr, s_pos_n (by omega)]
            congr 1
            unfold zL
            split <;> omega
        · rw [if_neg c1, if_neg c1]; rfl
      rw [if_neg k2, if_neg k2]
      by_cases k3 : S (36 + f) = 3
      · rw [if_pos k3, if_pos k3]
        by_cases c1 : nI (zdx f t) * nI (zdy f t) = 2
        · rw [if_pos c1, if_pos c1]; rfl
        · rw [if_neg c1, if_neg c1]; rfl
      rw [if_neg k3, if_neg k3]
      simp only [z6_0 a6, z6_1 a6]
      generalize nI (t / 6) - nI (f / 6) = U
      have n01 : ¬ (0 : Int32) = 1 := by decide
      have n0m : ¬ (0 : Int32) = -1 := by decide
      have n1m : ¬ (1 : Int32) = -1 := by decide
      rcases h1 with h | h | h
      · exact absurd h hS
      · rw [h]
        rw [if_pos rfl, show (1 : Int32) - 2 * 0 = 1 by decide, show (1 : Int32) - 0 = 1 by decide]
        by_cases u : U = 1
        · rw [if_pos u, if_pos u]
          rcases h2 with h' | h' | h'
          · rw [h']
            by_cases c1 : zdx f t = 0
            · simp [c1, s_pos]
            · by_cases c2 : zdx f t = 1
              · simp [c2]; decide
              · simp [c1, c2]; decide
          · exact absurd (h'.trans h.symm) hT
          · rw [h']
            by_cases c1 : zdx f t = 0
            · simp [c1]; decide
            · by_cases c2 : zdx f t = 1
              · simp [c2, s_pos]
              · simp [c1, c2]; decide
        · rw [if_neg u, if_neg u]; simp; decide
      · rw [h]
        rw [if_neg (by decide), show (1 : Int32) - 2 * 1 = -1 by decide, show (1 : Int32) - 1 = 0 by decide]
        by_cases u : U = -1
        · rw [if_pos u, if_pos u]
          rcases h2 with h' | h' | h'
          · rw [h']
            by_cases c1 : zdx f t = 0
            · simp [c1, s_pos]
            · by_cases c2 : zdx f t = 1
              · simp [c2]; decide
              · simp [c1, c2]; decide
          · rw [h']
            by_cases c1 : zdx f t = 0
            · simp [c1]; decide
            · by_cases c2 : zdx f t = 1
              · simp [c2, s_pos]
              · simp [c1, c2]; decide
          · exact absurd (h'.trans h.symm) hT
        · rw [if_neg u, if_neg u]; simp; decide
