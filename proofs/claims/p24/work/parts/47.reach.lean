/-! how far a piece gets: the class's half -/
def zlf_c (f t k : Nat) : Bool := !(zAlb f t) || (!(Nat.ble k (zL f t)) || (k == 0 || !(zl f t k == f)))
theorem zlf_all : ∀ f, f < 36 → ∀ t, t < 36 → ∀ k, k < 6 → zlf_c f t k = true := by decide +kernel
theorem zl_ne_f {f t k : Nat} (hf : f < 36) (ht : t < 36) (ha : zAl f t) (h1 : 1 ≤ k) (hk : k ≤ zL f t) : ¬ zl f t k = f := by
  have h := zlf_all f hf t ht k (by have := zL_le f t hf ht; omega)
  unfold zlf_c at h
  rw [zAl_b.mp ha, show Nat.ble k (zL f t) = true from Nat.ble_eq.mpr hk] at h
  intro e
  rw [e] at h
  simp at h
  omega
theorem s_isFree_34_agreeF {S S' : Nat → Int32} {f t : Nat} (h : ∀ j, j < 36 → ¬ j = f → S j = S' j) (hf : f < 36) (ht : t < 36) (ha : zAl f t) (x1 : Int32) (kt : Nat → Int32) : ∀ (n k : Nat), 1 ≤ k → k ≤ zL f t → s_isFree_34 S f t x1 kt n k = s_isFree_34 S' f t x1 kt n k := by
  intro n
  induction n with
  | zero => intros; rfl
  | succ n ih =>
    intro k h1 hk
    rw [s_isFree_34, s_isFree_34]
    by_cases a : zl f t k = t
    · rw [if_pos a, if_pos a]
    · rw [if_neg a, if_neg a, h _ (zl_lt f t hf ht ha hk) (zl_ne_f hf ht ha h1 hk)]
      by_cases b : S' (zl f t k) = -1
      · rw [if_pos b, if_pos b, zlet_def, zlet_def]
        exact ih _ (by omega) (zl_n hf ht ha hk a)
      · rw [if_neg b, if_neg b]
theorem s_costBy_agreeF {S S' : Nat → Int32} {f t : Nat} (h : ∀ j, j < 36 → ¬ j = f → S j = S' j) (hf : f < 36) (ht : t < 36) (hne : ¬ t = f) (side kind : Int32) : s_costBy S side kind f t = s_costBy S' side kind f t := by
  unfold s_costBy zlet
  dsimp only
  rw [h t ht hne]
  have q1 : s_size (nI (t % 6) - nI (f % 6)) = nI (zdx f t) := (zsz_dx f hf t ht).1
  have q2 : s_size (nI (t / 6) - nI (f / 6)) = nI (zdy f t) := (zsz_dx f hf t ht).2
  rw [q1, q2]
  have a6 := @zdx_lt f t
  have b6 := zdy_lt hf ht
  by_cases h0 : nI (zdx f t) + nI (zdy f t) = 0
  · rw [if_pos h0, if_pos h0]
  · rw [if_neg h0, if_neg h0]
    have al : zdx f t = 0 ∨ zdy f t = 0 ∨ zdx f t = zdy f t → s_isFree S f t = s_isFree S' f t := fun q => by
      rw [s_isFree, s_isFree, zlet_def, zlet_def, zlet_def, zlet_def]
      exact s_isFree_34_agreeF h hf ht ⟨fun e => hne e.symm, q⟩ _ _ _ _ (by omega) (zl_1 hf ht ⟨fun e => hne e.symm, q⟩)
    by_cases k1 : kind = 1
    · rw [if_neg (show ¬ kind = 0 by rw [k1]; decide), if_pos k1, if_neg (show ¬ kind = 0 by rw [k1]; decide), if_pos k1]
      by_cases c1 : nI (zdx f t) = 0
      · rw [if_pos c1, if_pos c1, al (Or.inl (Eq.mp (z6_0 a6) c1))]
      · rw [if_neg c1, if_neg c1]
        by_cases c2 : nI (zdy f t) = 0
        · rw [if_pos c2, if_pos c2, al (Or.inr (Or.inl (Eq.mp (z6_0 b6) c2)))]
        · rw [if_neg c2, if_neg c2]
    · rw [if_neg k1, if_neg k1]
      by_cases c1 : nI (zdx f t) = nI (zdy f t)
      · rw [if_pos c1, if_pos c1, al (Or.inr (Or.inr (Eq.mp (z6_eq a6 b6) c1)))]
      · rw [if_neg c1, if_neg c1]
def z1M (x : Int32) : Prop := x = -1 ∨ ∃ m, m ≤ 12 ∧ x = nI m
theorem nI_subneg {m n : Nat} (h : m < n) (hn : n < 2 ^ 31) : (nI m - nI n).toInt ≤ -1 := by
  rw [Int32.toInt_sub, nI_toInt (by omega), nI_toInt hn]
  have : ((m : Int) - (n : Int)).bmod (2 ^ 32) = (m : Int) - (n : Int) := by
    rw [Int.bmod_def]
    split <;> omega
  rw [this]
  omega
theorem z1M_ge {v : Int32} (h : z1M v) : -1 ≤ v.toInt := by
  rcases h with e | ⟨m, hm, e⟩
  · rw [e]; decide
  · rw [e, nI_toInt (by omega)]; omega
/-- a cost not to be paid changes nothing -/
theorem z1M_no {v : Int32} {m n : Nat} (h : z1M v) (hmn : m < n) (hn : n < 2 ^ 31) : ¬ v < nI m - nI n := by
  intro q
  have a := Int32.lt_iff_toInt_lt.mp q
  have b := nI_subneg hmn hn
  have c := z1M_ge h
  omega
theorem z1M_step {R M : Nat → Int32} {s kd v : Int32} {t f : Nat} (hM : z1M (M f)) (hv : z1M v) : z1M (u_step R s kd M t f v) := by
  unfold u_step
  by_cases c : R t = -1 ∧ 0 ≤ M f ∧ 0 ≤ s_costBy R s kd f t ∧ v < M f - s_costBy R s kd f t
  · rw [if_pos c]
    obtain ⟨c1, c2, c3, c4⟩ := c
    rcases hM with e | ⟨m, hm, e⟩
    · rw [e] at c2; exact absurd c2 (by decide)
    · obtain ⟨n, hn, en⟩ := nI_of (Int32.not_lt.mpr c3)
      rw [e, en] at c4 ⊢
      by_cases g : m < n
      · exact absurd c4 (z1M_no hv g hn)
      · rw [nI_sub (by omega)]; exact Or.inr ⟨m - n, by omega, rfl⟩
  · rw [if_neg c]; exact hv
theorem z1M_fold {R M : Nat → Int32} {s kd : Int32} {t : Nat} (hM : ∀ f, f < 36 → z1M (M f)) : ∀ (n f : Nat) (v : Int32), f + n ≤ 36 → z1M v → z1M (u_fold R s kd M t n f v) := by
  intro n
  induction n with
  | zero => intro f v h1 h; exact h
  | succ n ih =>
    intro f v h1 h
    rw [u_fold]
    exact ih _ _ (by omega) (z1M_step (hM f (by omega)) h)
/-- a cell from which nothing can be paid changes nothing -/
theorem u_step_low {R M : Nat → Int32} {s kd v : Int32} {t f : Nat} (hf : f < 36) (ht : t < 36) (hM : z1M (M f)) (h0 : M f ≤ 0) (hv : z1M v) : u_step R s kd M t f v = v := by
  unfold u_step
  rw [if_neg]
  intro ⟨c1, c2, c3, c4⟩
  have e0 : M f = nI 0 := Int32.le_antisymm h0 c2
  obtain ⟨n, hn, en⟩ := nI_of (Int32.not_lt.mpr c3)
  have hn0 : ¬ n = 0 := fun z => s_cost_nz R s kd hf ht (by rw [en, z]; rfl)
  rw [e0, en] at c4
  exact z1M_no hv (by omega) hn c4
/-- what leaving cell f does for cell t, on a board where the piece stands on f -/
def l_step (Q : Nat → Int32) (f t : Nat) (v : Int32) : Int32 := if Q t = -1 then (if s_canGo Q f t = 0 then v else (if v < Q (72 + f) - s_costOf Q f t then Q (72 + f) - s_costOf Q f t else v)) else v
theorem l_u {R M Q : Nat → Int32} {s kd v : Int32} {t f : Nat} (hf : f < 36) (ht : t < 36) (hM : z1M (M f)) (h0 : ¬ M f ≤ 0) (hv : z1M v) (hs : ¬ s = -1) (q1 : ∀ j, j < 36 → ¬ j = f → Q j = R j) (q2 : Q f = s) (q3 : Q (36 + f) = kd) (q4 : Q (72 + f) = M f) : l_step Q f t v = u_step R s kd M t f v := by
  unfold l_step
  by_cases e : t = f
  · have hc : s_costBy R s kd f t = -1 := by
      rw [e]
      unfold s_costBy zlet
      dsimp only
      rw [if_pos]
      rw [Int32.sub_self, Int32.sub_self]; decide
    rw [if_neg (by rw [e, q2]; exact hs), u_step, if_neg]
    rw [hc]
    exact fun q => absurd q.2.2.1 (by decide)
  · have hc : s_costOf Q f t = s_costBy R s kd f t := by
      unfold s_costOf
      rw [q2, q3]
      exact s_costBy_agreeF q1 hf ht e _ _
    rw [q1 t ht e, q4, hc, u_step]
    by_cases a : R t = -1
    · rw [if_pos a, s_canGo, zlet_def, hc, q4]
      by_cases b : s_costBy R s kd f t < 0
      · rw [if_pos b, if_pos rfl, if_neg (fun q => Int32.not_le.mpr b q.2.2.1)]
      · rw [if_neg b]
        by_cases c : M f < s_costBy R s kd f t
        · rw [if_pos c, if_pos rfl, if_neg]
          intro ⟨_, c2, c3, c4⟩
          rcases hM with z | ⟨m, hm, z⟩
          · rw [z] at c2; exact absurd c2 (by decide)
          · obtain ⟨n, hn, en⟩ := nI_of b
            rw [z, en] at c4 c
            exact z1M_no hv ((nI_ltI (by omega) hn).mp c) hn c4
        · rw [if_neg c, if_neg (by decide)]
          by_cases d : v < M f - s_costBy R s kd f t
          · rw [if_pos d, if_pos ⟨a, Int32.le_of_lt (Int32.not_le.mp h0), Int32.not_lt.mp b, d⟩]
          · rw [if_neg d, if_neg (fun q => d q.2.2.2)]
    · rw [if_neg a, if_neg (fun q => a q.1)]
theorem k_leave (f : Nat) (hf : f < 36) (kt : Nat → xW → xW) (Q : Nat → Int32) (hQ : zsides Q) (hn : ¬ Q f = -1) : ∀ (n j t : Nat) (u : xW), t + j = 36 → j < n → u.1 1 = Q → d_X2_leaveFrom_10 f kt n t u = kt 36 (xv u (5 + zpr u 6) (fun b => if t ≤ b ∧ b < 36 then l_step Q f b (u.1 (5 + zpr u 6) b) else u.1 (5 + zpr u 6) b)) := by
  intro n
  induction n with
  | zero => intro j t u h1 h2; omega
  | succ n ih =>
    intro j t u h1 h2 hu
    have hz := zpr_34 u 6
    rw [d_X2_leaveFrom_10]
    by_cases ht : 36 ≤ t
    · rw [if_pos ht, show t = 36 by omega]
      congr 1
      conv => lhs; rw [← xv_self u (5 + zpr u 6)]
      congr 1
      funext b
      rw [if_neg (by omega)]
    · have ht' : t < 36 := by omega
      have key : ∀ x : Int32, x = l_step Q f t (u.1 (5 + zpr u 6) t) → d_X2_leaveFrom_10 f kt n (t + 1) (xv u (5 + zpr u 6) (zU (u.1 (5 + zpr u 6)) t x)) = kt 36 (xv u (5 + zpr u 6) (fun b => if t ≤ b ∧ b < 36 then l_step Q f b (u.1 (5 + zpr u 6) b) else u.1 (5 + zpr u 6) b)) := by
        intro x hx
        have hp : zpr (xv u (5 + zpr u 6) (zU (u.1 (5 + zpr u 6)) t x)) 6 = zpr u 6 := rfl
        rw [ih (j - 1) (t + 1) _ (by omega) (by omega) (by rw [xv_ne _ _ (by omega)]; exact hu), hp, xv_row, xv_xv]
        congr 2
        funext b
        by_cases hb : t + 1 ≤ b ∧ b < 36
        · rw [if_pos hb, if_pos (show t ≤ b ∧ b < 36 from ⟨by omega, hb.2⟩), zU_ne _ _ (by omega)]
        · rw [if_neg hb, zU_at]
          by_cases hb2 : b = t
          · rw [if_pos hb2, if_pos (show t ≤ b ∧ b < 36 from ⟨by omega, by omega⟩), hb2, hx]
          · rw [if_neg hb2, if_neg (by omega)]
      have same : xv u (5 + zpr u 6) (zU (u.1 (5 + zpr u 6)) t (u.1 (5 + zpr u 6) t)) = u := by
        conv => rhs; rw [← xv_self u (5 + zpr u 6)]
        congr 1
        funext b
        rw [zU_at]
        by_cases e : b = t
        · rw [if_pos e, e]
        · rw [if_neg e]
      have key0 : u.1 (5 + zpr u 6) t = l_step Q f t (u.1 (5 + zpr u 6) t) → d_X2_leaveFrom_10 f kt n (t + 1) u = kt 36 (xv u (5 + zpr u 6) (fun b => if t ≤ b ∧ b < 36 then l_step Q f b (u.1 (5 + zpr u 6) b) else u.1 (5 + zpr u 6) b)) := by
        intro hx
        have := key _ hx
        rw [same] at this
        exact this
      rw [if_neg ht, k_hasPiece u 1 ht', hu]
      by_cases a : Q t = -1
      · rw [if_pos a, if_pos rfl, k_canMove u 1 hf ht' (by rw [hu]; exact hQ f hf) (by rw [hu]; exact hQ t ht') (by rw [hu]; exact hn), hu]
        by_cases b : s_canGo Q f t = 0
        · rw [if_pos b]
          exact key0 (by unfold l_step; rw [if_pos a, if_pos b])
        · rw [if_neg b, zlet_def, zlet_def, xs_xv]
          refine key _ ?_
          have hc : ¬ s_costOf Q f t < 0 := by
            intro q
            rw [s_canGo, zlet_def, if_pos q] at b
            exact b rfl
          rw [k_springOn u 1 hf, k_price u 1 hf ht' (by rw [hu]; exact hQ f hf) (by rw [hu]; exact hQ t ht'), hu, if_neg hn]
          unfold l_step s_pos
          rw [if_pos a, if_neg b, if_neg hc]
          rfl
      · rw [if_neg a, if_neg (by decide)]
        exact key0 (by unfold l_step; rw [if_neg a])
