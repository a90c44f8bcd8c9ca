theorem s_isFree_34_agree {S S' : Nat → Int32} (h : ∀ j, j < 36 → S j = S' j) {f t : Nat} (hf : f < 36) (ht : t < 36) (ha : zAl f t) (x1 : Int32) (kt : Nat → Int32) : ∀ (n k : Nat), k ≤ zL f t → s_isFree_34 S f t x1 kt n k = s_isFree_34 S' f t x1 kt n k := by
  intro n
  induction n with
  | zero => intros; rfl
  | succ n ih =>
    intro k hk
    rw [s_isFree_34, s_isFree_34]
    by_cases a : zl f t k = t
    · rw [if_pos a, if_pos a]
    · rw [if_neg a, if_neg a, h _ (zl_lt f t hf ht ha hk)]
      by_cases b : S' (zl f t k) = -1
      · rw [if_pos b, if_pos b, zlet_def, zlet_def]
        exact ih _ (zl_n hf ht ha hk a)
      · rw [if_neg b, if_neg b]
theorem s_isFree_agree {S S' : Nat → Int32} (h : ∀ j, j < 36 → S j = S' j) {f t : Nat} (hf : f < 36) (ht : t < 36) (ha : zAl f t) : s_isFree S f t = s_isFree S' f t := by
  rw [s_isFree, s_isFree, zlet_def, zlet_def, zlet_def, zlet_def]
  exact s_isFree_34_agree h hf ht ha _ _ _ _ (zl_1 hf ht ha)
theorem s_costBy_agree {S S' : Nat → Int32} (h : ∀ j, j < 36 → S j = S' j) {f t : Nat} (hf : f < 36) (ht : t < 36) (side kind : Int32) : s_costBy S side kind f t = s_costBy S' side kind f t := by
  unfold s_costBy zlet
  dsimp only
  rw [h t ht]
  have q1 : s_size (nI (t % 6) - nI (f % 6)) = nI (zdx f t) := (zsz_dx f hf t ht).1
  have q2 : s_size (nI (t / 6) - nI (f / 6)) = nI (zdy f t) := (zsz_dx f hf t ht).2
  rw [q1, q2]
  have a6 := @zdx_lt f t
  have b6 := zdy_lt hf ht
  by_cases h0 : nI (zdx f t) + nI (zdy f t) = 0
  · rw [if_pos h0, if_pos h0]
  · have hne : ¬ f = t := by
      intro e
      subst e
      refine h0 ?_
      unfold zdx zdy
      simp
      rfl
    rw [if_neg h0, if_neg h0]
    have al : zdx f t = 0 ∨ zdy f t = 0 ∨ zdx f t = zdy f t → s_isFree S f t = s_isFree S' f t := fun q => s_isFree_agree h hf ht ⟨hne, q⟩
    by_cases k1 : kind = 1
    · rw [if_neg (show ¬ kind = 0 by rw [k1]; decide), if_pos k1, if_neg (show ¬ kind = 0 by rw [k1]; decide), if_pos k1]
      by_cases c1 : nI (zdx f t) = 0
      · rw [if_pos c1, if_pos c1, al (Or.inl (Eq.mp (z6_0 a6) c1))]
      · rw [if_neg c1, if_neg c1]
        by_cases c2 : nI (zdy f t) = 0
        · rw [if_pos c2, if_pos c2, al (Or.inr (Or.inl (Eq.mp (z6_0 b6) c2)))]
        · rw [if_neg c2, if_neg c2]
    · rw [if_neg k1, if_neg k1]
      by_cases c1 : nI (zdx f t) = nI (zdy f t)
      · rw [if_pos c1, if_pos c1, al (Or.inr (Or.inr (Eq.mp (z6_eq a6 b6) c1)))]
      · rw [if_neg c1, if_neg c1]
theorem s_canGo_agree {S S' : Nat → Int32} (h : ∀ j, j < 36 → S j = S' j) {f t : Nat} (hf : f < 36) (ht : t < 36) (hk : S (36 + f) = S' (36 + f)) (hp : S (72 + f) = S' (72 + f)) : s_canGo S f t = s_canGo S' f t := by
  have e : s_costOf S f t = s_costOf S' f t := by
    unfold s_costOf
    rw [h f hf, hk]
    exact s_costBy_agree h hf ht _ _
  rw [s_canGo, s_canGo, e, hp]
