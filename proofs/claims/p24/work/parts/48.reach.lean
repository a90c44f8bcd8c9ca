theorem u_fold_agree {R M M' : Nat → Int32} {s kd : Int32} {t : Nat} (h : ∀ f, f < 36 → M f = M' f) : ∀ (n f : Nat) (v : Int32), f + n ≤ 36 → u_fold R s kd M t n f v = u_fold R s kd M' t n f v := by
  intro n
  induction n with
  | zero => intros; rfl
  | succ n ih =>
    intro f v h1
    have e : u_step R s kd M t f v = u_step R s kd M' t f v := by
      unfold u_step
      rw [h f (by omega)]
    rw [u_fold, u_fold, e]
    exact ih _ _ (by omega)
theorem u_wide_agree {R M M' : Nat → Int32} {s kd : Int32} (h : ∀ f, f < 36 → M f = M' f) : ∀ t, t < 36 → u_wide R s kd M t = u_wide R s kd M' t := by
  intro t ht
  unfold u_wide
  rw [if_pos ht, if_pos ht, h t ht]
  exact u_fold_agree h _ _ _ (by omega)
theorem u_iter_agree {R : Nat → Int32} {s kd : Int32} : ∀ (n : Nat) (M M' : Nat → Int32), (∀ f, f < 36 → M f = M' f) → ∀ t, t < 36 → u_iter R s kd n M t = u_iter R s kd n M' t := by
  intro n
  induction n with
  | zero => intro M M' h t ht; exact h t ht
  | succ n ih =>
    intro M M' h t ht
    rw [u_iter, u_iter]
    exact ih _ _ (u_wide_agree h) t ht
theorem u_cnt_agree {M M' : Nat → Int32} (h : ∀ f, f < 36 → M f = M' f) : ∀ (n f : Nat) (a : Int32), f + n ≤ 36 → u_cnt M n f a = u_cnt M' n f a := by
  intro n
  induction n with
  | zero => intros; rfl
  | succ n ih =>
    intro f a h1
    rw [u_cnt, u_cnt, h f (by omega)]
    exact ih _ _ (by omega)
def zRe (w0 : xW) (R M : Nat → Int32) (u : xW) : Prop := (∀ v, ¬ v = 1 → ¬ v = 8 → ¬ v = 9 → u.1 v = w0.1 v) ∧ (∀ i, i < 5 → zpg u i = zpg w0 i) ∧ ¬ zpr u 5 = zpr u 6 ∧ zRw (u.1 1) ∧ (∀ j, j < 36 → u.1 1 j = R j) ∧ (∀ f, f < 36 → u.1 (5 + zpr u 5) f = M f)
def zRf (w0 : xW) (R M T : Nat → Int32) (u : xW) : Prop := zRe w0 R M u ∧ (∀ t, t < 36 → u.1 (5 + zpr u 6) t = T t)
theorem k_wide_26 {w0 : xW} {R M : Nat → Int32} {s kd : Int32} (hR : zsides R) (hs : s = 0 ∨ s = 1) (hM : ∀ f, f < 36 → z1M (M f)) (hRM : ∀ f, f < 36 → ¬ M f ≤ 0 → R f = -1) (kt : Nat → xW → xW) : ∀ (n j f : Nat) (u : xW) (T : Nat → Int32), f + j = 36 → j < n → zRf w0 R M T u → (∀ t, t < 36 → z1M (T t)) → ∃ u', d_X2_makeReachWider_26 s kd kt n f u = kt 36 u' ∧ zRf w0 R M (fun t => u_fold R s kd M t j f (T t)) u' := by
  have hsn : ¬ s = -1 := by rcases hs with e | e <;> rw [e] <;> decide
  intro n
  induction n with
  | zero => intro j f u T h1 h2; omega
  | succ n ih =>
    intro j f u T h1 h2 hu hT
    rw [d_X2_makeReachWider_26]
    cases j with
    | zero =>
      refine ⟨u, ?_, hu⟩
      rw [if_pos (by omega), show f = 36 by omega]
    | succ j =>
      have hf : f < 36 := by omega
      obtain ⟨⟨a, b, c, d, e, g⟩, t⟩ := hu
      have h5 := zpr_34 u 5
      have h6 := zpr_34 u 6
      rw [if_neg (by omega), xg_row, g f hf]
      by_cases h0 : M f ≤ 0
      · rw [if_pos h0]
        obtain ⟨u', e1, e2, e3⟩ := ih j (f + 1) u T (by omega) (by omega) ⟨⟨a, b, c, d, e, g⟩, t⟩ hT
        refine ⟨u', e1, e2, fun q hq => ?_⟩
        rw [e3 q hq]
        show _ = u_fold R s kd M q (j + 1) f (T q)
        rw [u_fold, u_step_low hf hq (hM f hf) h0 (hT q hq)]
      · rw [if_neg h0, zlet_def, zlet_def, zlet_def, k_place u 1 hf]
        have q1 : ∀ j, j < 36 → ¬ j = f → s_lays (u.1 1) f s kd (M f) j = R j := by
          intro j hj hjf
          rw [s_lays_at, if_neg (by omega), if_neg (by omega), if_neg hjf]
          exact e j hj
        have q2 : s_lays (u.1 1) f s kd (M f) f = s := by
          rw [s_lays_at, if_neg (by omega), if_neg (by omega), if_pos rfl]
        have q3 : s_lays (u.1 1) f s kd (M f) (36 + f) = kd := by
          rw [s_lays_at, if_neg (by omega), if_pos rfl]
        have q4 : s_lays (u.1 1) f s kd (M f) (72 + f) = M f := by
          rw [s_lays_at, if_pos rfl]
        have hQs : zsides (s_lays (u.1 1) f s kd (M f)) := by
          intro j hj
          by_cases z : j = f
          · rw [z, q2]; exact Or.inr hs
          · rw [q1 j hj z]; exact hR j hj
        rw [d_X2_leaveFrom, k_leave f hf _ (s_lays (u.1 1) f s kd (M f)) hQs (by rw [q2]; exact hsn) 37 36 0 _ (by omega) (by omega) (xv_row _ _ _), d_X2_leaveFrom_10k, k_empty _ 1 hf]
        have p6 : zpr (xv u 1 (s_lays (u.1 1) f s kd (M f))) 6 = zpr u 6 := rfl
        rw [p6, xv_ne _ _ (show ¬ 5 + zpr u 6 = 1 by omega)]
        rw [xv_ne _ _ (show ¬ 1 = 5 + zpr u 6 by omega), xv_row]
        obtain ⟨u', e1, e2, e3⟩ := ih j (f + 1) (xv (xv (xv u 1 (s_lays (u.1 1) f s kd (M f))) (5 + zpr u 6) (fun b => if 0 ≤ b ∧ b < 36 then l_step (s_lays (u.1 1) f s kd (M f)) f b (u.1 (5 + zpr u 6) b) else u.1 (5 + zpr u 6) b)) 1 (s_lays (s_lays (u.1 1) f s kd (M f)) f (-1) 0 0)) (fun q => u_step R s kd M q f (T q)) (by omega) (by omega) (by
          refine ⟨⟨?_, b, c, ?_, ?_, ?_⟩, ?_⟩
          · intro v v1 v8 v9
            rw [xv_ne _ _ v1, xv_ne _ _ (by omega), xv_ne _ _ v1]
            exact a v v1 v8 v9
          · rw [xv_row]; exact zRw_lays (zRw_lays d hf _ _ _) hf _ _ _
          · intro j hj
            rw [xv_row, s_lays_at, if_neg (by omega), if_neg (by omega)]
            by_cases z : j = f
            · rw [if_pos z, z]; exact (hRM f hf h0).symm
            · rw [if_neg z]; exact q1 j hj z
          · intro q hq
            show (xv (xv (xv u 1 _) (5 + zpr u 6) _) 1 _).1 (5 + zpr u 5) q = M q
            rw [xv_ne _ _ (by omega), xv_ne _ _ (by omega), xv_ne _ _ (by omega)]
            exact g q hq
          · intro q hq
            show (xv (xv (xv u 1 _) (5 + zpr u 6) _) 1 _).1 (5 + zpr u 6) q = _
            rw [xv_ne _ _ (by omega), xv_row, if_pos ⟨Nat.zero_le _, hq⟩, t q hq]
            exact l_u hf hq (hM f hf) h0 (hT q hq) hsn q1 q2 q3 q4) (fun q hq => z1M_step (hM f hf) (hT q hq))
        refine ⟨u', e1, e2, fun q hq => ?_⟩
        rw [e3 q hq]
        rfl
theorem k_wide {w0 : xW} {R M : Nat → Int32} {s kd : Int32} (hR : zsides R) (hs : s = 0 ∨ s = 1) (hM : ∀ f, f < 36 → z1M (M f)) (hRM : ∀ f, f < 36 → ¬ M f ≤ 0 → R f = -1) {u : xW} (hu : zRe w0 R M u) : zRe w0 R (u_wide R s kd M) (d_X2_makeReachWider u s kd) := by
  obtain ⟨a, b, c, d, e, g⟩ := hu
  have h5 := zpr_34 u 5
  have h6 := zpr_34 u 6
  rw [d_X2_makeReachWider, zlet_def, xcopy_xv, zcp_0]
  obtain ⟨u', e1, ⟨a', b', c', d', e', g'⟩, t'⟩ := k_wide_26 (w0 := w0) hR hs hM hRM (kd := kd) d_X2_makeReachWider_26k 37 36 0 (xv u (5 + zpr u 6) (zpx (u.1 (5 + zpr u 6)) (u.1 (5 + zpr u 5)) 36)) M (by omega) (by omega) (by
    refine ⟨⟨?_, b, c, ?_, ?_, ?_⟩, ?_⟩
    · intro v v1 v8 v9
      rw [xv_ne _ _ (by omega)]
      exact a v v1 v8 v9
    · rw [xv_ne _ _ (by omega)]; exact d
    · rw [xv_ne _ _ (by omega)]; exact e
    · intro q hq
      show (xv u (5 + zpr u 6) _).1 (5 + zpr u 5) q = M q
      rw [xv_ne _ _ (by omega)]
      exact g q hq
    · intro q hq
      show (xv u (5 + zpr u 6) _).1 (5 + zpr u 6) q = M q
      rw [xv_row, zpx_lo hq]
      exact g q hq) hM
  rw [e1, d_X2_makeReachWider_26k, zlet_def, zlet_def]
  have h5' := zpr_34 u' 5
  have h6' := zpr_34 u' 6
  have z5 : zpr (xp (xp u' 5 (zpr u' 6 - 3)) 6 (zpr u' 5 - 3)) 5 = zpr u' 6 := by
    show 3 + (zpr u' 6 - 3) % 2 = zpr u' 6
    omega
  have z6 : zpr (xp (xp u' 5 (zpr u' 6 - 3)) 6 (zpr u' 5 - 3)) 6 = zpr u' 5 := by
    show 3 + (zpr u' 5 - 3) % 2 = zpr u' 5
    omega
  refine ⟨a', ?_, ?_, d', e', ?_⟩
  · intro i hi
    rw [zpg_xp, zpg_xp, if_neg (by omega), if_neg (by omega)]
    exact b' i hi
  · rw [z5, z6]; exact fun q => c' q.symm
  · intro q hq
    rw [z5]
    show u'.1 (5 + zpr u' 6) q = _
    rw [t' q hq]
    unfold u_wide
    rw [if_pos hq]
theorem u_wide_1M {R M : Nat → Int32} {s kd : Int32} (hM : ∀ f, f < 36 → z1M (M f)) : ∀ f, f < 36 → z1M (u_wide R s kd M f) := by
  intro f hf
  unfold u_wide
  rw [if_pos hf]
  exact z1M_fold hM _ _ _ (by omega) (hM f hf)
theorem u_wide_RM {R M : Nat → Int32} {s kd : Int32} (hRM : ∀ f, f < 36 → ¬ M f ≤ 0 → R f = -1) : ∀ f, f < 36 → ¬ u_wide R s kd M f ≤ 0 → R f = -1 := by
  intro f hf h
  by_cases a : R f = -1
  · exact a
  · refine hRM f hf ?_
    unfold u_wide at h
    rw [if_pos hf, u_fold_no _ _ _ a] at h
    exact h
theorem k_reach_136 {w0 : xW} {R : Nat → Int32} {s kd : Int32} (hR : zsides R) (hs : s = 0 ∨ s = 1) (c : Nat) (kt : Nat → xW → Int32 × xW) : ∀ (n j k : Nat) (u : xW) (M : Nat → Int32), k + j = c → j < n → zRe w0 R M u → (∀ f, f < 36 → z1M (M f)) → (∀ f, f < 36 → ¬ M f ≤ 0 → R f = -1) → ∃ u', d_X2_reach_136 c s kd kt n k u = kt c u' ∧ zRe w0 R (u_iter R s kd j M) u' ∧ (∀ f, f < 36 → z1M (u_iter R s kd j M f)) := by
  intro n
  induction n with
  | zero => intro j k u M h1 h2; omega
  | succ n ih =>
    intro j k u M h1 h2 hu hM hRM
    rw [d_X2_reach_136]
    cases j with
    | zero =>
      refine ⟨u, ?_, hu, hM⟩
      rw [if_pos (by omega), show k = c by omega]
    | succ j =>
      rw [if_neg (by omega), zlet_def]
      exact ih j (k + 1) _ _ (by omega) (by omega) (k_wide hR hs hM hRM hu) (u_wide_1M hM) (u_wide_RM hRM)
theorem k_reach_92 (c : Nat) (hc : c < 36) (kt : Nat → xW → Int32 × xW) : ∀ (n j k : Nat) (u : xW), k + j = 36 → j < n → d_X2_reach_92 c kt n k u = kt 36 (xv u (5 + zpr u 5) (fun b => if k ≤ b ∧ b < 36 then (if b = c then u.1 0 (72 + c) else -1) else u.1 (5 + zpr u 5) b)) := by
  intro n
  induction n with
  | zero => intro j k u h2 h3; omega
  | succ n ih =>
    intro j k u h2 h3
    have hz := zpr_34 u 5
    rw [d_X2_reach_92]
    by_cases hk : 36 ≤ k
    · rw [if_pos hk, show k = 36 by omega]
      congr 1
      conv => lhs; rw [← xv_self u (5 + zpr u 5)]
      congr 1
      funext b
      rw [if_neg (by omega)]
    · rw [if_neg hk, zlet_def, zlet_def, xs_xv, k_springOn u 0 hc]
      have hp : ∀ S, zpr (xv u (5 + zpr u 5) S) 5 = zpr u 5 := fun _ => rfl
      rw [ih (j - 1) (k + 1) _ (by omega) (by omega), hp, xv_xv, xv_ne _ _ (show ¬ 0 = 5 + zpr u 5 by omega), xv_row]
      congr 2
      funext b
      by_cases hb : k + 1 ≤ b ∧ b < 36
      · rw [if_pos hb, if_pos (show k ≤ b ∧ b < 36 from ⟨by omega, hb.2⟩)]
      · rw [if_neg hb, zU_at]
        by_cases hb2 : b = k
        · rw [if_pos hb2, if_pos (show k ≤ b ∧ b < 36 from ⟨by omega, by omega⟩), hb2]
        · rw [if_neg hb2, if_neg (by omega)]
theorem k_cells (w : xW) (M : Nat → Int32) (h : ∀ f, f < 36 → w.1 (5 + zpr w 5) f = M f) (hM : ∀ f, f < 36 → z1M (M f)) (kt : Int32 → Nat → Int32) : ∀ (n j k : Nat) (a : Int32), k + j = 36 → j < n → d_X2_cellsReached_4 w kt n a k = kt (u_cnt M j k a) 36 := by
  intro n
  induction n with
  | zero => intro j k a h2 h3; omega
  | succ n ih =>
    intro j k a h2 h3
    rw [d_X2_cellsReached_4]
    cases j with
    | zero => rw [if_pos (by omega), show k = 36 by omega]; rfl
    | succ j =>
      rw [if_neg (by omega), xg_row, h k (by omega), u_cnt]
      rcases hM k (by omega) with e | ⟨m, hm, e⟩
      · rw [if_pos e, if_pos (by rw [e]; decide), Int32.add_zero]
        exact ih j (k + 1) _ (by omega) (by omega)
      · have n1 : ¬ M k < 0 := by rw [e]; exact nI_pos (by omega)
        rw [if_neg (fun q => n1 (by rw [q]; decide)), if_neg n1]
        exact ih j (k + 1) _ (by omega) (by omega)
theorem zCR_re {w u : xW} {A : xA} {R M : Nat → Int32} (h : zCR w A) (hu : zRe w R M u) : zCR u A := by
  obtain ⟨k5, a, b, c, d, e, g, i, j, pr⟩ := h
  obtain ⟨a', b', c', d', e', g'⟩ := hu
  refine ⟨k5, by rw [a' 0 (by omega) (by omega) (by omega)]; exact a, by rw [a' 10 (by omega) (by omega) (by omega)]; exact b, by rw [a' 10 (by omega) (by omega) (by omega)]; exact c, fun q hq => by rw [b' q hq]; exact d q hq, fun p q hp hq => by rw [b' q hq, b' p hp]; exact e p q hp hq, fun q hq => ?_, fun q hq => ?_, fun q hq => by rw [a' 7 (by omega) (by omega) (by omega)]; exact j q hq, c'⟩
  · have := d q (by omega)
    have := zpg_lt w q
    rw [b' q (by omega), a' _ (by omega) (by omega) (by omega)]
    exact g q hq
  · by_cases z : q = 1
    · rw [z]; exact d'
    · rw [a' q z (by omega) (by omega)]; exact i q hq
