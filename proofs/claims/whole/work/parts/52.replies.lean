theorem r_list_app (S : Nat → Int32) : ∀ (m n k : Nat), r_list S (m + n) k = r_list S m k ++ r_list S n (k + m) := by
  intro m
  induction m with
  | zero => intro n k; rw [Nat.zero_add, Nat.add_zero]; rfl
  | succ m ih =>
    intro n k
    rw [show m + 1 + n = (m + n) + 1 by omega, r_list, r_list, ih, show k + (m + 1) = k + 1 + m by omega]
    by_cases a : s_refuses S (k / 36) (k % 36) = 0
    · rw [if_pos a, if_pos a]; rfl
    · rw [if_neg a, if_neg a]
theorem r_sum_app (S : Nat → Int32) : ∀ (L M : List Nat) (a : Int32), r_sum S (L ++ M) a = r_sum S M (r_sum S L a) := by
  intro L
  induction L with
  | nil => intro M a; rfl
  | cons q L ih => intro M a; rw [List.cons_append, r_sum, r_sum, ih]
theorem refuses_0 {S : Nat → Int32} (h : zInv S) {f t : Nat} (hr : s_refuses S f t = 0) : S f = S 144 ∧ ¬ S t = S 144 ∧ ¬ s_costOf S f t < 0 ∧ s_costOf S f t ≤ S (72 + f) ∧ (S f = 0 ∨ S f = 1) := by
  obtain ⟨a, b, c⟩ := (refuses_iff h).mp hr
  have h1 : ¬ s_costOf S f t < 0 := by
    intro q
    rw [s_canGo, zlet_def, if_pos q] at c
    exact c rfl
  have h2 : s_costOf S f t ≤ S (72 + f) := by
    rw [s_canGo, zlet_def, if_neg h1] at c
    by_cases d : S (72 + f) < s_costOf S f t
    · rw [if_pos d] at c; exact absurd rfl c
    · exact Int32.not_lt.mp d
  refine ⟨b, fun q => ?_, h1, h2, by rw [b]; exact h.2.2.2.2.2.1⟩
  refine h1 ?_
  unfold s_costOf s_costBy zlet
  dsimp only
  rw [if_pos (show S t = S f from q.trans b.symm)]
  by_cases d : s_size (nI (t % 6) - nI (f % 6)) + s_size (nI (t / 6) - nI (f / 6)) = 0
  · rw [if_pos d]; decide
  · rw [if_neg d]; decide
theorem k_behind (w : xW) {f t : Nat} (hf : f < 36) (ht : t < 36) (h0 : zInv (w.1 0)) (h1 : zRw (w.1 1)) (hr : s_refuses (w.1 0) f t = 0) : d_X2_gamesBehind w f t = (r_one (w.1 0) (36 * f + t), xv w 1 (s_makes (w.1 0) f t)) := by
  obtain ⟨b, b', c, d, e⟩ := refuses_0 h0 hr
  have hN := inv_makes h0 hf ht c d
  have q1 : (36 * f + t) / 36 = f := by omega
  have q2 : (36 * f + t) % 36 = t := by omega
  rw [d_X2_gamesBehind, zlet_def, k_copyFrom w (by omega : ¬ 0 = 1) h1 h0.1]
  rw [k_makeMove _ 1 hf ht (by rw [xv_row]; exact h0.2.1) (by rw [xv_row]; exact b) (by rw [xv_row]; exact e) (by rw [xv_row]; exact c) (fun z => b' (by rw [← z]; exact b)), xv_row, zlet_def, xv_xv, k_isOver, xv_row]
  rw [k_movesOf _ 1 _ (by rw [xv_row]; exact hN.2.1) (by rw [xg_xv']; rcases hN.2.2.2.2.2.1 with z | z <;> rw [z] <;> decide), xv_row, xg_xv']
  unfold r_one
  rw [q1, q2]
  by_cases a : s_makes (w.1 0) f t 145 = 0
  · rw [if_pos a, if_pos rfl, if_pos (show s_makes (w.1 0) f t 145 ≤ 0 by rw [a]; decide), s_movesOf_len]
    have hl := s_mvs_len (s_makes (w.1 0) f t) (s_makes (w.1 0) f t 144)
    by_cases z : (s_mvs (s_makes (w.1 0) f t) (s_makes (w.1 0) f t 144)).length = 0
    · rw [z, if_neg (show ¬ (1 : Int32) < nI 0 by decide), if_pos (show nI 0 = 0 by decide)]
    · rw [if_neg (show ¬ nI (s_mvs (s_makes (w.1 0) f t) (s_makes (w.1 0) f t 144)).length = 0 from nI_ne0 (by omega) (by omega))]
      by_cases y : (s_mvs (s_makes (w.1 0) f t) (s_makes (w.1 0) f t 144)).length = 1
      · rw [y, if_neg (show ¬ (1 : Int32) < nI 1 by decide)]; rfl
      · rw [if_pos (show (1 : Int32) < nI (s_mvs (s_makes (w.1 0) f t) (s_makes (w.1 0) f t 144)).length from nI_lt (a := 1) (by omega) (by omega))]
  · have hn : ¬ s_makes (w.1 0) f t 145 ≤ 0 := by
      intro q
      rcases hN.2.2.2.2.2.2.1 with z | z | z
      · exact a z
      · rw [z] at q; exact absurd q (by decide)
      · rw [z] at q; exact absurd q (by decide)
    rw [if_neg a, if_neg (by decide), if_neg hn]
theorem k_replies_12 (w : xW) (h0 : zInv (w.1 0)) {f : Nat} (hf : f < 36) (kt : Int32 → Nat → xW → Int32 × xW) : ∀ (n j t : Nat) (R : Nat → Int32) (a : Int32), t + j = 36 → j < n → zRw R → ∃ R', zRw R' ∧ d_X2_replies_12 f kt n a t (xv w 1 R) = kt (r_sum (w.1 0) (r_list (w.1 0) j (36 * f + t)) a) 36 (xv w 1 R') := by
  intro n
  induction n with
  | zero => intro j t R a h1 h2; omega
  | succ n ih =>
    intro j t R a h1 h2 hR
    rw [d_X2_replies_12]
    cases j with
    | zero =>
      refine ⟨R, hR, ?_⟩
      rw [if_pos (by omega), show t = 36 by omega]; rfl
    | succ j =>
      have ht : t < 36 := by omega
      have e0 : (xv w 1 R).1 0 = w.1 0 := xv_ne _ _ (by omega)
      have q1 : (36 * f + t) / 36 = f := by omega
      have q2 : (36 * f + t) % 36 = t := by omega
      rw [if_neg (by omega), k_reasonAgainst _ 0 hf ht (by rw [e0]; exact h0.2.1) (by rw [e0]; exact h0.2.2.2.2.2.2.1), e0, r_list, q1, q2]
      by_cases hr : s_refuses (w.1 0) f t = 0
      · rw [if_pos hr, if_pos hr, k_behind _ hf ht (by rw [e0]; exact h0) (by rw [xv_row]; exact hR) (by rw [e0]; exact hr), e0, xv_xv, zlet_def, zlet_def, r_sum]
        obtain ⟨b, b', c, d, e⟩ := refuses_0 h0 hr
        exact ih j (t + 1) _ _ (by omega) (by omega) (inv_makes h0 hf ht c d).1
      · rw [if_neg hr, if_neg hr]
        exact ih j (t + 1) _ _ (by omega) (by omega) hR
theorem k_replies_4 (w : xW) (h0 : zInv (w.1 0)) (kt : Int32 → Nat → xW → Int32 × xW) : ∀ (n j f : Nat) (R : Nat → Int32) (a : Int32), f + j = 36 → j < n → zRw R → ∃ R', zRw R' ∧ d_X2_replies_4 kt n a f (xv w 1 R) = kt (r_sum (w.1 0) (r_list (w.1 0) (36 * j) (36 * f)) a) 36 (xv w 1 R') := by
  intro n
  induction n with
  | zero => intro j f R a h1 h2; omega
  | succ n ih =>
    intro j f R a h1 h2 hR
    rw [d_X2_replies_4]
    cases j with
    | zero =>
      refine ⟨R, hR, ?_⟩
      rw [if_pos (by omega), show f = 36 by omega]; rfl
    | succ j =>
      rw [if_neg (by omega)]
      obtain ⟨R1, hR1, e1⟩ := k_replies_12 w h0 (f := f) (by omega) (fun e3_1 e3_3 ew3 => (d_X2_replies_4 kt n e3_1 (f + 1) ew3)) 37 36 0 R a (by omega) (by omega) hR
      obtain ⟨R2, hR2, e2⟩ := ih j (f + 1) R1 (r_sum (w.1 0) (r_list (w.1 0) 36 (36 * f + 0)) a) (by omega) (by omega) hR1
      refine ⟨R2, hR2, ?_⟩
      simp only [Nat.add_zero] at e1 e2
      rw [e1, e2, show 36 * (j + 1) = 36 + 36 * j by omega, r_list_app, r_sum_app, show 36 * (f + 1) = 36 * f + 36 by omega]
theorem m_replies_36 (w v : xW) (hv : v = d_X3_laysAside w) {x1 : Int32} {L : List Nat} (hx : x1 = nI L.length) (hL : L.length ≤ 1296) (hm : ∀ q, q ∈ L → q < 1296) (hg : ∀ k, k < L.length → d_X3_moveAt v (xg v 11 144) (nI k) = s_nth L k (-1)) (kt : Int32 → Nat → xW → Int32 × xW) : ∀ (n j k : Nat) (a : Int32), k + j = L.length → j < n → d_X3_replies_36 x1 kt n a k v = kt (r_sum (w.1 11) (L.drop k) a) L.length v := by
  have e11 : v.1 11 = w.1 11 := by rw [hv, m_aside, xv_ne _ _ (by omega)]
  intro n
  induction n with
  | zero => intro j k a h1 h2; omega
  | succ n ih =>
    intro j k a h1 h2
    rw [d_X3_replies_36, hx]
    cases j with
    | zero =>
      rw [if_pos (show nI L.length ≤ nI k by rw [show k = L.length by omega]; exact Int32.le_refl _), show k = L.length by omega, List.drop_length]; rfl
    | succ j =>
      have hk : k < L.length := by omega
      rw [if_neg (show ¬ nI L.length ≤ nI k from nI_ge hk (by omega)), hg k hk]
      have en : s_nth L k (-1) = nI L[k] := by unfold s_nth; rw [List.getElem?_eq_getElem hk]
      have hq := hm L[k] (List.getElem_mem hk)
      rw [en, nI_clamp (by omega), zlet_def, zlet_def, zlet_def, zlet_def, m_one, zback_r (w := w) (v := v) (w2 := v) hq rfl rfl rfl hv, e11, ← hx, ih j (k + 1) _ (by omega) (by omega), List.drop_eq_getElem_cons hk, r_sum]
theorem P_replies {w : xW} {A : xA} (h : zSim w A) : zLike (d_X2_replies w) d_X3_replies := by
  have hI := h.2.2.1
  have c0 := h.1.2.1
  have hI0 : zInv (w.1 0) := by rw [c0]; exact hI
  obtain ⟨R', hR', e⟩ := k_replies_4 w hI0 d_X2_replies_4k 37 36 0 (w.1 1) 0 (by omega) (by omega) (h.1.2.2.2.2.2.2.2.1 1 (by omega))
  rw [xv_self] at e
  rw [d_X2_replies, e, d_X2_replies_4k, c0]
  refine like_mk h (zCR_row1 h.1 hR') (zFM_xv w (by omega) _) h.2.2 (fun u hu => ?_)
  have e11 : (d_X3_laysAside u).1 11 = aS A := by rw [m_aside, xv_ne _ _ (by omega)]; exact hu.1
  have hlist := r_list_eq hI 1296 0
  have hxl : (if xg u 11 145 ≤ 0 then d_X3_movesOf u (xg u 11 144) else 0) = nI (r_list (aS A) 1296 0).length := by
    rw [hlist, m_movesOf, xg_row, xg_row, hu.1, s_movesOf_len]
    by_cases a : aS A 145 ≤ 0
    · rw [if_pos a, if_pos a]; rfl
    · rw [if_neg a, if_neg a]; rfl
  have hlen : (r_list (aS A) 1296 0).length ≤ 1296 := by
    rw [hlist]
    by_cases a : aS A 145 ≤ 0
    · rw [if_pos a]; exact s_mvs_len _ _
    · rw [if_neg a]; exact Nat.zero_le _
  have hmem : ∀ q, q ∈ r_list (aS A) 1296 0 → q < 1296 := by
    intro q hq
    rw [hlist] at hq
    by_cases a : aS A 145 ≤ 0
    · rw [if_pos a] at hq; exact (s_mvs_mem hq).1
    · rw [if_neg a] at hq; exact absurd hq (List.not_mem_nil)
  have hget : ∀ k, k < (r_list (aS A) 1296 0).length → d_X3_moveAt (d_X3_laysAside u) (xg (d_X3_laysAside u) 11 144) (nI k) = s_nth (r_list (aS A) 1296 0) k (-1) := by
    intro k hk
    rw [m_moveAt, xg_row, e11, s_moveAt_nth _ _ (by omega)]
    rw [hlist] at hk ⊢
    by_cases a : aS A 145 ≤ 0
    · rw [if_pos a]; rfl
    · rw [if_neg a] at hk; exact absurd hk (by simp)
  have q := m_replies_36 u _ rfl hxl hlen hmem hget d_X3_replies_36k ((nI (r_list (aS A) 1296 0).length).toNatClampNeg + 1) (r_list (aS A) 1296 0).length 0 0 (by omega) (by rw [nI_clamp (by omega)]; omega)
  have qq : d_X3_replies u = (r_sum (aS A) (r_list (aS A) 1296 0) 0, d_X3_laysAside u) := by
    rw [d_X3_replies, zlet_def, zlet_def]
    rw [hxl] at q ⊢
    rw [q, d_X3_replies_36k, hu.1]; rfl
  rw [qq]
  refine ⟨rfl, ?_, ?_⟩
  · rw [m_aside]
    exact zMR_same hu (by rw [xv_ne _ _ (by omega)]) (by rw [xv_ne _ _ (by omega)]) (by rw [xv_ne _ _ (by omega)]) (by rw [xv_ne _ _ (by omega)])
  · rw [m_aside]; exact zFC_xv u (by omega) _
