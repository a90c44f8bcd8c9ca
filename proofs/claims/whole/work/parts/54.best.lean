theorem m_best_40 (w v : xW) (hv : v = d_X3_laysAside w) {x1 : Int32} {L : List Nat} (hx : x1 = nI L.length) (hL : L.length ≤ 1296) (hm : ∀ q, q ∈ L → q < 1296) (hg : ∀ k, k < L.length → d_X3_moveAt v (xg v 11 144) (nI k) = s_nth L k (-1)) (kt : Int32 → Int32 → Nat → xW → Int32 × xW) : ∀ (n j k : Nat) (d b : Int32), k + j = L.length → j < n → d_X3_best_40 x1 kt n d b k v = kt (r_best (w.1 11) (L.drop k) d b).1 (r_best (w.1 11) (L.drop k) d b).2 L.length v := by
  have e11 : v.1 11 = w.1 11 := by rw [hv, m_aside, xv_ne _ _ (by omega)]
  intro n
  induction n with
  | zero => intro j k d b h1 h2; omega
  | succ n ih =>
    intro j k d b h1 h2
    rw [d_X3_best_40, hx]
    cases j with
    | zero =>
      rw [if_pos (show nI L.length ≤ nI k by rw [show k = L.length by omega]; exact Int32.le_refl _), show k = L.length by omega, List.drop_length]; rfl
    | succ j =>
      have hk : k < L.length := by omega
      rw [if_neg (show ¬ nI L.length ≤ nI k from nI_ge hk (by omega)), zlet_def, hg k hk]
      have en : s_nth L k (-1) = nI L[k] := by unfold s_nth; rw [List.getElem?_eq_getElem hk]
      have hq := hm L[k] (List.getElem_mem hk)
      have eg : d_X3_goodFor (d_X3_goes v (L[k] / 36) (L[k] % 36)) (xg v 11 144) = r_worth (w.1 11) L[k] := by
        rw [m_goodFor, m_goes, xv_row, xg_row, e11]; rfl
      rw [en, nI_clamp (by omega), zlet_def, zlet_def, zlet_def, zlet_def, eg, zback_b (w := w) (v := v) (w2 := v) hq rfl rfl rfl hv, ← hx, List.drop_eq_getElem_cons hk, r_best]
      by_cases a : d < 0
      · rw [if_pos a, if_pos a, zlet_def, zlet_def, zlet_def, if_neg (by decide), if_neg (by decide)]
        exact ih j (k + 1) _ _ (by omega) (by omega)
      · rw [if_neg a, if_neg a]
        by_cases c : r_worth (w.1 11) L[k] ≤ b
        · rw [if_pos c, if_pos c, zlet_def, zlet_def, zlet_def, if_pos rfl, if_pos rfl]
          exact ih j (k + 1) _ _ (by omega) (by omega)
        · rw [if_neg c, if_neg c, zlet_def, zlet_def, zlet_def, if_neg (by decide), if_neg (by decide)]
          exact ih j (k + 1) _ _ (by omega) (by omega)
theorem P_best {w : xW} {A : xA} (h : zSim w A) : zLike (d_X2_best w) d_X3_best := by
  have hI := h.2.2.1
  have c0 := h.1.2.1
  have hI0 : zInv (w.1 0) := by rw [c0]; exact hI
  obtain ⟨R', hR', e⟩ := k_best_7 w hI0 d_X2_best_7k 37 36 0 (w.1 1) (-4) 0 (by omega) (by omega) (h.1.2.2.2.2.2.2.2.1 1 (by omega)) (Or.inl rfl)
  rw [xv_self] at e
  rw [d_X2_best, e, d_X2_best_7k, c0]
  refine like_mk h (zCR_row1 h.1 hR') (zFM_xv w (by omega) _) h.2.2 (fun u hu => ?_)
  have e11 : (d_X3_laysAside u).1 11 = aS A := by rw [m_aside, xv_ne _ _ (by omega)]; exact hu.1
  have hlist := r_list_eq hI 1296 0
  have hxl : (if xg u 11 145 ≤ 0 then d_X3_movesOf u (xg u 11 144) else 0) = nI (r_list (aS A) 1296 0).length := by
    rw [hlist, m_movesOf, xg_row, xg_row, hu.1, s_movesOf_len]
    by_cases a : aS A 145 ≤ 0
    · rw [if_pos a, if_pos a]; rfl
    · rw [if_neg a, if_neg a]; rfl
  have hlen : (r_list (aS A) 1296 0).length ≤ 1296 := by
    rw [hlist]
    by_cases a : aS A 145 ≤ 0
    · rw [if_pos a]; exact s_mvs_len _ _
    · rw [if_neg a]; exact Nat.zero_le _
  have hmem : ∀ q, q ∈ r_list (aS A) 1296 0 → q < 1296 := by
    intro q hq
    rw [hlist] at hq
    by_cases a : aS A 145 ≤ 0
    · rw [if_pos a] at hq; exact (s_mvs_mem hq).1
    · rw [if_neg a] at hq; exact absurd hq (List.not_mem_nil)
  have hget : ∀ k, k < (r_list (aS A) 1296 0).length → d_X3_moveAt (d_X3_laysAside u) (xg (d_X3_laysAside u) 11 144) (nI k) = s_nth (r_list (aS A) 1296 0) k (-1) := by
    intro k hk
    rw [m_moveAt, xg_row, e11, s_moveAt_nth _ _ (by omega)]
    rw [hlist] at hk ⊢
    by_cases a : aS A 145 ≤ 0
    · rw [if_pos a]; rfl
    · rw [if_neg a] at hk; exact absurd hk (by simp)
  have q := m_best_40 u _ rfl hxl hlen hmem hget d_X3_best_40k ((nI (r_list (aS A) 1296 0).length).toNatClampNeg + 1) (r_list (aS A) 1296 0).length 0 (-4) 0 (by omega) (by rw [nI_clamp (by omega)]; omega)
  have qq : d_X3_best u = ((r_best (aS A) (r_list (aS A) 1296 0) (-4) 0).1, d_X3_laysAside u) := by
    rw [d_X3_best, zlet_def, zlet_def]
    rw [hxl] at q ⊢
    rw [q, d_X3_best_40k, hu.1]; rfl
  rw [qq]
  refine ⟨rfl, ?_, ?_⟩
  · rw [m_aside]
    exact zMR_same hu (by rw [xv_ne _ _ (by omega)]) (by rw [xv_ne _ _ (by omega)]) (by rw [xv_ne _ _ (by omega)]) (by rw [xv_ne _ _ (by omega)])
  · rw [m_aside]; exact zFC_xv u (by omega) _
