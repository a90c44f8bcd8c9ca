/-! the model lays its row aside and brings it back; the class plays in its second game -/
theorem m_aside_go (kt : Nat → xW → xW) : ∀ (n j k : Nat) (w : xW), k + j = 159 → j < n → d_X3_laysAside_2 kt n k w = kt 159 (xv w 13 (fun b => if k ≤ b ∧ b < 159 then w.1 11 b else w.1 13 b)) := by
  intro n
  induction n with
  | zero => intro j k w h2 h3; omega
  | succ n ih =>
    intro j k w h2 h3
    rw [d_X3_laysAside_2]
    by_cases hk : 159 ≤ k
    · rw [if_pos hk, show k = 159 by omega]
      congr 1
      conv => lhs; rw [← xv_self w 13]
      congr 1
      funext b
      rw [if_neg (by omega)]
    · rw [if_neg hk, zlet_def, xs_xv]
      rw [ih (j - 1) (k + 1) _ (by omega) (by omega), xv_xv, xv_ne _ _ (by omega : ¬ 11 = 13), xv_row]
      congr 2
      funext b
      by_cases hb : k + 1 ≤ b ∧ b < 159
      · rw [if_pos hb, if_pos ⟨by omega, hb.2⟩]
      · rw [if_neg hb, zU_at]
        by_cases hb2 : b = k
        · rw [if_pos hb2, if_pos ⟨by omega, by omega⟩, hb2, xg_row]
        · rw [if_neg hb2, if_neg (by omega)]
theorem m_back_go (kt : Nat → xW → xW) : ∀ (n j k : Nat) (w : xW), k + j = 159 → j < n → d_X3_bringsBack_2 kt n k w = kt 159 (xv w 11 (fun b => if k ≤ b ∧ b < 159 then w.1 13 b else w.1 11 b)) := by
  intro n
  induction n with
  | zero => intro j k w h2 h3; omega
  | succ n ih =>
    intro j k w h2 h3
    rw [d_X3_bringsBack_2]
    by_cases hk : 159 ≤ k
    · rw [if_pos hk, show k = 159 by omega]
      congr 1
      conv => lhs; rw [← xv_self w 11]
      congr 1
      funext b
      rw [if_neg (by omega)]
    · rw [if_neg hk, zlet_def, xs_xv]
      rw [ih (j - 1) (k + 1) _ (by omega) (by omega), xv_xv, xv_ne _ _ (by omega : ¬ 13 = 11), xv_row]
      congr 2
      funext b
      by_cases hb : k + 1 ≤ b ∧ b < 159
      · rw [if_pos hb, if_pos ⟨by omega, hb.2⟩]
      · rw [if_neg hb, zU_at]
        by_cases hb2 : b = k
        · rw [if_pos hb2, if_pos ⟨by omega, by omega⟩, hb2, xg_row]
        · rw [if_neg hb2, if_neg (by omega)]
theorem zpx_0 (S T : Nat → Int32) (n : Nat) : (fun b => if 0 ≤ b ∧ b < n then T b else S b) = zpx S T n := by
  funext b
  unfold zpx
  by_cases h : b < n
  · rw [if_pos ⟨Nat.zero_le _, h⟩, if_pos h]
  · rw [if_neg (fun q => h q.2), if_neg h]
theorem m_aside (w : xW) : d_X3_laysAside w = xv w 13 (zpx (w.1 13) (w.1 11) 159) := by
  rw [d_X3_laysAside, m_aside_go _ 160 159 0 w (by omega) (by omega), d_X3_laysAside_2k, zpx_0]
theorem m_back (w : xW) : d_X3_bringsBack w = xv w 11 (zpx (w.1 11) (w.1 13) 159) := by
  rw [d_X3_bringsBack, m_back_go _ 160 159 0 w (by omega) (by omega), d_X3_bringsBack_2k, zpx_0]
/-- a row played on, brought back from the one laid aside -/
theorem zpx_back {R S T : Nat → Int32} (h : ∀ j, 159 ≤ j → R j = S j) : zpx R (zpx T S 159) 159 = S := by
  funext b
  unfold zpx
  by_cases hb : b < 159
  · rw [if_pos hb, if_pos hb]
  · rw [if_neg hb]; exact h b (by omega)
theorem zCR_row1 {w : xW} {A : xA} (h : zCR w A) {R : Nat → Int32} (hR : zRw R) : zCR (xv w 1 R) A := by
  obtain ⟨k5, a, b, c, d, e, g, i, j, pr⟩ := h
  refine ⟨k5, by rw [xv_ne _ _ (by omega)]; exact a, by rw [xv_ne _ _ (by omega)]; exact b, by rw [xv_ne _ _ (by omega)]; exact c, d, e, fun q hq => ?_, fun q hq => ?_, fun q hq => by rw [xv_ne _ _ (by omega)]; exact j q hq, pr⟩
  · have := d q (by omega)
    rw [zpg_xv, xv_ne _ _ (by omega)]
    exact g q hq
  · by_cases h0 : q = 1
    · rw [h0, xv_row]; exact hR
    · rw [xv_ne _ _ h0]; exact i q hq
theorem zMR_same {w u : xW} {A : xA} (h : zMR w A) (h11 : u.1 11 = w.1 11) (h12 : u.1 12 = w.1 12) (h14 : u.1 14 = w.1 14) (h17 : u.1 17 = w.1 17) : zMR u A := by
  obtain ⟨a, b, c, d, e⟩ := h
  exact ⟨h11.trans a, by rw [h17]; exact b, by rw [h17]; exact c, fun i hi j hj => by rw [h12]; exact d i hi j hj, fun j hj => by rw [h14]; exact e j hj⟩
def s_stk (R : Nat → Int32) (side : Int32) (c : Nat) : Nat → Nat → Int32 → Int32
  | 0, _, a => a
  | n + 1, f, a => s_stk R side c n (f + 1) (if R f = side then (if s_canGo R f c = 0 then a else a + 1) else a)
theorem k_stk (w : xW) (side : Int32) {c : Nat} (hc : c < 36) (hs : zsides (w.1 1)) (hd : ¬ side = -1) (kt : Int32 → Nat → Int32 × xW) : ∀ (n j f : Nat) (a : Int32), f + j = 36 → j < n → d_X2_struck_51 side c w kt n a f = kt (s_stk (w.1 1) side c j f a) 36 := by
  intro n
  induction n with
  | zero => intro j f a h1 h2; omega
  | succ n ih =>
    intro j f a h1 h2
    rw [d_X2_struck_51]
    cases j with
    | zero => rw [if_pos (by omega), show f = 36 by omega]; rfl
    | succ j =>
      rw [if_neg (by omega), k_sideOn _ 1 (by omega), s_stk]
      by_cases b : w.1 1 f = side
      · rw [if_pos b, if_pos b, k_canMove w 1 (by omega) hc (hs f (by omega)) (hs c hc) (by rw [b]; exact hd)]
        by_cases d : s_canGo (w.1 1) f c = 0
        · rw [if_pos d, if_pos d]; exact ih j (f + 1) _ (by omega) (by omega)
        · rw [if_neg d, if_neg d]; exact ih j (f + 1) _ (by omega) (by omega)
      · rw [if_neg b, if_neg b]; exact ih j (f + 1) _ (by omega) (by omega)
theorem m_stk (w : xW) (side : Int32) (c : Nat) (kt : Int32 → Nat → Int32 × xW) : ∀ (n j f : Nat) (a : Int32), f + j = 36 → j < n → d_X3_struck_35 side c w kt n a f = kt (s_stk (w.1 11) side c j f a) 36 := by
  intro n
  induction n with
  | zero => intro j f a h1 h2; omega
  | succ n ih =>
    intro j f a h1 h2
    rw [d_X3_struck_35]
    cases j with
    | zero => rw [if_pos (by omega), show f = 36 by omega]; rfl
    | succ j =>
      rw [if_neg (by omega), zlet_def, zlet_def, xg_row, m_canGo, s_stk]
      by_cases b : w.1 11 f = side
      · rw [if_pos b, if_pos b]
        by_cases d : s_canGo (w.1 11) f c = 0
        · rw [if_pos d, if_pos d, Int32.add_zero]; exact ih j (f + 1) _ (by omega) (by omega)
        · rw [if_neg d, if_neg d]; exact ih j (f + 1) _ (by omega) (by omega)
      · rw [if_neg b, if_neg b, Int32.add_zero]; exact ih j (f + 1) _ (by omega) (by omega)
theorem s_stk_agree {R R' : Nat → Int32} {side : Int32} {c : Nat} (hc : c < 36) (h : ∀ j, j < 36 → R j = R' j) (hp : ∀ f, f < 36 → R f = side → R (36 + f) = R' (36 + f) ∧ R (72 + f) = R' (72 + f)) : ∀ (n f : Nat) (a : Int32), f + n ≤ 36 → s_stk R side c n f a = s_stk R' side c n f a := by
  intro n
  induction n with
  | zero => intros; rfl
  | succ n ih =>
    intro f a h1
    rw [s_stk, s_stk]
    have e : (if R f = side then (if s_canGo R f c = 0 then a else a + 1) else a) = (if R' f = side then (if s_canGo R' f c = 0 then a else a + 1) else a) := by
      by_cases b : R f = side
      · have q := hp f (by omega) b
        rw [if_pos b, if_pos ((h f (by omega)).symm.trans b), s_canGo_agree h (by omega) hc q.1 q.2]
      · rw [if_neg b, if_neg (fun z => b ((h f (by omega)).trans z))]
    rw [e]
    exact ih _ _ (by omega)
theorem zpx_lo {S T : Nat → Int32} {n j : Nat} (h : j < n) : zpx S T n j = T j := if_pos h
theorem zpx_hi {S T : Nat → Int32} {n j : Nat} (h : n ≤ j) : zpx S T n j = S j := if_neg (by omega)
theorem zRw_lays {S : Nat → Int32} (h : zRw S) {c : Nat} (hc : c < 36) (a b p : Int32) : zRw (s_lays S c a b p) := by
  refine ⟨?_, fun j hj => ?_, ?_⟩
  · rw [s_lays_hi _ _ _ _ hc (by omega)]; exact h.1
  · rw [s_lays_hi _ _ _ _ hc (by omega)]; exact h.2.1 j hj
  · rw [s_lays_hi _ _ _ _ hc (by omega)]; exact h.2.2
theorem zRw_zpx {S T : Nat → Int32} (h : zRw S) : zRw (zpx S T 144) := by
  refine ⟨?_, fun j hj => ?_, ?_⟩
  · rw [zpx_hi (by omega)]; exact h.1
  · rw [zpx_hi (by omega)]; exact h.2.1 j hj
  · rw [zpx_hi (by omega)]; exact h.2.2
theorem P_struck {w : xW} {A : xA} (h : zSim w A) (x side : Int32) : zLike (d_X2_struck w x side) (fun u => d_X3_struck u x side) := by
  have hI := h.2.2.1
  have c0 := h.1.2.1
  rw [d_X2_struck, k_isCell, k_isSide]
  rcases is_cell x with ex | ⟨ex, c, hc, rfl⟩
  · rw [if_pos ex]
    exact like_no h (by show d_X3_struck w x side = _; rw [d_X3_struck, m_isCell, if_pos ex])
  · have nx : ¬ s_isCell (nI c) = 0 := by rw [ex]; decide
    rw [if_neg nx]
    by_cases es : s_isSide side = 0
    · rw [if_pos es]
      exact like_no h (by show d_X3_struck w _ side = _; rw [d_X3_struck, m_isCell, if_neg nx, m_isSide, if_pos es])
    · have hd : ¬ side = -1 := by rcases isSide_of es with e | e <;> rw [e] <;> decide
      have h1s : zside (1 - side) := by
        rcases isSide_of es with e | e <;> rw [e]
        · exact Or.inr (Or.inr (by decide))
        · exact Or.inr (Or.inl (by decide))
      have hnes : ¬ 1 - side = side := by rcases isSide_of es with e | e <;> rw [e] <;> decide
      rw [if_neg es, zlet_def, zlet_def, zlet_def, nI_clamp (by omega), k_copyBoard w (by omega : ¬ 0 = 1), k_place _ 1 hc, xv_row, xv_xv, c0]
      have sidesC : ∀ j, j < 36 → s_lays (zpx (w.1 1) (aS A) 144) c (1 - side) 4 0 j = s_lays (aS A) c (1 - side) 1 0 j := by
        intro j hj
        rw [s_lays_at, s_lays_at, if_neg (show ¬ j = 72 + c by omega), if_neg (show ¬ j = 36 + c by omega), if_neg (show ¬ j = 72 + c by omega), if_neg (show ¬ j = 36 + c by omega), zpx_lo (by omega)]
      have hs : zsides (s_lays (zpx (w.1 1) (aS A) 144) c (1 - side) 4 0) := by
        intro j hj
        rw [sidesC j hj, s_lays_at, if_neg (by omega), if_neg (by omega)]
        by_cases e : j = c
        · rw [if_pos e]; exact h1s
        · rw [if_neg e]; exact hI.2.1 j hj
      have hkp : ∀ f, f < 36 → s_lays (zpx (w.1 1) (aS A) 144) c (1 - side) 4 0 f = side → s_lays (zpx (w.1 1) (aS A) 144) c (1 - side) 4 0 (36 + f) = s_lays (aS A) c (1 - side) 1 0 (36 + f) ∧ s_lays (zpx (w.1 1) (aS A) 144) c (1 - side) 4 0 (72 + f) = s_lays (aS A) c (1 - side) 1 0 (72 + f) := by
        intro f hf hfs
        have hfc : ¬ f = c := by
          intro e
          rw [e, s_lays_at, if_neg (by omega), if_neg (by omega), if_pos rfl] at hfs
          exact hnes hfs
        constructor
        · rw [s_lays_at, s_lays_at, if_neg (by omega), if_neg (by omega), if_neg (by omega), if_neg (by omega), if_neg (by omega), if_neg (by omega), zpx_lo (by omega)]
        · rw [s_lays_at, s_lays_at, if_neg (by omega), if_neg (by omega), if_neg (by omega), if_neg (by omega), if_neg (by omega), if_neg (by omega), zpx_lo (by omega)]
      rw [k_stk _ side hc (by rw [xv_row]; exact hs) hd _ 37 36 0 0 (by omega) (by omega), xv_row, d_X2_struck_51k, s_stk_agree hc sidesC hkp 36 0 0 (by omega)]
      refine like_mk h (zCR_row1 h.1 (zRw_lays (zRw_zpx (h.1.2.2.2.2.2.2.2.1 1 (by omega))) hc _ _ _)) (zFM_xv w (by omega) _) h.2.2 (fun u hu => ?_)
      show (d_X3_struck u (nI c) side).1 = _ ∧ zMR (d_X3_struck u (nI c) side).2 A ∧ zFC u (d_X3_struck u (nI c) side).2
      have e : d_X3_struck u (nI c) side = (s_stk (s_lays (aS A) c (1 - side) 1 0) side c 36 0 0, xv (xv u 13 (zpx (u.1 13) (u.1 11) 159)) 11 (aS A)) := by
        rw [d_X3_struck, m_isCell, if_neg nx, m_isSide, if_neg es, zlet_def, zlet_def, zlet_def, nI_clamp (by omega), m_aside, m_lays, xv_ne _ _ (by omega : ¬ 11 = 13), hu.1, m_stk _ side c _ 37 36 0 0 (by omega) (by omega), xv_row, d_X3_struck_35k, zlet_def, m_back, xv_row, xv_xv, xv_ne _ _ (by omega : ¬ 13 = 11), xv_row]
        rw [zpx_back (fun j hj => s_lays_hi _ _ _ _ hc (by omega))]
      rw [e]
      refine ⟨rfl, zMR_same hu ?_ ?_ ?_ ?_, zFC_tr (zFC_xv u (by omega) _) (zFC_xv _ (by omega) _)⟩
      · rw [xv_row]; exact hu.1.symm
      · rw [xv_ne _ _ (by omega), xv_ne _ _ (by omega)]
      · rw [xv_ne _ _ (by omega), xv_ne _ _ (by omega)]
      · rw [xv_ne _ _ (by omega), xv_ne _ _ (by omega)]
