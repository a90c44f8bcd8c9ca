/-! the model lays its row aside and brings it back; the class plays in its second game -/
theorem zpx_0 (S T : Nat → Int32) (n : Nat) : (fun b => if 0 ≤ b ∧ b < n then T b else S b) = zpx S T n := by
  funext b
  unfold zpx
  by_cases h : b < n
  · rw [if_pos ⟨Nat.zero_le _, h⟩, if_pos h]
  · rw [if_neg (fun q => h q.2), if_neg h]
/-- a row played on, brought back from the one laid aside -/
theorem zpx_back {R S T : Nat → Int32} (h : ∀ j, 159 ≤ j → R j = S j) : zpx R (zpx T S 159) 159 = S := by
  funext b
  unfold zpx
  by_cases hb : b < 159
  · rw [if_pos hb, if_pos hb]
  · rw [if_neg hb]; exact h b (by omega)
theorem zCR_row1 {w : xW} {A : xA} (h : zCR w A) {R : Nat → Int32} (hR : zRw R) : zCR (xv w 1 R) A := by
  obtain ⟨k5, a, b, c, d, e, g, i, j, pr⟩ := h
  refine ⟨k5, by rw [xv_ne _ _ (by omega)]; exact a, by rw [xv_ne _ _ (by omega)]; exact b, by rw [xv_ne _ _ (by omega)]; exact c, d, e, fun q hq => ?_, fun q hq => ?_, fun q hq => by rw [xv_ne _ _ (by omega)]; exact j q hq, pr⟩
  · have := d q (by omega)
    rw [zpg_xv, xv_ne _ _ (by omega)]
    exact g q hq
  · by_cases h0 : q = 1
    · rw [h0, xv_row]; exact hR
    · rw [xv_ne _ _ h0]; exact i q hq
def s_stk (R : Nat → Int32) (side : Int32) (c : Nat) : Nat → Nat → Int32 → Int32
  | 0, _, a => a
  | n + 1, f, a => s_stk R side c n (f + 1) (if R f = side then (if s_canGo R f c = 0 then a else a + 1) else a)
theorem k_stk (w : xW) (side : Int32) {c : Nat} (hc : c < 36) (hs : zsides (w.1 1)) (hd : ¬ side = -1) (kt : Int32 → Nat → Int32 × xW) : ∀ (n j f : Nat) (a : Int32), f + j = 36 → j < n → d_X2_struck_51 side c w kt n a f = kt (s_stk (w.1 1) side c j f a) 36 := by
  intro n
  induction n with
  | zero => intro j f a h1 h2; omega
  | succ n ih =>
    intro j f a h1 h2
    rw [d_X2_struck_51]
    cases j with
    | zero => rw [if_pos (by omega), show f = 36 by omega]; rfl
    | succ j =>
      rw [if_neg (by omega), k_sideOn _ 1 (by omega), s_stk]
      by_cases b : w.1 1 f = side
      · rw [if_pos b, if_pos b, k_canMove w 1 (by omega) hc (hs f (by omega)) (hs c hc) (by rw [b]; exact hd)]
        by_cases d : s_canGo (w.1 1) f c = 0
        · rw [if_pos d, if_pos d]; exact ih j (f + 1) _ (by omega) (by omega)
        · rw [if_neg d, if_neg d]; exact ih j (f + 1) _ (by omega) (by omega)
      · rw [if_neg b, if_neg b]; exact ih j (f + 1) _ (by omega) (by omega)
theorem s_stk_agree {R R' : Nat → Int32} {side : Int32} {c : Nat} (hc : c < 36) (h : ∀ j, j < 36 → R j = R' j) (hp : ∀ f, f < 36 → R f = side → R (36 + f) = R' (36 + f) ∧ R (72 + f) = R' (72 + f)) : ∀ (n f : Nat) (a : Int32), f + n ≤ 36 → s_stk R side c n f a = s_stk R' side c n f a := by
  intro n
  induction n with
  | zero => intros; rfl
  | succ n ih =>
    intro f a h1
    rw [s_stk, s_stk]
    have e : (if R f = side then (if s_canGo R f c = 0 then a else a + 1) else a) = (if R' f = side then (if s_canGo R' f c = 0 then a else a + 1) else a) := by
      by_cases b : R f = side
      · have q := hp f (by omega) b
        rw [if_pos b, if_pos ((h f (by omega)).symm.trans b), s_canGo_agree h (by omega) hc q.1 q.2]
      · rw [if_neg b, if_neg (fun z => b ((h f (by omega)).trans z))]
    rw [e]
    exact ih _ _ (by omega)
theorem zpx_lo {S T : Nat → Int32} {n j : Nat} (h : j < n) : zpx S T n j = T j := if_pos h
theorem zpx_hi {S T : Nat → Int32} {n j : Nat} (h : n ≤ j) : zpx S T n j = S j := if_neg (by omega)
theorem zRw_lays {S : Nat → Int32} (h : zRw S) {c : Nat} (hc : c < 36) (a b p : Int32) : zRw (s_lays S c a b p) := by
  refine ⟨?_, fun j hj => ?_, ?_⟩
  · rw [s_lays_hi _ _ _ _ hc (by omega)]; exact h.1
  · rw [s_lays_hi _ _ _ _ hc (by omega)]; exact h.2.1 j hj
  · rw [s_lays_hi _ _ _ _ hc (by omega)]; exact h.2.2
theorem zRw_zpx {S T : Nat → Int32} (h : zRw S) : zRw (zpx S T 144) := by
  refine ⟨?_, fun j hj => ?_, ?_⟩
  · rw [zpx_hi (by omega)]; exact h.1
  · rw [zpx_hi (by omega)]; exact h.2.1 j hj
  · rw [zpx_hi (by omega)]; exact h.2.2
