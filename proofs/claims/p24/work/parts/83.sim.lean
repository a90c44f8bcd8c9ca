/-! the world as the makers leave it: what the class holds -/
theorem q_A_agree (T : Nat → Int32) {j : Nat} : ∀ (n k : Nat) (S S' : Nat → Int32), S j = S' j → q_A T n k S j = q_A T n k S' j := by
  intro n
  induction n with
  | zero => intro k S S' h; exact h
  | succ n ih =>
    intro k S S' h
    rw [q_A, q_A]
    refine ih _ _ _ ?_
    rw [zU_at, zU_at]
    by_cases e : j = 108 + k
    · rw [if_pos e, if_pos e]
    · rw [if_neg e, if_neg e]; exact s_lays_agree k _ _ _ h
theorem bg_G_agree {S S' : Nat → Int32} {j : Nat} (h : S j = S' j) : bg_G S j = bg_G S' j := by
  unfold bg_G
  rw [zU_at, zU_at, zU_at, zU_at, zU_at, zU_at, zU_at, zU_at, zU_at, zU_at, h]
theorem bg_G_146 (S : Nat → Int32) : bg_G S 146 = -1 := by
  unfold bg_G
  rw [zU_ne _ _ (by omega), zU_ne _ _ (by omega), zU_eq]
/-- who had won before does not matter when a game begins -/
theorem begins_146 (S : Nat → Int32) (x : Int32) : s_begins (zU S 146 x) = s_begins S := by
  have e : bg_R (zU S 146 x) = bg_R S := by
    unfold bg_R
    rw [zU_ne S x (show (149 : Nat) ≠ 146 by decide)]
    have : bg_G (q_B (S 149 / 2) 6 0 (q_A bg_tw 36 0 (zU S 146 x))) = bg_G (q_B (S 149 / 2) 6 0 (q_A bg_tw 36 0 S)) := by
      funext j
      by_cases h : j = 146
      · rw [h, bg_G_146, bg_G_146]
      · exact bg_G_agree (q_B_agree _ _ _ _ _ (q_A_agree _ _ _ _ _ (zU_ne S x h)))
    rw [this]
  rw [s_begins_eq, s_begins_eq, e]
def zR0 : Nat → Int32 := zU (zU (zU (fun _ => 0) 149 9) 150 1) 151 2
theorem zR0_149 : zR0 149 = nI 9 := by unfold zR0; rw [zU_ne _ _ (by decide), zU_ne _ _ (by decide), zU_eq]; rfl
theorem zR0_150 : zR0 150 = nI 1 := by unfold zR0; rw [zU_ne _ _ (by decide), zU_eq]; rfl
theorem zR0_151 : zR0 151 = nI 2 := by unfold zR0; rw [zU_eq]; rfl
theorem zR0_0 {j : Nat} (h : ¬ j = 149) (h2 : ¬ j = 150) (h3 : ¬ j = 151) : zR0 j = 0 := by
  unfold zR0; rw [zU_ne _ _ h3, zU_ne _ _ h2, zU_ne _ _ h]
theorem w00_row {g : Nat} (hg : g < 7) : w00.1 g = zU zR0 146 (-1) := by
  funext j
  show (if g < 7 then (if j = 149 then (9 : Int32) else if j = 150 then 1 else if j = 151 then 2 else if j = 146 then -1 else 0) else 0) = _
  rw [if_pos hg, zU_at]
  unfold zR0
  rw [zU_at, zU_at, zU_at]
  by_cases a : j = 146
  · subst a; rfl
  · rw [if_neg a, if_neg a]
    by_cases b : j = 151
    · subst b; rfl
    · rw [if_neg b, if_neg b]
      by_cases c : j = 150
      · subst c; rfl
      · rw [if_neg c, if_neg c]
def zS0 : Nat → Int32 := s_begins zR0
theorem w01_eq : w01 = xv w00 0 zS0 := by
  unfold w01 zS0
  rw [k_begin w00 0 (by rw [w00_row (by decide), zU_ne _ _ (by decide), zR0_0 (by decide) (by decide) (by decide)]), w00_row (by decide), begins_146]
theorem zS0_inv : zInv zS0 := by
  refine inv_begins (fun j hj => zR0_0 (by omega) (by omega) (by omega)) ⟨9, by decide, by decide, zR0_149⟩ ⟨1, by decide, zR0_150⟩ ⟨2, by decide, zR0_151⟩
theorem w01_sim : zSim w01 (zS0, fun _ _ => 0, 0, fun _ => 0, 0) := by
  rw [w01_eq]
  have hz : ∀ i, i < 5 → zpg w00 i = 2 + i := fun i hi => by
    show (if i < 5 then 2 + i else if i < 7 then i - 5 else 0) % 7 = 2 + i
    rw [if_pos hi]; omega
  have hI := zS0_inv
  generalize zS0 = S0 at hI ⊢
  refine ⟨⟨Nat.zero_le _, xv_row _ _ _, ?_, ?_, fun i hi => ?_, fun i j hi hj e => ?_, fun i (hi : i < 0) => absurd hi (Nat.not_lt_zero i), fun g hg => ?_, fun j (hj : j < 0) => absurd hj (Nat.not_lt_zero j), ?_⟩, trivial, ⟨hI, fun i (hi : i < 0) => absurd hi (Nat.not_lt_zero i), Nat.zero_le _, fun j (hj : j < 0) => absurd hj (Nat.not_lt_zero j)⟩⟩
  · rw [xv_ne _ _ (by decide)]; exact w00_z (by decide)
  · rw [xv_ne _ _ (by decide)]; exact w00_z (by decide)
  · rw [zpg_xv, hz i hi]; omega
  · rw [zpg_xv, zpg_xv, hz i hi, hz j hj] at e; omega
  · by_cases h0 : g = 0
    · rw [h0, xv_row]; exact hI.1
    · rw [xv_ne _ _ h0, w00_row hg]
      refine ⟨?_, fun j hj => ?_, Or.inl ?_⟩
      · rw [zU_ne _ _ (by decide)]; exact zR0_0 (by decide) (by decide) (by decide)
      · rw [zU_ne _ _ (by omega)]; exact zR0_0 (by omega) (by omega) (by omega)
      · rw [zU_ne _ _ (by decide)]; exact zR0_0 (by decide) (by decide) (by decide)
  · show ¬ zpr w00 5 = zpr w00 6
    decide
theorem zS0_T : zS0 = rT tb_0 := rT_of zS0_inv (by decide +kernel)
theorem w01_Q : zQ w01 (rT tb_0) 0 0 (tT 0) (fun _ => 0) := by
  rw [← zS0_T]
  have h := w01_sim
  generalize zS0 = S0 at h ⊢
  exact ⟨(S0, fun _ _ => 0, 0, fun _ => 0, 0), h, rfl, rfl, rfl, fun j hj => absurd hj (Nat.not_lt_zero j), fun h => absurd h (Nat.lt_irrefl 0)⟩
theorem w01_2 {j : Nat} (h : 7 ≤ j) : w01.2 j = 0 := by
  rw [w01_eq]
  show (if j < 5 then 2 + j else if j < 7 then j - 5 else 0) = 0
  rw [if_neg (by omega), if_neg (by omega)]
