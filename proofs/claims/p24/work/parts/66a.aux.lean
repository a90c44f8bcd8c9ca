/-! a side has less than 500 moves -/
def gB (q f t : Nat) : Bool := if q = 0 then (Nat.ble (zdx f t) 1 && Nat.ble (zdy f t) 1) else if q = 1 then (zdx f t == 0 || zdy f t == 0) else if q = 2 then zdx f t == zdy f t else if q = 3 then zdx f t * zdy f t == 2 else (Nat.ble (zdx f t) 1 && t / 6 == f / 6 + 1)
def gN (q f : Nat) : Nat → Nat → Nat
  | 0, _ => 0
  | n + 1, t => (if gB q f t = true then 1 else 0) + gN q f n (t + 1)
theorem gN_all : ∀ q, q < 5 → ∀ f, f < 36 → gN q f 36 0 ≤ 11 := by decide +kernel
def kq (x : Int32) : Nat := if x = 0 then 0 else if x = 1 then 1 else if x = 2 then 2 else if x = 3 then 3 else 4
theorem kq_lt (x : Int32) : kq x < 5 := by
  unfold kq
  by_cases a : x = 0
  · rw [if_pos a]; omega
  rw [if_neg a]
  by_cases b : x = 1
  · rw [if_pos b]; omega
  rw [if_neg b]
  by_cases c : x = 2
  · rw [if_pos c]; omega
  rw [if_neg c]
  by_cases d : x = 3
  · rw [if_pos d]; omega
  · rw [if_neg d]; omega
theorem go_gB {S : Nat → Int32} {f t : Nat} (hf : f < 36) (ht : t < 36) (hs : S f = 0) (h : ¬ s_costOf S f t < 0) : gB (kq (S (36 + f))) f t = true := by
  unfold s_costOf s_costBy zlet at h
  dsimp only at h
  have q1 : s_size (nI (t % 6) - nI (f % 6)) = nI (zdx f t) := (zsz_dx f hf t ht).1
  have q2 : s_size (nI (t / 6) - nI (f / 6)) = nI (zdy f t) := (zsz_dx f hf t ht).2
  rw [q1, q2] at h
  have a6 := @zdx_lt f t
  have b6 := zdy_lt hf ht
  have m1 : (-1 : Int32) < 0 := by decide
  by_cases h0 : nI (zdx f t) + nI (zdy f t) = 0
  · rw [if_pos h0] at h; exact absurd m1 h
  rw [if_neg h0] at h
  by_cases hT : S t = S f
  · rw [if_pos hT] at h; exact absurd m1 h
  rw [if_neg hT] at h
  unfold kq
  by_cases k0 : S (36 + f) = 0
  · rw [if_pos k0] at h
    rw [if_pos k0]
    simp only [z6_2 a6, z6_2 b6] at h
    by_cases c1 : 2 ≤ zdx f t
    · rw [if_pos c1] at h; exact absurd m1 h
    rw [if_neg c1] at h
    by_cases c2 : 2 ≤ zdy f t
    · rw [if_pos c2] at h; exact absurd m1 h
    show (Nat.ble (zdx f t) 1 && Nat.ble (zdy f t) 1) = true
    rw [show Nat.ble (zdx f t) 1 = true from Nat.ble_eq.mpr (by omega), show Nat.ble (zdy f t) 1 = true from Nat.ble_eq.mpr (by omega)]
    rfl
  rw [if_neg k0] at h
  rw [if_neg k0]
  by_cases k1 : S (36 + f) = 1
  · rw [if_pos k1] at h
    rw [if_pos k1]
    simp only [z6_0 a6, z6_0 b6] at h
    show (zdx f t == 0 || zdy f t == 0) = true
    by_cases c1 : zdx f t = 0
    · rw [c1]; rfl
    by_cases c2 : zdy f t = 0
    · rw [c2]; simp
    rw [if_neg c1, if_neg c2] at h
    exact absurd m1 h
  rw [if_neg k1] at h
  rw [if_neg k1]
  by_cases k2 : S (36 + f) = 2
  · rw [if_pos k2] at h
    rw [if_pos k2]
    simp only [z6_eq a6 b6] at h
    show (zdx f t == zdy f t) = true
    by_cases c1 : zdx f t = zdy f t
    · exact beq_iff_eq.mpr c1
    rw [if_neg c1] at h
    exact absurd m1 h
  rw [if_neg k2] at h
  rw [if_neg k2]
  by_cases k3 : S (36 + f) = 3
  · rw [if_pos k3] at h
    rw [if_pos k3]
    simp only [z6_m a6 b6] at h
    show (zdx f t * zdy f t == 2) = true
    by_cases c1 : zdx f t * zdy f t = 2
    · exact beq_iff_eq.mpr c1
    rw [if_neg c1] at h
    exact absurd m1 h
  rw [if_neg k3] at h
  rw [if_neg k3]
  show (Nat.ble (zdx f t) 1 && t / 6 == f / 6 + 1) = true
  by_cases u : nI (t / 6) - nI (f / 6) = 1 - 2 * S f
  · rw [if_pos u] at h
    rw [if_neg (show ¬ (1 : Int32) = 0 by decide)] at h
    simp only [z6_0 a6, z6_1 a6] at h
    have hd : zdx f t ≤ 1 := by
      refine Nat.le_of_not_lt fun z => ?_
      rw [if_neg (show ¬ zdx f t = 0 by omega), if_neg (show ¬ zdx f t = 1 by omega), if_pos rfl] at h
      exact absurd m1 h
    have hr : t / 6 = f / 6 + 1 := by
      rw [hs, show (1 : Int32) - 2 * 0 = nI 1 by decide] at u
      have e : nI (t / 6) = nI (f / 6 + 1) := by
        rw [← nI_1, ← Int32.sub_add_cancel (nI (t / 6)) (nI (f / 6)), u, Int32.add_comm]
        rfl
      exact (nI_eq (by omega) (by omega)).mp e
    rw [show Nat.ble (zdx f t) 1 = true from Nat.ble_eq.mpr hd, Bool.true_and]
    exact beq_iff_eq.mpr hr
  · rw [if_neg u, if_pos rfl] at h
    exact absurd m1 h
theorem mv_row {S : Nat → Int32} {f : Nat} (hf : f < 36) : ∀ (n t : Nat), t + n = 36 → (s_mvF S 0 n (36 * f + t)).length ≤ gN (kq (S (36 + f))) f n t := by
  intro n
  induction n with
  | zero => intro t _; exact Nat.le_refl 0
  | succ n ih =>
    intro t e
    have i := ih (t + 1) (by omega)
    rw [s_mvF, gN, show (36 * f + t) / 36 = f by omega, show (36 * f + t) % 36 = t by omega, show 36 * f + t + 1 = 36 * f + (t + 1) by omega]
    by_cases c : S f = 0 ∧ ¬ s_canGo S f t = 0
    · rw [if_pos c, List.length_cons]
      have hc : ¬ s_costOf S f t < 0 := by
        intro q
        have := c.2
        rw [s_canGo, zlet_def, if_pos q] at this
        exact this rfl
      rw [if_pos (go_gB hf (by omega) c.1 hc)]
      omega
    · rw [if_neg c]
      omega
theorem mv_rows {S : Nat → Int32} : ∀ (j f : Nat), f + j = 36 → (s_mvF S 0 (36 * j) (36 * f)).length ≤ 11 * j := by
  intro j
  induction j with
  | zero => intro f _; exact Nat.le_refl 0
  | succ j ih =>
    intro f e
    rw [show 36 * (j + 1) = 36 + 36 * j by omega, s_mvF_app, List.length_append]
    have a := mv_row (S := S) (f := f) (by omega) 36 0 rfl
    have b := gN_all (kq (S (36 + f))) (kq_lt _) f (by omega)
    have c := ih (f + 1) (by omega)
    rw [show 36 * (f + 1) = 36 * f + 36 by omega] at c
    rw [Nat.add_zero] at a
    omega
theorem listed_500 {w : xW} {A : xA} (h : zSim w A) : d_X2_listed w (nI 0) (nI 500) = -4 := by
  rw [K_listed h (by decide) (by omega)]
  have l : (s_mvs (aS A) (nI 0)).length ≤ 11 * 36 := mv_rows 36 0 rfl
  unfold s_nth
  rw [List.getElem?_eq_none (by omega)]
