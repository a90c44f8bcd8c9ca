/-! all the moves of the side at turn, as the class finds them -/
def r_list (S : Nat → Int32) : Nat → Nat → List Nat
  | 0, _ => []
  | n + 1, k => if s_refuses S (k / 36) (k % 36) = 0 then k :: r_list S n (k + 1) else r_list S n (k + 1)
theorem refuses_iff {S : Nat → Int32} (h : zInv S) {f t : Nat} : s_refuses S f t = 0 ↔ S 145 ≤ 0 ∧ S f = S 144 ∧ ¬ s_canGo S f t = 0 := by
  have h144 : ¬ S 144 = -1 := by rcases h.2.2.2.2.2.1 with e | e <;> rw [e] <;> decide
  unfold s_refuses
  by_cases a : S 145 ≤ 0
  · rw [if_pos a]
    by_cases b : S f = S 144
    · rw [if_neg (show ¬ S f = -1 by rw [b]; exact h144), if_pos b]
      by_cases c : S t = S 144
      · rw [if_pos c]
        have hz : s_canGo S f t = 0 := by
          rw [s_canGo, zlet_def]
          have : s_costOf S f t < 0 := by
            unfold s_costOf s_costBy zlet
            dsimp only
            rw [if_pos (show S t = S f from c.trans b.symm)]
            by_cases d : s_size (nI (t % 6) - nI (f % 6)) + s_size (nI (t / 6) - nI (f / 6)) = 0
            · rw [if_pos d]; decide
            · rw [if_neg d]; decide
          rw [if_pos this]
        exact ⟨fun q => absurd q (by decide), fun q => absurd hz q.2.2⟩
      · rw [if_neg c]
        by_cases d : 0 ≤ s_costOf S f t
        · rw [if_pos d]
          by_cases e : s_canGo S f t = 0
          · rw [if_pos e]; exact ⟨fun q => absurd q (by decide), fun q => absurd e q.2.2⟩
          · rw [if_neg e]; exact ⟨fun _ => ⟨a, b, e⟩, fun _ => rfl⟩
        · rw [if_neg d]
          have hz : s_canGo S f t = 0 := by
            rw [s_canGo, zlet_def, if_pos (Int32.not_le.mp d)]
          exact ⟨fun q => absurd q (by decide), fun q => absurd hz q.2.2⟩
    · by_cases c : S f = -1
      · rw [if_pos c]; exact ⟨fun q => absurd q (by decide), fun q => absurd q.2.1 b⟩
      · rw [if_neg c, if_neg b]; exact ⟨fun q => absurd q (by decide), fun q => absurd q.2.1 b⟩
  · rw [if_neg a]; exact ⟨fun q => absurd q (by decide), fun q => absurd q.1 a⟩
theorem r_list_eq {S : Nat → Int32} (h : zInv S) : ∀ (n k : Nat), r_list S n k = if S 145 ≤ 0 then s_mvF S (S 144) n k else [] := by
  intro n
  induction n with
  | zero => intro k; by_cases a : S 145 ≤ 0 <;> simp [r_list, s_mvF]
  | succ n ih =>
    intro k
    rw [r_list, ih]
    by_cases a : S 145 ≤ 0
    · rw [if_pos a, if_pos a, s_mvF]
      by_cases b : S (k / 36) = S 144 ∧ ¬ s_canGo S (k / 36) (k % 36) = 0
      · rw [if_pos b, if_pos ((refuses_iff h).mpr ⟨a, b⟩)]
      · rw [if_neg b, if_neg (fun q => b ((refuses_iff h).mp q).2)]
    · rw [if_neg a, if_neg a, if_neg (fun q => a ((refuses_iff h).mp q).1)]
/-- the games behind one move -/
def r_one (S : Nat → Int32) (q : Nat) : Int32 := if s_makes S (q / 36) (q % 36) 145 ≤ 0 then (if s_movesOf (s_makes S (q / 36) (q % 36)) (s_makes S (q / 36) (q % 36) 144) = 0 then 1 else s_movesOf (s_makes S (q / 36) (q % 36)) (s_makes S (q / 36) (q % 36) 144)) else 1
def r_sum (S : Nat → Int32) : List Nat → Int32 → Int32
  | [], a => a
  | q :: L, a => r_sum S L (a + r_one S q)
