/-! small facts that the laid rows name -/
theorem z_incn (a b : Nat) : nI a + Int32.ofInt (b : Int) = nI (a + b) := by
  rw [← nI_add]
  rfl
theorem zg_lt {N g : Nat} (hN : 47 ≤ N) (hg : g < 7) : 5 + 6 * g < N := by omega
theorem zg_lt' {N g : Nat} (hN : 47 ≤ N) (hg : g < 7) : 6 + 6 * g < N := by omega
theorem zpr_34 (w : xW) (j : Nat) : zpr w j = 3 ∨ zpr w j = 4 := by unfold zpr; omega
theorem zidxN {x : Int32} {n : Nat} (hn : n < 2147483648) (h1 : ¬ x < 0) (h2 : ¬ nI n ≤ x) : x = nI x.toNatClampNeg ∧ x.toNatClampNeg < n := by
  rcases pk_ix x hn with h | h | ⟨j, hj, rfl⟩
  · exact absurd h h1
  · exact absurd h h2
  · rw [zcl (by omega)]; exact ⟨rfl, hj⟩
theorem zidx {x : Int32} (h1 : ¬ x < 0) (h2 : ¬ 36 ≤ x) : x = nI x.toNatClampNeg ∧ x.toNatClampNeg < 36 := zidxN (by decide) h1 h2
theorem zidx5 {x : Int32} (h1 : ¬ x < 0) (h2 : ¬ 5 ≤ x) : x = nI x.toNatClampNeg ∧ x.toNatClampNeg < 5 := zidxN (by decide) h1 h2
theorem zidx80 {x : Int32} (h1 : ¬ x < 0) (h2 : ¬ 80 ≤ x) : x = nI x.toNatClampNeg ∧ x.toNatClampNeg < 80 := zidxN (by decide) h1 h2
theorem zcellx {x : Int32} {n c : Nat} (h : x = nI x.toNatClampNeg ∧ x.toNatClampNeg < n) (hc : c = x.toNatClampNeg) : c < n ∧ x = nI c := by
  subst hc
  exact ⟨h.2, h.1⟩
theorem ztab_outN {x : Int32} {n : Nat} (hn : n < 2147483648) (h : ∀ j, j < n → ¬ x = nI j) : x.toInt < 0 ∨ (n : Int) - 1 < x.toInt := by
  rcases pk_ix x hn with q | q | ⟨j, hj, rfl⟩
  · left
    have := Int32.lt_iff_toInt_lt.mp q
    simpa using this
  · right
    have := Int32.le_iff_toInt_le.mp q
    rw [nI_toInt (by omega)] at this
    omega
  · exact absurd rfl (h j hj)
theorem ztab_out4 {x : Int32} (h0 : ¬ x = 0) (h1 : ¬ x = 1) (h2 : ¬ x = 2) (h3 : ¬ x = 3) : x.toInt < 0 ∨ 3 < x.toInt := ztab_outN (n := 4) (by decide) fun j hj => by
  rcases (by omega : j = 0 ∨ j = 1 ∨ j = 2 ∨ j = 3) with rfl | rfl | rfl | rfl <;> assumption
theorem ztab_out3 {x : Int32} (h0 : ¬ x = 0) (h1 : ¬ x = 1) (h2 : ¬ x = 2) : x.toInt < 0 ∨ 2 < x.toInt := ztab_outN (n := 3) (by decide) fun j hj => by
  rcases (by omega : j = 0 ∨ j = 1 ∨ j = 2) with rfl | rfl | rfl <;> assumption
theorem ztab_out6 {x : Int32} (h0 : ¬ x = 0) (h1 : ¬ x = 1) (h2 : ¬ x = 2) (h3 : ¬ x = 3) (h4 : ¬ x = 4) (h5 : ¬ x = 5) : x.toInt < 0 ∨ 5 < x.toInt := ztab_outN (n := 6) (by decide) fun j hj => by
  rcases (by omega : j = 0 ∨ j = 1 ∨ j = 2 ∨ j = 3 ∨ j = 4 ∨ j = 5) with rfl | rfl | rfl | rfl | rfl | rfl <;> assumption
theorem ztab_out13 {x : Int32} (h0 : ¬ x = 0) (h1 : ¬ x = 1) (h2 : ¬ x = 2) (h3 : ¬ x = 3) (h4 : ¬ x = 4) (h5 : ¬ x = 5) (h6 : ¬ x = 6) (h7 : ¬ x = 7) (h8 : ¬ x = 8) (h9 : ¬ x = 9) (h10 : ¬ x = 10) (h11 : ¬ x = 11) (h12 : ¬ x = 12) : x.toInt < 0 ∨ 12 < x.toInt := ztab_outN (n := 13) (by decide) fun j hj => by
  rcases (by omega : j = 0 ∨ j = 1 ∨ j = 2 ∨ j = 3 ∨ j = 4 ∨ j = 5 ∨ j = 6 ∨ j = 7 ∨ j = 8 ∨ j = 9 ∨ j = 10 ∨ j = 11 ∨ j = 12) with rfl | rfl | rfl | rfl | rfl | rfl | rfl | rfl | rfl | rfl | rfl | rfl | rfl <;> assumption
theorem ztab_out26 {x : Int32} (h0 : ¬ x = 0) (h1 : ¬ x = 1) (h2 : ¬ x = 2) (h3 : ¬ x = 3) (h4 : ¬ x = 4) (h5 : ¬ x = 5) (h6 : ¬ x = 6) (h7 : ¬ x = 7) (h8 : ¬ x = 8) (h9 : ¬ x = 9) (h10 : ¬ x = 10) (h11 : ¬ x = 11) (h12 : ¬ x = 12) (h13 : ¬ x = 13) (h14 : ¬ x = 14) (h15 : ¬ x = 15) (h16 : ¬ x = 16) (h17 : ¬ x = 17) (h18 : ¬ x = 18) (h19 : ¬ x = 19) (h20 : ¬ x = 20) (h21 : ¬ x = 21) (h22 : ¬ x = 22) (h23 : ¬ x = 23) (h24 : ¬ x = 24) (h25 : ¬ x = 25) : x.toInt < 0 ∨ 25 < x.toInt := ztab_outN (n := 26) (by decide) fun j hj => by
  rcases (by omega : j = 0 ∨ j = 1 ∨ j = 2 ∨ j = 3 ∨ j = 4 ∨ j = 5 ∨ j = 6 ∨ j = 7 ∨ j = 8 ∨ j = 9 ∨ j = 10 ∨ j = 11 ∨ j = 12 ∨ j = 13 ∨ j = 14 ∨ j = 15 ∨ j = 16 ∨ j = 17 ∨ j = 18 ∨ j = 19 ∨ j = 20 ∨ j = 21 ∨ j = 22 ∨ j = 23 ∨ j = 24 ∨ j = 25) with rfl | rfl | rfl | rfl | rfl | rfl | rfl | rfl | rfl | rfl | rfl | rfl | rfl | rfl | rfl | rfl | rfl | rfl | rfl | rfl | rfl | rfl | rfl | rfl | rfl | rfl <;> assumption
theorem zlook_out2 {x : Int32} {a b df : Int} (h0 : ¬ x = 0) (h1 : ¬ x = 1) : Op.lookupswitch.offset [(0, a), (1, b)] df x.toInt = df := by
  have e0 : ¬ x.toInt = 0 := fun h => h0 (Int32.toInt_inj.mp h)
  have e1 : ¬ x.toInt = 1 := fun h => h1 (Int32.toInt_inj.mp h)
  simp [Op.lookupswitch.offset, e0, e1, Ne.symm e0, Ne.symm e1]
/-- 36 numbers of one row over those of another -/
def xcopy (w : xW) (v o v0 o0 : Nat) : xW := (fun a b => if a = v ∧ o ≤ b ∧ b < o + 36 then xg w v0 (o0 + (b - o)) else w.1 a b, w.2)
theorem xcopy_xg (w : xW) (v o v0 o0 a b : Nat) : xg (xcopy w v o v0 o0) a b = if a = v ∧ o ≤ b ∧ b < o + 36 then xg w v0 (o0 + (b - o)) else xg w a b := rfl
theorem zown_cp {g r b : Nat} (hg : g < 7) (hr : r < 4) (h1 : 36 * r ≤ b) (h2 : b < 36 * r + 36) : zown g b = 7 + r + 6 * g := by
  obtain ⟨c, e⟩ : ∃ c, b = 36 * r + c := ⟨b - 36 * r, by omega⟩
  subst e
  exact zown_arr hg hr (by omega)
theorem zown_row (w : xW) (j b : Nat) : zown (5 + zpr w j) b = zpr w j := by
  rcases zpr_34 w j with h | h <;> rw [h] <;> rfl
theorem znative : nativeFrameWords "java/lang/System" "arraycopy" 5 + 11 ≤ 60 := by decide
theorem zabs5 {x : Int32} (h : -6 < x.toInt ∧ x.toInt < 6) : 0 ≤ (if 0 ≤ x then x else 0 - x).toInt ∧ (if 0 ≤ x then x else 0 - x).toInt < 6 := by
  by_cases h0 : 0 ≤ x
  · rw [if_pos h0]
    have := Int32.le_iff_toInt_le.mp h0
    have e : (0 : Int32).toInt = 0 := rfl
    omega
  · rw [if_neg h0]
    have h1 : ¬ (0 : Int32).toInt ≤ x.toInt := fun q => h0 (Int32.le_iff_toInt_le.mpr q)
    have e : (0 : Int32).toInt = 0 := rfl
    have e2 : (0 - x).toInt = 0 - x.toInt := by
      rw [Int32.toInt_sub, e]
      rw [Int.bmod_eq_of_le] <;> omega
    omega
theorem zmax5 {a b x : Int32} (ha : -6 < a.toInt ∧ a.toInt < 6) (hb : -6 < b.toInt ∧ b.toInt < 6) (hx : x = if (if 0 ≤ a then a else 0 - a) < (if 0 ≤ b then b else 0 - b) then (if 0 ≤ b then b else 0 - b) else (if 0 ≤ a then a else 0 - a)) : x.toInt < 6 := by
  have h1 := zabs5 ha
  have h2 := zabs5 hb
  subst hx
  by_cases h : (if 0 ≤ a then a else 0 - a) < (if 0 ≤ b then b else 0 - b)
  · rw [if_pos h]; omega
  · rw [if_neg h]; omega
theorem zsteps_lt {x : Int32} {d : Nat} (h : ¬ x ≤ nI d) (hx : x.toInt < 6) (hd : d < 2147483648) : d < 5 := by
  have h1 : ¬ x.toInt ≤ (nI d).toInt := fun q => h (Int32.le_iff_toInt_le.mpr q)
  rw [nI_toInt hd] at h1
  omega
theorem zdiff5 {a b : Nat} (ha : a < 6) (hb : b < 6) : -6 < (nI a - nI b).toInt ∧ (nI a - nI b).toInt < 6 := by
  rw [pk_sub_toInt (by omega) (by omega)]
  omega
theorem zpair {α β : Type} (p : α × β) : ∃ r u, p = (r, u) := ⟨p.1, p.2, by cases p; rfl⟩
theorem zidx80p {x : Int32} (h1 : ¬ x < 0) (h2 : x < 80) : x = nI x.toNatClampNeg ∧ x.toNatClampNeg < 80 := zidx80 h1 (Int32.not_le.mpr h2)
theorem zidx6 {x : Int32} (h1 : ¬ x < 0) (h2 : ¬ 6 ≤ x) : x = nI x.toNatClampNeg ∧ x.toNatClampNeg < 6 := zidxN (by decide) h1 h2
