/-! what class and model both hold: the game's row, the history's rows and how many, the text and how long -/
def xA := (Nat → Int32) × (Nat → Nat → Int32) × Nat × (Nat → Int32) × Nat
def aS (A : xA) : Nat → Int32 := A.1
def aH (A : xA) : Nat → Nat → Int32 := A.2.1
def ak (A : xA) : Nat := A.2.2.1
def aT (A : xA) : Nat → Int32 := A.2.2.2.1
def an (A : xA) : Nat := A.2.2.2.2
def a_push (A : xA) : xA := (aS A, fun i => if i = ak A then aS A else aH A i, ak A + 1, aT A, an A)
def a_drop (A : xA) : xA := (aS A, fun i => aH A (i + 1), 4, aT A, an A)
def a_rec (A : xA) : xA := if ak A < 5 then a_push A else a_push (a_drop A)
def a_set (A : xA) (S : Nat → Int32) : xA := (S, aH A, ak A, aT A, an A)
def zCR (w : xW) (A : xA) : Prop := ak A ≤ 5 ∧ w.1 0 = aS A ∧ w.1 10 0 = nI (ak A) ∧ w.1 10 1 = nI (an A) ∧ (∀ i, i < 5 → 2 ≤ zpg w i) ∧ (∀ i j, i < 5 → j < 5 → zpg w i = zpg w j → i = j) ∧ (∀ i, i < ak A → w.1 (zpg w i) = aH A i) ∧ (∀ g, g < 7 → zRw (w.1 g)) ∧ (∀ j, j < an A → w.1 7 j = aT A j) ∧ ¬ zpr w 5 = zpr w 6
def zMR (w : xW) (A : xA) : Prop := w.1 11 = aS A ∧ w.1 17 0 = nI (ak A) ∧ w.1 17 1 = nI (an A) ∧ (∀ i, i < ak A → ∀ j, j < 159 → w.1 12 (159 * i + j) = aH A i j) ∧ (∀ j, j < an A → w.1 14 j = aT A j)
/-- the model's rows are as they were -/
def zFM (w u : xW) : Prop := ∀ v, 11 ≤ v → u.1 v = w.1 v
/-- the class's rows are as they were -/
def zFC (w u : xW) : Prop := (∀ v, v < 11 → u.1 v = w.1 v) ∧ u.2 = w.2
theorem zFM_xv (w : xW) {v : Nat} (h : v < 11) (S : Nat → Int32) : zFM w (xv w v S) := fun a ha => xv_ne w S (by omega)
theorem zFM_tr {w u v : xW} (h1 : zFM w u) (h2 : zFM u v) : zFM w v := fun a ha => (h2 a ha).trans (h1 a ha)
theorem zFM_xs (w : xW) {v : Nat} (h : v < 11) (j : Nat) (x : Int32) : zFM w (xs w v j x) := by
  rw [xs_xv]; exact zFM_xv w h _
theorem zFC_xv (w : xW) {v : Nat} (h : 11 ≤ v) (S : Nat → Int32) : zFC w (xv w v S) := ⟨fun a ha => xv_ne w S (by omega), rfl⟩
theorem zFC_xs (w : xW) {v : Nat} (h : 11 ≤ v) (j : Nat) (x : Int32) : zFC w (xs w v j x) := by
  rw [xs_xv]; exact zFC_xv w h _
theorem zFC_tr {w u v : xW} (h1 : zFC w u) (h2 : zFC u v) : zFC w v := ⟨fun a ha => (h2.1 a ha).trans (h1.1 a ha), h2.2.trans h1.2⟩
theorem zMR_of {w u : xW} {A : xA} (h : zMR w A) (f : zFM w u) : zMR u A := by
  obtain ⟨a, b, c, d, e⟩ := h
  exact ⟨(f 11 (by omega)).trans a, by rw [f 17 (by omega)]; exact b, by rw [f 17 (by omega)]; exact c, fun i hi j hj => by rw [f 12 (by omega)]; exact d i hi j hj, fun j hj => by rw [f 14 (by omega)]; exact e j hj⟩
theorem zCR_of {w u : xW} {A : xA} (h : zCR w A) (f : zFC w u) : zCR u A := by
  obtain ⟨k5, a, b, c, d, e, g, i, j, pr⟩ := h
  have hz : ∀ q, zpg u q = zpg w q := fun q => by unfold zpg; rw [f.2]
  refine ⟨k5, (f.1 0 (by omega)).trans a, by rw [f.1 10 (by omega)]; exact b, by rw [f.1 10 (by omega)]; exact c, fun q hq => by rw [hz]; exact d q hq, fun p q hp hq hpq => e p q hp hq (by rw [← hz, ← hz]; exact hpq), fun q hq => ?_, fun q hq => by rw [f.1 q (by omega)]; exact i q hq, fun q hq => by rw [f.1 7 (by omega)]; exact j q hq, by unfold zpr; rw [f.2]; exact pr⟩
  rw [hz, f.1 _ (by have : zpg w q < 7 := Nat.mod_lt _ (by omega)
                    omega)]
  exact g q hq
theorem zpg_xv (w : xW) (v : Nat) (S : Nat → Int32) (i : Nat) : zpg (xv w v S) i = zpg w i := rfl
theorem zpg_xs (w : xW) (v j : Nat) (x : Int32) (i : Nat) : zpg (xs w v j x) i = zpg w i := rfl
theorem zpg_xp (w : xW) (j k i : Nat) : zpg (xp w j k) i = if i = j then k % 7 else zpg w i := by
  show (if i = j then k else w.2 i) % 7 = _
  by_cases h : i = j
  · rw [if_pos h, if_pos h]
  · rw [if_neg h, if_neg h]; rfl
/-- a new row for the game in play -/
theorem zCR_set {w : xW} {A : xA} (h : zCR w A) {S : Nat → Int32} (hS : zRw S) : zCR (xv w 0 S) (a_set A S) := by
  obtain ⟨k5, a, b, c, d, e, g, i, j, pr⟩ := h
  refine ⟨k5, xv_row w 0 S, by rw [xv_ne _ _ (by omega)]; exact b, by rw [xv_ne _ _ (by omega)]; exact c, d, e, fun q hq => ?_, fun q hq => ?_, fun q hq => by rw [xv_ne _ _ (by omega)]; exact j q hq, pr⟩
  · have hq' : q < ak A := hq
    have := d q (by omega)
    rw [zpg_xv, xv_ne _ _ (by omega)]
    exact g q hq
  · by_cases h0 : q = 0
    · rw [h0, xv_row]; exact hS
    · rw [xv_ne _ _ h0]; exact i q hq
theorem zMR_set {w : xW} {A : xA} (h : zMR w A) (S : Nat → Int32) : zMR (xv w 11 S) (a_set A S) := by
  obtain ⟨a, b, c, d, e⟩ := h
  exact ⟨xv_row w 11 S, by rw [xv_ne _ _ (by omega)]; exact b, by rw [xv_ne _ _ (by omega)]; exact c, fun i hi j hj => by rw [xv_ne _ _ (by omega)]; exact d i hi j hj, fun j hj => by rw [xv_ne _ _ (by omega)]; exact e j hj⟩
theorem C_push {w : xW} {A : xA} (h : zCR w A) (hk : ak A < 5) (h0 : zRw (w.1 0)) : zCR (xs (d_X1_copyFrom w (zpg w (ak A)) 0) 10 0 (nI (ak A + 1))) (a_push A) := by
  obtain ⟨k5, a, b, c, d, e, g, i, j, pr⟩ := h
  have hlt := zpg_lt w (ak A)
  have hge := d (ak A) hk
  rw [k_copyFrom w (by omega) (i _ hlt) (i 0 (by omega)), xs_xv, a]
  rw [xv_ne _ _ (show ¬ 10 = zpg w (ak A) by omega)]
  refine ⟨show ak A + 1 ≤ 5 by omega, ?_, ?_, ?_, d, e, ?_, ?_, ?_, pr⟩
  · rw [xv_ne _ _ (by omega), xv_ne _ _ (by omega)]; exact a
  · rw [xv_row]; exact zU_eq _ _ _
  · rw [xv_row, zU_ne _ _ (by omega)]; exact c
  · intro q hq
    have hq' : q < ak A + 1 := hq
    have hql := zpg_lt w q
    rw [zpg_xv, zpg_xv, xv_ne _ _ (by omega)]
    show _ = if q = ak A then aS A else aH A q
    by_cases hh : q = ak A
    · rw [if_pos hh, hh, xv_row]
    · rw [if_neg hh, xv_ne _ _ (fun z => hh (e q (ak A) (by omega) hk z))]
      exact g q (by omega)
  · intro q hq
    rw [xv_ne _ _ (by omega)]
    by_cases hh : q = zpg w (ak A)
    · rw [hh, xv_row, ← a]; exact i 0 (by omega)
    · rw [xv_ne _ _ hh]; exact i q hq
  · intro q hq
    rw [xv_ne _ _ (by omega), xv_ne _ _ (by omega)]
    exact j q hq
theorem nI_lt5 {k : Nat} (h : k ≤ 5) : (nI k < 5 ↔ k < 5) ∧ ¬ nI k < 0 ∧ (5 ≤ nI k ↔ k = 5) ∧ (nI k ≤ 0 ↔ k = 0) ∧ (nI k = 0 ↔ k = 0) ∧ (nI k = 5 ↔ k = 5) ∧ nI k ≤ 5 ∧ (nI k).toNatClampNeg = k := by
  have : k = 0 ∨ k = 1 ∨ k = 2 ∨ k = 3 ∨ k = 4 ∨ k = 5 := by omega
  rcases this with h | h | h | h | h | h <;> subst h <;> decide
theorem zRw_0 {w : xW} {A : xA} (h : zCR w A) : zRw (w.1 0) := h.2.2.2.2.2.2.2.1 0 (by omega)
/-- the second half of the class's way to keep a state -/
theorem C_rec2 {w : xW} {A : xA} (h : zCR w A) (hk : ak A < 5) : zCR (if (xg w 10 0) < 0 then w else (if 5 ≤ (xg w 10 0) then w else (zlet (d_X1_copyFrom w (zpg w ((xg w 10 0)).toNatClampNeg) 0) fun w4 => zlet (xs w4 10 0 ((xg w4 10 0) + 1)) fun w5 => w5))) (a_push A) ∧ zFM w (if (xg w 10 0) < 0 then w else (if 5 ≤ (xg w 10 0) then w else (zlet (d_X1_copyFrom w (zpg w ((xg w 10 0)).toNatClampNeg) 0) fun w4 => zlet (xs w4 10 0 ((xg w4 10 0) + 1)) fun w5 => w5))) := by
  have hh := C_push h hk (zRw_0 h)
  obtain ⟨k5, a, b, c, d, e, g, i, j, pr⟩ := h
  have n := nI_lt5 k5
  have hlt := zpg_lt w (ak A)
  have hge := d (ak A) hk
  rw [xg_row, b, if_neg n.2.1, if_neg (fun q => by have := n.2.2.1.mp q; omega), n.2.2.2.2.2.2.2, zlet_def, zlet_def]
  rw [k_copyFrom w (by omega) (i _ hlt) (i 0 (by omega))] at hh ⊢
  rw [xg_row, xv_ne _ _ (show ¬ 10 = zpg w (ak A) by omega), b, show nI (ak A) + 1 = nI (ak A + 1) from (nI_succ _).symm]
  exact ⟨hh, zFM_tr (zFM_xv w (by omega) _) (zFM_xs _ (by omega) _ _)⟩
theorem C_drop_w (w : xW) (kt : Nat → xW → xW) : d_X2_record_21 kt 6 1 w = kt 5 (xp (xp (xp (xp w 0 (zpg w 1)) 1 (zpg w 2)) 2 (zpg w 3)) 3 (zpg w 4)) := by
  rw [d_X2_record_21, if_neg (by decide), zlet_def, d_X2_record_21, if_neg (by decide), zlet_def, d_X2_record_21, if_neg (by decide), zlet_def, d_X2_record_21, if_neg (by decide), zlet_def, d_X2_record_21, if_pos (by decide)]
  rw [zpg_xp, zpg_xp, zpg_xp, zpg_xp, zpg_xp, zpg_xp]
  rfl
theorem C_drop {w : xW} {A : xA} (h : zCR w A) (hk : ak A = 5) : zCR (xs (xp (xp (xp (xp (xp w 0 (zpg w 1)) 1 (zpg w 2)) 2 (zpg w 3)) 3 (zpg w 4)) 4 (zpg w 0)) 10 0 (nI 4)) (a_drop A) := by
  obtain ⟨k5, a, b, c, d, e, g, i, j, pr⟩ := h
  have hz : ∀ q, q < 5 → zpg (xs (xp (xp (xp (xp (xp w 0 (zpg w 1)) 1 (zpg w 2)) 2 (zpg w 3)) 3 (zpg w 4)) 4 (zpg w 0)) 10 0 (nI 4)) q = zpg w (if q < 4 then q + 1 else 0) := by
    intro q hq
    have hm : ∀ r, zpg w r % 7 = zpg w r := fun r => Nat.mod_eq_of_lt (zpg_lt w r)
    rw [zpg_xs, zpg_xp, zpg_xp, zpg_xp, zpg_xp, zpg_xp, hm, hm, hm, hm, hm]
    have : q = 0 ∨ q = 1 ∨ q = 2 ∨ q = 3 ∨ q = 4 := by omega
    rcases this with h | h | h | h | h <;> subst h <;> rfl
  have h1 : ∀ v, (xp (xp (xp (xp (xp w 0 (zpg w 1)) 1 (zpg w 2)) 2 (zpg w 3)) 3 (zpg w 4)) 4 (zpg w 0)).1 v = w.1 v := fun _ => rfl
  have hx : ∀ v, ¬ v = 10 → (xs (xp (xp (xp (xp (xp w 0 (zpg w 1)) 1 (zpg w 2)) 2 (zpg w 3)) 3 (zpg w 4)) 4 (zpg w 0)) 10 0 (nI 4)).1 v = w.1 v := fun v hv => by
    rw [xs_xv, xv_ne _ _ hv]
    exact h1 v
  refine ⟨show 4 ≤ 5 by omega, (hx 0 (by omega)).trans a, ?_, ?_, ?_, ?_, ?_, ?_, ?_, pr⟩
  · rw [xs_xv, xv_row]; exact zU_eq _ _ _
  · rw [xs_xv, xv_row, zU_ne _ _ (by omega), h1]; exact c
  · intro q hq
    rw [hz q hq]
    by_cases h4 : q < 4
    · rw [if_pos h4]; exact d _ (by omega)
    · rw [if_neg h4]; exact d _ (by omega)
  · intro p q hp hq hpq
    rw [hz p hp, hz q hq] at hpq
    have := e _ _ (by by_cases h4 : p < 4
                      · rw [if_pos h4]; omega
                      · rw [if_neg h4]; omega) (by
                      by_cases h4 : q < 4
                      · rw [if_pos h4]; omega
                      · rw [if_neg h4]; omega) hpq
    by_cases h4 : p < 4
    · rw [if_pos h4] at this
      by_cases h5 : q < 4
      · rw [if_pos h5] at this; omega
      · rw [if_neg h5] at this; omega
    · rw [if_neg h4] at this
      by_cases h5 : q < 4
      · rw [if_pos h5] at this; omega
      · omega
  · intro q hq
    have hq' : q < 4 := hq
    rw [hz q (by omega), if_pos hq']
    have := zpg_lt w (q + 1)
    rw [hx _ (by omega)]
    exact g (q + 1) (by omega)
  · intro q hq
    rw [hx q (by omega)]
    exact i q hq
  · intro q hq
    rw [hx 7 (by omega)]
    exact j q hq
theorem C_rec {w : xW} {A : xA} (h : zCR w A) : zCR (d_X2_record w) (a_rec A) ∧ zFM w (d_X2_record w) := by
  have k5 := h.1
  have b := h.2.2.1
  have n := nI_lt5 k5
  rw [d_X2_record, a_rec]
  by_cases hk : ak A < 5
  · rw [if_pos hk, if_pos (by rw [xg_row, b]; exact n.1.mpr hk), zlet_def]
    exact C_rec2 h hk
  · rw [if_neg hk, if_neg (by rw [xg_row, b]; exact fun q => hk (n.1.mp q)), C_drop_w, d_X2_record_21k, zlet_def, zlet_def, zlet_def]
    have h5 : ak A = 5 := by omega
    have := C_rec2 (C_drop h h5) (show 4 < 5 by omega)
    exact ⟨this.1, zFM_tr (u := xs (xp (xp (xp (xp (xp w 0 (zpg w 1)) 1 (zpg w 2)) 2 (zpg w 3)) 3 (zpg w 4)) 4 (zpg w 0)) 10 0 (nI 4)) (fun v hv => by rw [xs_xv, xv_ne _ _ (by omega)]; rfl) this.2⟩
theorem m_rec51 (kt : Nat → xW → xW) : ∀ (n j k : Nat) (w : xW) (m : Nat), w.1 17 0 = nI m → m ≤ 5 → k + j = 159 → j < n → d_X3_records_51 kt n k w = kt 159 (xv w 12 (fun b => if 159 * m + k ≤ b ∧ b < 159 * m + 159 then w.1 11 (b - 159 * m) else w.1 12 b)) := by
  intro n
  induction n with
  | zero => intro j k w m h0 h1 h2 h3; omega
  | succ n ih =>
    intro j k w m h0 h1 h2 h3
    rw [d_X3_records_51]
    by_cases hk : 159 ≤ k
    · rw [if_pos hk, show k = 159 by omega]
      congr 1
      conv => lhs; rw [← xv_self w 12]
      congr 1
      funext b
      rw [if_neg (by omega)]
    · rw [if_neg hk, zlet_def, zlet_def, xg_row, h0, (nI_lt5 h1).2.2.2.2.2.2.2, xs_xv]
      rw [ih (j - 1) (k + 1) _ m (by rw [xv_ne _ _ (by omega)]; exact h0) h1 (by omega) (by omega), xv_xv, xv_ne _ _ (by omega : ¬ 11 = 12), xv_row]
      congr 2
      funext b
      by_cases hb : 159 * m + (k + 1) ≤ b ∧ b < 159 * m + 159
      · rw [if_pos hb, if_pos ⟨by omega, hb.2⟩]
      · rw [if_neg hb, zU_at]
        by_cases hb2 : b = 159 * m + k
        · rw [if_pos hb2, if_pos ⟨by omega, by omega⟩, hb2, Nat.add_sub_cancel_left, xg_row]
        · rw [if_neg hb2, if_neg (by omega)]
theorem m_rec10 (kt : Nat → xW → xW) : ∀ (n j k : Nat) (w : xW), k + j = 636 → j < n → d_X3_records_10 kt n k w = kt 636 (xv w 12 (fun b => if k ≤ b ∧ b < 636 then w.1 12 (b + 159) else w.1 12 b)) := by
  intro n
  induction n with
  | zero => intro j k w h2 h3; omega
  | succ n ih =>
    intro j k w h2 h3
    rw [d_X3_records_10]
    by_cases hk : 636 ≤ k
    · rw [if_pos hk, show k = 636 by omega]
      congr 1
      conv => lhs; rw [← xv_self w 12]
      congr 1
      funext b
      rw [if_neg (by omega)]
    · rw [if_neg hk, zlet_def, xs_xv]
      rw [ih (j - 1) (k + 1) _ (by omega) (by omega), xv_xv, xv_row]
      congr 2
      funext b
      by_cases hb : k + 1 ≤ b ∧ b < 636
      · rw [if_pos hb, if_pos ⟨by omega, hb.2⟩, zU_ne _ _ (by omega)]
      · rw [if_neg hb, zU_at]
        by_cases hb2 : b = k
        · rw [if_pos hb2, if_pos ⟨by omega, by omega⟩, hb2, xg_row]
        · rw [if_neg hb2, if_neg (by omega)]
theorem M_push {w : xW} {A : xA} (h : zMR w A) (hk : ak A < 5) : zMR (d_X3_records_51 d_X3_records_51k 160 0 w) (a_push A) ∧ zFC w (d_X3_records_51 d_X3_records_51k 160 0 w) := by
  obtain ⟨a, b, c, d, e⟩ := h
  rw [m_rec51 d_X3_records_51k 160 159 0 w (ak A) b (by omega) (by omega) (by omega), d_X3_records_51k, zlet_def, xs_xv, xg_row]
  refine ⟨⟨?_, ?_, ?_, ?_, ?_⟩, zFC_tr (zFC_xv w (by omega) _) (zFC_xv _ (by omega) _)⟩
  · rw [xv_ne _ _ (by omega), xv_ne _ _ (by omega)]; exact a
  · rw [xv_row, zU_eq, xv_ne _ _ (by omega), b, ← nI_succ]; rfl
  · rw [xv_row, zU_ne _ _ (by omega), xv_ne _ _ (by omega), c]; rfl
  · intro q hq j hj
    have hq' : q < ak A + 1 := hq
    rw [xv_ne _ _ (by omega), xv_row]
    show _ = (if q = ak A then aS A else aH A q) j
    by_cases hh : q = ak A
    · rw [if_pos hh, if_pos ⟨by omega, by omega⟩, hh, Nat.add_sub_cancel_left, a]
    · rw [if_neg hh, if_neg (by omega)]
      exact d q (by omega) j hj
  · intro q hq
    rw [xv_ne _ _ (by omega), xv_ne _ _ (by omega)]
    exact e q hq
theorem M_rec {w : xW} {A : xA} (h : zMR w A) (k5 : ak A ≤ 5) : zMR (d_X3_records w) (a_rec A) ∧ zFC w (d_X3_records w) := by
  have n := nI_lt5 k5
  rw [d_X3_records, a_rec]
  by_cases hk : ak A < 5
  · rw [if_pos hk, if_neg (by rw [xg_row, h.2.1]; exact fun q => by have := n.2.2.2.2.2.1.mp q; omega), zlet_def]
    exact M_push h hk
  · have h5 : ak A = 5 := by omega
    rw [if_neg hk, if_pos (by rw [xg_row, h.2.1, h5]; rfl), m_rec10 d_X3_records_10k 637 636 0 w (by omega) (by omega), d_X3_records_10k, zlet_def, zlet_def, xs_xv, xg_row]
    have hd : zMR (xv (xv w 12 (fun b => if 0 ≤ b ∧ b < 636 then w.1 12 (b + 159) else w.1 12 b)) 17 (zU ((xv w 12 (fun b => if 0 ≤ b ∧ b < 636 then w.1 12 (b + 159) else w.1 12 b)).1 17) 0 ((xv w 12 (fun b => if 0 ≤ b ∧ b < 636 then w.1 12 (b + 159) else w.1 12 b)).1 17 0 - 1))) (a_drop A) := by
      obtain ⟨a, b, c, d, e⟩ := h
      refine ⟨?_, ?_, ?_, ?_, ?_⟩
      · rw [xv_ne _ _ (by omega), xv_ne _ _ (by omega)]; exact a
      · rw [xv_row, zU_eq, xv_ne _ _ (by omega), b, h5]; exact (by decide : nI 5 - 1 = nI 4)
      · rw [xv_row, zU_ne _ _ (by omega), xv_ne _ _ (by omega), c]; rfl
      · intro q hq j hj
        have hq' : q < 4 := hq
        rw [xv_ne _ _ (by omega), xv_row, if_pos ⟨by omega, by omega⟩, show 159 * q + j + 159 = 159 * (q + 1) + j by omega]
        exact d (q + 1) (by omega) j hj
      · intro q hq
        rw [xv_ne _ _ (by omega), xv_ne _ _ (by omega)]
        exact e q hq
    have := M_push hd (show 4 < 5 by omega)
    exact ⟨this.1, zFC_tr (zFC_tr (zFC_xv w (by omega) _) (zFC_xv _ (by omega) _)) this.2⟩
