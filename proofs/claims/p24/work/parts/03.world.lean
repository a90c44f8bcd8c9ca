/-! the world: one object of the class as numbers X v j and two small tables of places; a row of long numbers (the law's) behind it -/
abbrev xW : Type := (Nat → Nat → Int32) × (Nat → Nat)
def xg (w : xW) (v j : Nat) : Int32 := w.1 v j
def xs (w : xW) (v j : Nat) (x : Int32) : xW := (fun a b => if a = v ∧ b = j then x else w.1 a b, w.2)
/-- a whole vector in place of another -/
def xv (w : xW) (v : Nat) (f : Nat → Int32) : xW := (fun a b => if a = v then f b else w.1 a b, w.2)
/-- a place of the small table -/
def xp (w : xW) (j k : Nat) : xW := (w.1, fun a => if a = j then k else w.2 a)
abbrev zG : Type := va_G × ClassId × ClassId × ClassId × ClassId × (Nat → Nat)
def zad (G : zG) (i : Nat) : Nat := G.2.2.2.2.2 i
def zb (x : Int32) : Int32 := if x = 0 then 0 else 1
def zc (x : Int32) : Int32 := vp_nar .char x
def zArr (cA : ClassId) (n v o : Nat) (w : xW) : va_E := .inl (cA, n, .inl (fun j => if j < n then xg w v (o + j) else 0))
def zArc (cA : ClassId) (n v : Nat) (w : xW) : va_E := .inl (cA, n, .inl (fun j => if j < n then zc (xg w v j) else 0))
def zGame (G : zG) (w : xW) (g : Nat) : va_E := .inr (1, [.ref (zad G (6 + 6 * g)), .int (xg w g 149), .int (xg w g 150), .int (xg w g 151), .int (xg w g 144), .int (xg w g 145), .int (xg w g 146), .int (xg w g 147), .int (zb (xg w g 148)), .int (xg w g 152), .int (xg w g 153), .int (xg w g 154), .int (xg w g 155), .int (xg w g 156), .int (xg w g 158)])
def zBoard (G : zG) (g : Nat) : va_E := .inr (0, [.ref (zad G (7 + 6 * g)), .ref (zad G (8 + 6 * g)), .ref (zad G (9 + 6 * g)), .ref (zad G (10 + 6 * g))])
/-- the game that stands at a place of the history's row -/
def zpg (w : xW) (j : Nat) : Nat := w.2 j % 7
/-- which of the two rows a name of the class means -/
def zpr (w : xW) (j : Nat) : Nat := 3 + w.2 j % 2
def zOuter (G : zG) (w : xW) : va_E := .inr (2, [.ref (zad G 5), .ref (zad G 11), .ref (zad G 1), .int (xg w 10 0), .ref (zad G 2), .int (xg w 10 1), .ref (zad G (zpr w 5)), .ref (zad G (zpr w 6))])
def zRefs (G : zG) (w : xW) : va_E := .inl (G.2.2.2.1, 5, .inr (.inr (.inr (.inr (fun j => if j < 5 then some (zad G (5 + 6 * zpg w j)) else none)))))
/-- a long number as it lies in the second table -/
def zLg (q : Nat) : Int64 := Int64.ofBitVec (BitVec.ofNat 64 q)
def zLf (w : xW) : Nat → Int64 := fun j => if j < 48 then zLg (w.2 (100 + j)) else 0
def zLong (G : zG) (w : xW) : va_E := .inl (G.2.2.2.2.1, 48, .inr (.inl (zLf w)))
def zE (G : zG) (w : xW) (i : Nat) : va_E :=
  if i = 0 then zOuter G w
  else if i = 1 then zRefs G w
  else if i = 2 then zArc G.2.2.1 80 7 w
  else if i = 3 then zArr G.2.1 36 8 0 w
  else if i = 4 then zArr G.2.1 36 9 0 w
  else if i = 47 then zLong G w
  else if (i - 5) % 6 = 0 then zGame G w ((i - 5) / 6)
  else if (i - 5) % 6 = 1 then zBoard G ((i - 5) / 6)
  else zArr G.2.1 36 ((i - 5) / 6) (36 * ((i - 5) % 6 - 2)) w
theorem zE_game (G : zG) (w : xW) {g : Nat} (hg : g < 7) : zE G w (5 + 6 * g) = zGame G w g := by
  have h1 : (5 + 6 * g - 5) % 6 = 0 := by omega
  have h2 : (5 + 6 * g - 5) / 6 = g := by omega
  simp only [zE, h1, h2]
  repeat (first | rw [if_pos rfl] | rw [if_pos trivial] | rw [if_neg (by omega)])
theorem zE_board (G : zG) (w : xW) {g : Nat} (hg : g < 7) : zE G w (6 + 6 * g) = zBoard G g := by
  have h1 : (6 + 6 * g - 5) % 6 = 1 := by omega
  have h2 : (6 + 6 * g - 5) / 6 = g := by omega
  simp only [zE, h1, h2]
  repeat (first | rw [if_pos rfl] | rw [if_pos trivial] | rw [if_neg (by omega)])
theorem zE_arr (G : zG) (w : xW) {g r : Nat} (hg : g < 7) (hr : r < 4) : zE G w (7 + r + 6 * g) = zArr G.2.1 36 g (36 * r) w := by
  have h1 : (7 + r + 6 * g - 5) % 6 = r + 2 := by omega
  have h2 : (7 + r + 6 * g - 5) / 6 = g := by omega
  have h3 : r + 2 - 2 = r := by omega
  simp only [zE, h1, h2, h3]
  repeat (first | rw [if_pos rfl] | rw [if_pos trivial] | rw [if_neg (by omega)])
theorem zE_0 (G : zG) (w : xW) : zE G w 0 = zOuter G w := rfl
theorem zE_1 (G : zG) (w : xW) : zE G w 1 = zRefs G w := rfl
theorem zE_2 (G : zG) (w : xW) : zE G w 2 = zArc G.2.2.1 80 7 w := rfl
theorem zE_3 (G : zG) (w : xW) : zE G w 3 = zArr G.2.1 36 8 0 w := rfl
theorem zE_4 (G : zG) (w : xW) : zE G w 4 = zArr G.2.1 36 9 0 w := rfl
theorem zE_47 (G : zG) (w : xW) : zE G w 47 = zLong G w := rfl
theorem zE_row (G : zG) (w u : xW) (j : Nat) : zE G u (zpr w j) = zArr G.2.1 36 (5 + zpr w j) 0 u := by
  have h : zpr w j = 3 ∨ zpr w j = 4 := by unfold zpr; omega
  rcases h with h | h <;> rw [h] <;> rfl
theorem zpr_lt (w : xW) (j : Nat) : zpr w j < 5 := by unfold zpr; omega
theorem zpg_lt (w : xW) (j : Nat) : zpg w j < 7 := by unfold zpg; omega
/-- the cell in which a number of the world lies -/
def zown (v j : Nat) : Nat :=
  if v < 7 then (if j < 144 then 7 + j / 36 + 6 * v else 5 + 6 * v)
  else if v = 7 then 2 else if v = 8 then 3 else if v = 9 then 4 else if v = 10 then 0
  else 99
theorem zown_arr {g r c : Nat} (hg : g < 7) (hr : r < 4) (hc : c < 36) : zown g (36 * r + c) = 7 + r + 6 * g := by
  unfold zown
  rw [if_pos hg, if_pos (by omega)]
  omega
theorem zown_game {g j : Nat} (hg : g < 7) (hj : 144 ≤ j) : zown g j = 5 + 6 * g := by
  unfold zown
  rw [if_pos hg, if_neg (by omega)]
theorem zArr_congr {cA : ClassId} {n v o : Nat} {w u : xW} (h : ∀ j, j < n → xg w v (o + j) = xg u v (o + j)) : zArr cA n v o w = zArr cA n v o u := by
  unfold zArr
  have : (fun j => if j < n then xg w v (o + j) else 0) = (fun j => if j < n then xg u v (o + j) else 0) := by
    funext j
    by_cases hj : j < n
    · simp only [hj, if_true]; exact h j hj
    · simp only [hj, if_false]
  rw [this]
theorem zArc_congr {cA : ClassId} {n v : Nat} {w u : xW} (h : ∀ j, j < n → xg w v j = xg u v j) : zArc cA n v w = zArc cA n v u := by
  unfold zArc
  have : (fun j => if j < n then zc (xg w v j) else 0) = (fun j => if j < n then zc (xg u v j) else 0) := by
    funext j
    by_cases hj : j < n
    · simp only [hj, if_true]; rw [h j hj]
    · simp only [hj, if_false]
  rw [this]
/-- a cell is what its own numbers say -/
theorem zE_congr {G : zG} {w u : xW} {i : Nat} (hi : i < 48) (hp : w.2 = u.2) (h : ∀ v j, zown v j = i → xg w v j = xg u v j) : zE G w i = zE G u i := by
  by_cases h0 : i = 0
  · subst h0
    simp only [zE_0, zOuter, zpr, hp, h 10 0 rfl, h 10 1 rfl]
  by_cases h1 : i = 1
  · subst h1
    simp only [zE_1, zRefs, zpg, hp]
  by_cases h2 : i = 2
  · subst h2
    exact zArc_congr fun j _ => h 7 j rfl
  by_cases h3 : i = 3
  · subst h3
    exact zArr_congr fun j _ => h 8 _ rfl
  by_cases h4 : i = 4
  · subst h4
    exact zArr_congr fun j _ => h 9 _ rfl
  by_cases h47 : i = 47
  · subst h47
    have e : zLf w = zLf u := by
      unfold zLf
      rw [hp]
    rw [zE_47, zE_47, zLong, zLong, e]
  obtain ⟨g, r, hg, hr, e⟩ : ∃ g r, g < 7 ∧ r < 6 ∧ i = 5 + r + 6 * g := ⟨(i - 5) / 6, (i - 5) % 6, by omega, by omega, by omega⟩
  subst e
  by_cases r0 : r = 0
  · subst r0
    rw [show 5 + 0 + 6 * g = 5 + 6 * g by omega, zE_game _ _ hg, zE_game _ _ hg]
    have q : ∀ j, 144 ≤ j → xg w g j = xg u g j := fun j hj => h g j (zown_game hg hj)
    simp only [zGame, q 149 (by decide), q 150 (by decide), q 151 (by decide), q 144 (by decide), q 145 (by decide), q 146 (by decide), q 147 (by decide), q 148 (by decide), q 152 (by decide), q 153 (by decide), q 154 (by decide), q 155 (by decide), q 156 (by decide), q 158 (by decide)]
  by_cases r1 : r = 1
  · subst r1
    rw [show 5 + 1 + 6 * g = 6 + 6 * g by omega, zE_board _ _ hg, zE_board _ _ hg]
  obtain ⟨r', e⟩ : ∃ r', r = r' + 2 := ⟨r - 2, by omega⟩
  subst e
  rw [show 5 + (r' + 2) + 6 * g = 7 + r' + 6 * g by omega, zE_arr _ _ hg (by omega), zE_arr _ _ hg (by omega)]
  exact zArr_congr fun j hj => h g _ (by rw [zown_arr hg (by omega) hj]; omega)
theorem xg_xs (w : xW) (v j : Nat) (x : Int32) (a b : Nat) : xg (xs w v j x) a b = if a = v ∧ b = j then x else xg w a b := rfl
theorem xg_same (w : xW) (v j : Nat) (x : Int32) : xg (xs w v j x) v j = x := by simp [xg_xs]
theorem xg_ne (w : xW) {v j a b : Nat} (x : Int32) (h : ¬ (a = v ∧ b = j)) : xg (xs w v j x) a b = xg w a b := by rw [xg_xs, if_neg h]
theorem xg_xp (w : xW) (j k : Nat) (a b : Nat) : xg (xp w j k) a b = xg w a b := rfl
theorem xg_xv (w : xW) (v : Nat) (f : Nat → Int32) (a b : Nat) : xg (xv w v f) a b = if a = v then f b else xg w a b := rfl
theorem zE_xs {G : zG} {w : xW} {v j i : Nat} {x : Int32} (hi : i < 48) (h : i ≠ zown v j) : zE G (xs w v j x) i = zE G w i :=
  zE_congr hi rfl fun a b e => xg_ne w x (fun q => h (by rw [← e, q.1, q.2]))
/-- the cells as the kit has them -/
def zws (G : zG) (N : Nat) (w : xW) : va_W := (List.range N).map (fun i => (zad G i, zE G w i))
theorem zws_get {G : zG} {N : Nat} (w : xW) {i : Nat} (h : i < N) : (zws G N w)[i]? = some (zad G i, zE G w i) := by
  simp [zws, h]
theorem zws_set {G : zG} {N : Nat} {w u : xW} {i : Nat} {e : va_E} (hi : i < N) (he : zE G u i = e) (ho : ∀ j, j < N → j ≠ i → zE G u j = zE G w j) : (zws G N w).set i (zad G i, e) = zws G N u := by
  apply List.ext_getElem?
  intro k
  by_cases hk : k < N
  · by_cases hki : k = i
    · subst hki
      rw [List.getElem?_set_self (by simp [zws, hk]), zws_get u hk, he]
    · rw [List.getElem?_set_ne (Ne.symm hki), zws_get w hk, zws_get u hk, ho k hk hki]
  · rw [List.getElem?_eq_none (by simp [zws]; omega), List.getElem?_eq_none (by simp [zws]; omega)]
theorem zArr_set {cA : ClassId} {n v o c : Nat} {w : xW} {x : Int32} (hc : c < n) : zArr cA n v o (xs w v (o + c) x) = .inl (cA, n, .inl (upd (fun j => if j < n then xg w v (o + j) else 0) c x)) := by
  unfold zArr
  have : (fun j => if j < n then xg (xs w v (o + c) x) v (o + j) else 0) = upd (fun j => if j < n then xg w v (o + j) else 0) c x := by
    funext j
    by_cases hj : j = c
    · subst hj
      simp [upd, hc, xg_xs]
    · simp [upd, hj, xg_xs]
  rw [this]
theorem zArc_set {cA : ClassId} {n v c : Nat} {w : xW} {x : Int32} (hc : c < n) : zArc cA n v (xs w v c x) = .inl (cA, n, .inl (upd (fun j => if j < n then zc (xg w v j) else 0) c (zc x))) := by
  unfold zArc
  have : (fun j => if j < n then zc (xg (xs w v c x) v j) else 0) = upd (fun j => if j < n then zc (xg w v j) else 0) c (zc x) := by
    funext j
    by_cases hj : j = c
    · subst hj
      simp [upd, hc, xg_xs]
    · simp [upd, hj, xg_xs]
  rw [this]
theorem zcl {c : Nat} (h : c < 2147483648) : (nI c).toNatClampNeg = c := nI_clamp h
theorem zin {c n : Nat} (h : c < n) (hn : n < 2147483648) : vp_in (nI c) n := vp_in_nI h hn
theorem zbz (x : Int32) : zb (zb x) = zb x := by unfold zb; by_cases h : x = 0 <;> simp [h]
theorem zb_nar (x : Int32) : narrow .boolean (.int (zb x)) = .int (zb x) := by unfold zb; by_cases h : x = 0 <;> simp [h] <;> rfl
theorem zb_fit (x : Int32) : fits .boolean (.int (zb x)) = true := by unfold zb; by_cases h : x = 0 <;> simp [h] <;> rfl
theorem zc_eq (x : Int32) : zc x = (x.toUInt32 % 65536).toInt32 := vp_nar_char x
theorem zc_nar (x : Int32) : narrow .char (.int (zc x)) = .int (zc x) := by rw [zc_eq]; exact pk_nc x
