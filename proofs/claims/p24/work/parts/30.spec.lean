/-! one row of numbers: what the model works out of it -/
def zU (S : Nat → Int32) (j : Nat) (x : Int32) : Nat → Int32 := fun b => if b = j then x else S b
theorem zU_at (S : Nat → Int32) (j : Nat) (x : Int32) (b : Nat) : zU S j x b = if b = j then x else S b := rfl
theorem xs_xv (w : xW) (v j : Nat) (x : Int32) : xs w v j x = xv w v (zU (w.1 v) j x) := by
  refine Prod.ext ?_ rfl
  funext a b
  show (if a = v ∧ b = j then x else w.1 a b) = if a = v then (if b = j then x else w.1 v b) else w.1 a b
  by_cases ha : a = v
  · subst ha
    by_cases hb : b = j
    · rw [if_pos ⟨rfl, hb⟩, if_pos rfl, if_pos hb]
    · rw [if_neg (fun q => hb q.2), if_pos rfl, if_neg hb]
  · rw [if_neg (fun q => ha q.1), if_neg ha]
theorem xv_row (w : xW) (v : Nat) (S : Nat → Int32) : (xv w v S).1 v = S := by
  funext b
  show (if v = v then S b else w.1 v b) = S b
  rw [if_pos rfl]
theorem xv_ne (w : xW) {v a : Nat} (S : Nat → Int32) (h : ¬ a = v) : (xv w v S).1 a = w.1 a := by
  funext b
  show (if a = v then S b else w.1 a b) = w.1 a b
  rw [if_neg h]
theorem xv_xv (w : xW) (v : Nat) (S T : Nat → Int32) : xv (xv w v S) v T = xv w v T := by
  refine Prod.ext ?_ rfl
  funext a b
  show (if a = v then T b else (if a = v then S b else w.1 a b)) = if a = v then T b else w.1 a b
  by_cases ha : a = v
  · rw [if_pos ha, if_pos ha]
  · rw [if_neg ha, if_neg ha, if_neg ha]
theorem xv_self (w : xW) (v : Nat) : xv w v (w.1 v) = w := by
  refine Prod.ext ?_ rfl
  funext a b
  show (if a = v then w.1 v b else w.1 a b) = w.1 a b
  by_cases ha : a = v
  · rw [if_pos ha, ha]
  · rw [if_neg ha]
theorem xv_2 (w : xW) (v : Nat) (S : Nat → Int32) : (xv w v S).2 = w.2 := rfl
theorem xg_row (w : xW) (v j : Nat) : xg w v j = w.1 v j := rfl
def s_in (v : Int32) (least : Int32) (most : Int32) : Int32 :=
  if v < least then (0)
  else (if most < v then (0)
  else (1))
def s_size (v : Int32) : Int32 :=
  if 0 ≤ v then (v)
  else ((-v))
def s_lesser (a : Int32) (b : Int32) : Int32 :=
  if b ≤ a then (b)
  else (a)
def s_isCell (c : Int32) : Int32 :=
  (s_in c 0 35)
def s_isSide (s : Int32) : Int32 :=
  (s_in s 0 1)
def s_canBe (what : Int32) (v : Int32) : Int32 :=
  if what = 0 then ((s_in v 1 12))
  else (if (s_in what 1 2) = 0 then (0)
  else (if (s_in v 0 5) = 0 then (0)
  else (1)))
def s_sign (v : Int32) : Int32 :=
  if v ≤ 0 then (if 0 ≤ v then (0)
  else ((-1)))
  else (1)
def s_springs_4k  (e1_2 : Int32) (e1_3 : Nat) : Int32 :=
  e1_2
def s_springs_4 (w : Nat → Int32) (side : Int32) (kt1 : Int32 → Nat → Int32) : Nat → Int32 → Nat → Int32
  | 0, _, _ => default
  | n1 + 1, v1_2, v1_3 => if 36 ≤ v1_3 then (kt1 v1_2 v1_3)
  else (zlet (if (w v1_3) = side then ((w (72 + v1_3)))
  else (0) : Int32) fun x3 =>
  zlet ((v1_2 + x3)) fun x4 =>
  s_springs_4 w side kt1 n1 x4 (v1_3 + 1))
def s_springs (w : Nat → Int32) (side : Int32) : Int32 :=
  s_springs_4 w side s_springs_4k 37 0 0
def s_allSprings (w : Nat → Int32)  : Int32 :=
  ((s_springs w 0) + (s_springs w 1))
def s_towers_4k  (e1_1 : Int32) (e1_2 : Nat) : Int32 :=
  e1_1
def s_towers_4 (w : Nat → Int32) (kt1 : Int32 → Nat → Int32) : Nat → Int32 → Nat → Int32
  | 0, _, _ => default
  | n1 + 1, v1_1, v1_2 => if 36 ≤ v1_2 then (kt1 v1_1 v1_2)
  else (zlet ((v1_1 + (w (108 + v1_2)))) fun x3 =>
  s_towers_4 w kt1 n1 x3 (v1_2 + 1))
def s_towers (w : Nat → Int32)  : Int32 :=
  s_towers_4 w s_towers_4k 37 0 0
def s_pieces_4k  (e1_1 : Int32) (e1_2 : Nat) : Int32 :=
  e1_1
def s_pieces_4 (w : Nat → Int32) (kt1 : Int32 → Nat → Int32) : Nat → Int32 → Nat → Int32
  | 0, _, _ => default
  | n1 + 1, v1_1, v1_2 => if 36 ≤ v1_2 then (kt1 v1_1 v1_2)
  else (zlet (if (w v1_2) = (-1) then (0)
  else (1) : Int32) fun x3 =>
  zlet ((v1_1 + x3)) fun x4 =>
  s_pieces_4 w kt1 n1 x4 (v1_2 + 1))
def s_pieces (w : Nat → Int32)  : Int32 :=
  s_pieces_4 w s_pieces_4k 37 0 0
def s_isFree_34k  (e3_4 : Nat) : Int32 :=
  1
def s_isFree_34 (w : Nat → Int32) (f : Nat) (t : Nat) (x1 : Int32) (kt3 : Nat → Int32) : Nat → Nat → Int32
  | 0, _ => default
  | n3 + 1, v3_4 => if (zl f t v3_4) = t then (kt3 v3_4)
  else (if (w (zl f t v3_4)) = (-1) then (zlet (((nI (zl f t v3_4)) + x1)) fun x6 =>
  s_isFree_34 w f t x1 kt3 n3 (v3_4 + 1))
  else (0))
def s_isFree (w : Nat → Int32) (f : Nat) (t : Nat) : Int32 :=
  zlet (((6 * (s_sign ((nI (t / 6)) - (nI (f / 6))))) + (s_sign ((nI (t % 6)) - (nI (f % 6)))))) fun x1 =>
  zlet (((nI f) + x1)) fun x2 =>
  s_isFree_34 w f t x1 s_isFree_34k 7 1
def s_costBy (w : Nat → Int32) (side : Int32) (kind : Int32) (f : Nat) (t : Nat) : Int32 :=
  zlet ((s_size ((nI (t % 6)) - (nI (f % 6))))) fun x1 =>
  zlet ((s_size ((nI (t / 6)) - (nI (f / 6))))) fun x2 =>
  if (x1 + x2) = 0 then ((-1))
  else (if (w t) = side then ((-1))
  else (if kind = 0 then (if 2 ≤ x1 then ((-1))
  else (if 2 ≤ x2 then ((-1))
  else (1)))
  else (if kind = 1 then (if x1 = 0 then (if (s_isFree w f t) = 0 then ((-1))
  else ((x1 + x2)))
  else (if x2 = 0 then (if (s_isFree w f t) = 0 then ((-1))
  else ((x1 + x2)))
  else ((-1))))
  else (if kind = 2 then (if x1 = x2 then (if (s_isFree w f t) = 0 then ((-1))
  else (x1))
  else ((-1)))
  else (if kind = 3 then (if (x1 * x2) = 2 then (2)
  else ((-1)))
  else (zlet (if ((nI (t / 6)) - (nI (f / 6))) = (1 - (2 * side)) then (1)
  else (0) : Int32) fun x18 =>
  zlet (if x1 = 0 then (if (w t) = (-1) then (1)
  else (0))
  else (if x1 = 1 then (if (w t) = (1 - side) then (1)
  else (0))
  else (0)) : Int32) fun x19 =>
  if x18 = 0 then ((-1))
  else (if x19 = 0 then ((-1))
  else (1))))))))
def s_costOf (w : Nat → Int32) (f : Nat) (t : Nat) : Int32 :=
  (s_costBy w (w f) (w (36 + f)) f t)
def s_canGo (w : Nat → Int32) (f : Nat) (t : Nat) : Int32 :=
  zlet ((s_costOf w f t)) fun x1 =>
  if x1 < 0 then (0)
  else (if (w (72 + f)) < x1 then (0)
  else (1))
def s_movesFrom_4k  (e1_2 : Int32) (e1_3 : Nat) : Int32 :=
  e1_2
def s_movesFrom_4 (w : Nat → Int32) (f : Nat) (kt1 : Int32 → Nat → Int32) : Nat → Int32 → Nat → Int32
  | 0, _, _ => default
  | n1 + 1, v1_2, v1_3 => if 36 ≤ v1_3 then (kt1 v1_2 v1_3)
  else (zlet (if (s_canGo w f v1_3) = 0 then (0)
  else (1) : Int32) fun x3 =>
  zlet ((v1_2 + x3)) fun x4 =>
  s_movesFrom_4 w f kt1 n1 x4 (v1_3 + 1))
def s_movesFrom (w : Nat → Int32) (f : Nat) : Int32 :=
  s_movesFrom_4 w f s_movesFrom_4k 37 0 0
def s_movesOf_4k  (e1_2 : Int32) (e1_3 : Nat) : Int32 :=
  e1_2
def s_movesOf_4 (w : Nat → Int32) (side : Int32) (kt1 : Int32 → Nat → Int32) : Nat → Int32 → Nat → Int32
  | 0, _, _ => default
  | n1 + 1, v1_2, v1_3 => if 36 ≤ v1_3 then (kt1 v1_2 v1_3)
  else (zlet (if (w v1_3) = side then ((s_movesFrom w v1_3))
  else (0) : Int32) fun x3 =>
  zlet ((v1_2 + x3)) fun x4 =>
  s_movesOf_4 w side kt1 n1 x4 (v1_3 + 1))
def s_movesOf (w : Nat → Int32) (side : Int32) : Int32 :=
  s_movesOf_4 w side s_movesOf_4k 37 0 0
def s_moveAt_5k  (e1_3 : Int32) (e1_4 : Nat) : Int32 :=
  (-1)
def s_moveAt_5 (w : Nat → Int32) (side : Int32) (kt1 : Int32 → Nat → Int32) : Nat → Int32 → Nat → Int32
  | 0, _, _ => default
  | n1 + 1, v1_3, v1_4 => if 1296 ≤ v1_4 then (kt1 v1_3 v1_4)
  else (if (w (v1_4 / 36)) = side then (if (s_canGo w (v1_4 / 36) (v1_4 % 36)) = 0 then (s_moveAt_5 w side kt1 n1 v1_3 (v1_4 + 1))
  else (if v1_3 = 0 then ((nI v1_4))
  else (s_moveAt_5 w side kt1 n1 (v1_3 + (-1)) (v1_4 + 1))))
  else (s_moveAt_5 w side kt1 n1 v1_3 (v1_4 + 1)))
def s_moveAt (w : Nat → Int32) (side : Int32) (index : Int32) : Int32 :=
  s_moveAt_5 w side s_moveAt_5k 1297 index 0
def s_refuses (w : Nat → Int32) (f : Nat) (t : Nat) : Int32 :=
  if (w 145) ≤ 0 then (if (w f) = (-1) then (3)
  else (if (w f) = (w 144) then (if (w t) = (w 144) then (5)
  else (if 0 ≤ (s_costOf w f t) then (if (s_canGo w f t) = 0 then (7)
  else (0))
  else (6)))
  else (4)))
  else (2)
def s_refusesPass (w : Nat → Int32)  : Int32 :=
  if (w 145) ≤ 0 then (if (s_movesOf w (w 144)) ≤ 0 then (0)
  else (8))
  else (2)
def s_goodFor (w : Nat → Int32) (side : Int32) : Int32 :=
  if (w 145) ≤ 0 then ((((s_springs w side) - (s_springs w (1 - side))) + 0))
  else ((((s_springs w side) - (s_springs w (1 - side))) + 10000))
def s_lays (w : Nat → Int32) (c : Nat) (side : Int32) (kind : Int32) (spring : Int32) : (Nat → Int32) :=
  zlet (zU w c side) fun w1 =>
  zlet (zU w1 (36 + c) kind) fun w2 =>
  zlet (zU w2 (72 + c) spring) fun w3 =>
  w3
def s_begins_215k  (e9_2 : Nat) (ew9 : Nat → Int32) : (Nat → Int32) :=
  zlet (zU ew9 152 (s_allSprings ew9)) fun w10 =>
  w10
def s_begins_215  (kt9 : Nat → (Nat → Int32) → (Nat → Int32)) : Nat → Nat → (Nat → Int32) → (Nat → Int32)
  | 0, _, _ => default
  | n9 + 1, v9_2, vw9 => if 7 ≤ v9_2 then (kt9 v9_2 vw9)
  else (zlet (zU vw9 (152 + v9_2) 0) fun w12 =>
  s_begins_215  kt9 n9 (v9_2 + 1) w12)
def s_begins_82k  (e3_2 : Nat) (ew3 : Nat → Int32) : (Nat → Int32) :=
  zlet (zU ew3 144 0) fun w4 =>
  zlet (zU w4 145 0) fun w5 =>
  zlet (zU w5 146 (-1)) fun w6 =>
  zlet (zU w6 147 0) fun w7 =>
  zlet (zU w7 148 0) fun w8 =>
  s_begins_215  s_begins_215k 8 0 w8
def s_begins_82 (x1 : Int32) (kt3 : Nat → (Nat → Int32) → (Nat → Int32)) : Nat → Nat → (Nat → Int32) → (Nat → Int32)
  | 0, _, _ => default
  | n3 + 1, v3_2, vw3 => if 6 ≤ v3_2 then (kt3 v3_2 vw3)
  else (zlet (if (nI v3_2) = 0 then (1)
  else (if v3_2 = 5 then (1)
  else (if v3_2 = 2 then (0)
  else (if v3_2 = 3 then (2)
  else (3)))) : Int32) fun x14 =>
  zlet (s_lays vw3 v3_2 0 x14 x1) fun w15 =>
  zlet (s_lays w15 (6 + v3_2) 0 4 x1) fun w16 =>
  zlet (s_lays w16 (30 + v3_2) 1 x14 x1) fun w17 =>
  zlet (s_lays w17 (24 + v3_2) 1 4 x1) fun w18 =>
  s_begins_82 x1 kt3 n3 (v3_2 + 1) w18)
def s_begins_13k (x1 : Int32) (e2_2 : Nat) (ew2 : Nat → Int32) : (Nat → Int32) :=
  s_begins_82 x1 s_begins_82k 7 0 ew2
def s_begins_13  (kt2 : Nat → (Nat → Int32) → (Nat → Int32)) : Nat → Nat → (Nat → Int32) → (Nat → Int32)
  | 0, _, _ => default
  | n2 + 1, v2_2, vw2 => if 36 ≤ v2_2 then (kt2 v2_2 vw2)
  else (zlet (s_lays vw2 v2_2 (-1) 0 0) fun w24 =>
  zlet (if (nI v2_2) = 0 then (1)
  else (if v2_2 = 5 then (1)
  else (if v2_2 = 14 then (1)
  else (if v2_2 = 21 then (1)
  else (if v2_2 = 30 then (1)
  else (if v2_2 = 35 then (1)
  else (0)))))) : Int32) fun x25 =>
  zlet (zU w24 (108 + v2_2) x25) fun w26 =>
  s_begins_13  kt2 n2 (v2_2 + 1) w26)
def s_begins (w : Nat → Int32)  : (Nat → Int32) :=
  zlet (((w 149) / 2)) fun x1 =>
  s_begins_13  (s_begins_13k x1) 37 0 w
def s_goes (w : Nat → Int32) (f : Nat) (t : Nat) : (Nat → Int32) :=
  zlet ((w f)) fun x1 =>
  zlet ((w (36 + f))) fun x2 =>
  zlet ((s_costOf w f t)) fun x3 =>
  zlet (((w (72 + f)) - x3)) fun x4 =>
  zlet (zU w 155 ((w 155) + x3)) fun w5 =>
  zlet (if (w5 t) = (-1) then ((x4, w5))
  else (zlet ((w5 (72 + t))) fun x15 =>
  zlet (((x15 / 2) + (w5 150))) fun x16 =>
  zlet ((s_lesser (w5 149) (x4 + x16))) fun x17 =>
  zlet (zU w5 154 ((w5 154) + (w5 150))) fun w18 =>
  zlet (zU w18 156 ((w18 156) + ((((x15 - (x15 / 2)) + x4) + x16) - x17))) fun w19 =>
  zlet (if (w19 (36 + t)) = 0 then (zlet (zU w19 145 1) fun w22 =>
  zlet (zU w22 146 x1) fun w23 =>
  w23)
  else (w19) : (Nat → Int32)) fun w20 =>
  (x17, w20)) : Int32 × (Nat → Int32)) fun p6 =>
  zlet (if (nI (t / 6)) = (5 - (5 * x1)) then (1)
  else (0) : Int32) fun x7 =>
  zlet (s_lays p6.2 f (-1) 0 0) fun w8 =>
  zlet (if x2 = 4 then (if x7 = 0 then (x2)
  else (1))
  else (x2) : Int32) fun x9 =>
  zlet (s_lays w8 t x1 x9 p6.1) fun w10 =>
  w10
def s_turns_20k  (e2_1 : Nat) (ew2 : Nat → Int32) : (Nat → Int32) :=
  ew2
def s_turns_20  (kt2 : Nat → (Nat → Int32) → (Nat → Int32)) : Nat → Nat → (Nat → Int32) → (Nat → Int32)
  | 0, _, _ => default
  | n2 + 1, v2_1, vw2 => if 36 ≤ v2_1 then (kt2 v2_1 vw2)
  else (if (vw2 (108 + v2_1)) = 1 then (if (vw2 v2_1) = (vw2 144) then (zlet ((s_lesser (vw2 151) ((vw2 149) - (vw2 (72 + v2_1))))) fun x6 =>
  zlet (zU vw2 (72 + v2_1) ((vw2 (72 + v2_1)) + x6)) fun w7 =>
  zlet (zU w7 153 ((w7 153) + x6)) fun w8 =>
  s_turns_20  kt2 n2 (v2_1 + 1) w8)
  else (s_turns_20  kt2 n2 (v2_1 + 1) vw2))
  else (s_turns_20  kt2 n2 (v2_1 + 1) vw2))
def s_turns (w : Nat → Int32)  : (Nat → Int32) :=
  zlet (zU w 144 (1 - (w 144))) fun w1 =>
  s_turns_20  s_turns_20k 37 0 w1
def s_makes (w : Nat → Int32) (f : Nat) (t : Nat) : (Nat → Int32) :=
  zlet (s_goes w f t) fun w1 =>
  zlet (zU w1 147 ((w1 147) + 1)) fun w2 =>
  zlet (zU w2 148 0) fun w3 =>
  if (w3 145) = 0 then (zlet (s_turns w3) fun w5 =>
  w5)
  else (w3)
def s_passes (w : Nat → Int32)  : (Nat → Int32) :=
  zlet (zU w 147 ((w 147) + 1)) fun w1 =>
  if (w1 148) = 1 then (zlet (zU w1 145 2) fun w5 =>
  zlet (((s_springs w5 0) - (s_springs w5 1))) fun x6 =>
  zlet (if x6 ≤ 0 then (if 0 ≤ x6 then ((-1))
  else (1))
  else (0) : Int32) fun x7 =>
  zlet (zU w5 146 x7) fun w8 =>
  w8)
  else (zlet (zU w1 148 1) fun w3 =>
  zlet (s_turns w3) fun w4 =>
  w4)
