/-! the world as the makers leave it -/
def w00 : xW := (fun v j => if v < 7 then (if j = 149 then 9 else if j = 150 then 1 else if j = 151 then 2 else if j = 146 then -1 else 0) else 0, fun j => if j < 5 then 2 + j else if j < 7 then j - 5 else 0)
theorem w00_z {v j : Nat} (h : 7 ≤ v) : xg w00 v j = 0 := if_neg (Nat.not_lt.mpr h)
theorem w00_c {v j : Nat} (h : v < 7) (hj : j < 144) : xg w00 v j = 0 := by
  show (if v < 7 then (if j = 149 then (9 : Int32) else if j = 150 then 1 else if j = 151 then 2 else if j = 146 then -1 else 0) else 0) = 0
  rw [if_pos h, if_neg (by omega), if_neg (by omega), if_neg (by omega), if_neg (by omega)]
theorem zArr_zero {cA : ClassId} {n v o : Nat} {w : xW} (h : ∀ j, j < n → xg w v (o + j) = 0) : zArr cA n v o w = .inl (cA, n, .inl (fun _ => 0)) := by
  unfold zArr
  have : (fun j => if j < n then xg w v (o + j) else 0) = (fun _ => (0 : Int32)) := by
    funext j
    by_cases hj : j < n
    · rw [if_pos hj]; exact h j hj
    · rw [if_neg hj]
  rw [this]
theorem zArc_zero {cA : ClassId} {n v : Nat} {w : xW} (h : ∀ j, j < n → xg w v j = 0) : zArc cA n v w = .inl (cA, n, .inl (fun _ => 0)) := by
  unfold zArc
  have : (fun j => if j < n then zc (xg w v j) else 0) = (fun _ => (0 : Int32)) := by
    funext j
    by_cases hj : j < n
    · rw [if_pos hj, h j hj]; exact zc_small (j := 0) (by omega)
    · rw [if_neg hj]
  rw [this]
theorem w00_arr (G : zG) {g r : Nat} (hg : g < 7) (hr : r < 4) : zE G w00 (7 + r + 6 * g) = .inl (G.2.1, 36, .inl (fun _ => 0)) :=
  (zE_arr G w00 hg hr).trans (zArr_zero fun j hj => w00_c hg (by omega))
theorem w00_game (G : zG) {g : Nat} (hg : g < 7) : zE G w00 (5 + 6 * g) = .inr (1, [.ref (zad G (6 + 6 * g)), .int 9, .int 1, .int 2, .int 0, .int 0, .int (-1), .int 0, .int 0, .int 0, .int 0, .int 0, .int 0, .int 0, .int 0]) := by
  have e : ∀ j, xg w00 g j = if j = 149 then 9 else if j = 150 then 1 else if j = 151 then 2 else if j = 146 then -1 else 0 := fun j => if_pos hg
  have z0 : zb 0 = 0 := zb_01 (Or.inl rfl)
  rw [zE_game G w00 hg, zGame, e, e, e, e, e, e, e, e, e, e, e, e, e, e]
  simp only [show (149 : Nat) = 149 from rfl, if_true, if_false, Nat.reduceEqDiff, z0]
theorem w00_refs (G : zG) (q : Nat → Nat) (h : ∀ j, j < 5 → zad G (5 + 6 * (2 + j)) = q j) : zE G w00 1 = .inl (G.2.2.2.1, 5, .inr (.inr (.inr (.inr (va_up (va_up (va_up (va_up (va_up (fun _ => none) 0 (some (q 0))) 1 (some (q 1))) 2 (some (q 2))) 3 (some (q 3))) 4 (some (q 4))))))) := by
  rw [zE_1, zRefs]
  have : (fun j => if j < 5 then some (zad G (5 + 6 * zpg w00 j)) else none) = va_up (va_up (va_up (va_up (va_up (fun _ => none) 0 (some (q 0))) 1 (some (q 1))) 2 (some (q 2))) 3 (some (q 3))) 4 (some (q 4)) := by
    funext j
    have hz : ∀ i, i < 5 → zpg w00 i = 2 + i := fun i hi => by
      show (if i < 5 then 2 + i else if i < 7 then i - 5 else 0) % 7 = 2 + i
      rw [if_pos hi]; omega
    by_cases hj : j < 5
    · rw [if_pos hj, hz j hj, h j hj]
      rcases (by omega : j = 0 ∨ j = 1 ∨ j = 2 ∨ j = 3 ∨ j = 4) with e | e | e | e | e <;> subst e <;> rfl
    · rw [if_neg hj]
      simp only [va_up]
      rw [if_neg (by omega), if_neg (by omega), if_neg (by omega), if_neg (by omega), if_neg (by omega)]
  rw [this]
/-- from the cells in their order to a world -/
theorem y_z {k : zC} {E : yD} {cc : ByteArray} {own : String} {fr lo mc ms : Nat} {ws : va_W} {cells slots pc : Nat} {lv : List (Nat × Value)} {st : List Value} (ok : yOk k E cc own fr lo mc ms) (hc : cells ≤ mc ∧ slots ≤ ms) (ad : Nat → Nat) (N : Nat) (hN : N ≤ 48) (w : xW) (hnl : k.2.2.2.2.2.2.2.2.2.2.2.2.1 < 1000) (hold : zOld k (E.1, E.2.1, E.2.2.1, E.2.2.2.1, E.2.2.2.2, ad) N) (hws : ws = zws (E.1, E.2.1, E.2.2.1, E.2.2.2.1, E.2.2.2.2, ad) N w)
    (kk : zGeo (E.1, E.2.1, E.2.2.1, E.2.2.2.1, E.2.2.2.2, ad) N → ∀ k' : zC, k' = (k.1, k.2.1, k.2.2.1, k.2.2.2.1, k.2.2.2.2.1, k.2.2.2.2.2.1, k.2.2.2.2.2.2.1, k.2.2.2.2.2.2.2.1, k.2.2.2.2.2.2.2.2.1, k.2.2.2.2.2.2.2.2.2.1, k.2.2.2.2.2.2.2.2.2.2.1, k.2.2.2.2.2.2.2.2.2.2.2.1, k.2.2.2.2.2.2.2.2.2.2.2.2.1, cells, slots) → zOk k' (E.1, E.2.1, E.2.2.1, E.2.2.2.1, E.2.2.2.2, ad) N cc own fr lo → zOld k' (E.1, E.2.1, E.2.2.1, E.2.2.2.1, E.2.2.2.2, ad) N → zZ k' (E.1, E.2.1, E.2.2.1, E.2.2.2.1, E.2.2.2.2, ad) N w pc lv st) : yY k E ws cells slots pc lv st := by
  subst hws
  obtain ⟨p, l, e, R, s, m, args, below, meth, c0, Q, A, nL, c1, s1⟩ := k
  obtain ⟨hx, hb, hown, hml, hK, hlk, hfr, hlo, rfl, rfl, hA⟩ := id ok
  intro H locs ls hP hD hS hl
  have hg : zGeo (E.1, E.2.1, E.2.2.1, E.2.2.2.1, E.2.2.2.2, ad) N := ⟨hN, fun i j hi hj e => hD.1 i j _ _ (zws_get w hi) (zws_get w hj) e⟩
  have hAd : ∀ i, i < N → A (zad (E.1, E.2.1, E.2.2.1, E.2.2.2.1, E.2.2.2.2, ad) i) := fun i hi => hD.2 i _ (zws_get w hi)
  have hst : zStat (zA (E.1, E.2.1, E.2.2.1, E.2.2.2.1, E.2.2.2.2, ad) N) s s.heap := hK.2.2.2.narrow (fun q ⟨i, hi, e⟩ => by rw [e]; exact hAd i hi)
  exact kk hg _ rfl ⟨hx, hb, hown, hml, ⟨hK.1, hK.2.1, hst⟩, hg, hlk, hfr, hlo, hc.1, hc.2, hAd, hnl⟩ hold H locs ls hP hS hl
theorem y_old {k : zC} {pre : va_W} {G : zG} {N : Nat} (h : yAo k pre) (hp : ∀ (j : Nat) (q : Nat × va_E), pre[j]? = some q → ∃ i, i < N ∧ q.1 = zad G i) : zOld k G N := by
  obtain ⟨p, l, e, R, s, m, args, below, meth, c0, Q, A, nL, c1, s1⟩ := k
  intro q h1 h2
  obtain ⟨j, e, hj⟩ := h.1 q h1 h2
  exact hp j (q, e) hj
theorem y_nl {k : zC} {pre : va_W} (h : yAo k pre) : k.2.2.2.2.2.2.2.2.2.2.2.2.1 < 1000 := by
  obtain ⟨p, l, e, R, s, m, args, below, meth, c0, Q, A, nL, c1, s1⟩ := k
  exact h.2
theorem z_vretI {k k' : zC} {G : zG} {N : Nat} {E : yD} {S : Type} {X : S → Prop} {post : S → va_W} {cc : ByteArray} {own : String} {fr lo mc ms : Nat} {w : xW} {pc : Nat} {lv : List (Nat × Value)} (hE : yEnd k E X post mc ms) (hk : k' = (k.1, k.2.1, k.2.2.1, k.2.2.2.1, k.2.2.2.2.1, k.2.2.2.2.2.1, k.2.2.2.2.2.2.1, k.2.2.2.2.2.2.2.1, k.2.2.2.2.2.2.2.2.1, k.2.2.2.2.2.2.2.2.2.1, k.2.2.2.2.2.2.2.2.2.2.1, k.2.2.2.2.2.2.2.2.2.2.2.1, k.2.2.2.2.2.2.2.2.2.2.2.2.1, mc, ms)) (ok : zOk k' G N cc own fr lo) (hG : G.1 = E.1) (d : decode cc pc = .ok (.return_, 1)) (u : S) (hX : X u) (hp : post u = zws G N w) : zZ k' G N w pc lv [] := by
  subst hk
  obtain ⟨p, l, e, R, s, m, args, below, meth, c0, Q, A, nL, c1, s1⟩ := k
  obtain ⟨h1, rfl⟩ := hE
  obtain ⟨hx, hb, hown, hml, hK, hg, hlk, hfr, hlo, hcc, hss, hA, hnl⟩ := id ok
  exact fun H locs ls hP hS hl => W.vret hx hb h1 (fun t ht _ => ⟨⟨u, rfl, hX, by rw [ht, hp, ← hG]; exact hP, by rw [hp]; exact hg.D hA w⟩, hS.F ht⟩) hS.2.2 d hlk

/-- where the class's cells lie -/
def adc (h sq tq r1 r2 g0 g1 g2 g3 g4 g5 g6 : Nat) (u0 u1 u2 u3 u4 u5 u6 : Nat × Nat × Nat × Nat × Nat) : Nat → Nat := fun i => [h, sq, tq, r1, r2, g0, u0.1, u0.2.1, u0.2.2.1, u0.2.2.2.1, u0.2.2.2.2, g1, u1.1, u1.2.1, u1.2.2.1, u1.2.2.2.1, u1.2.2.2.2, g2, u2.1, u2.2.1, u2.2.2.1, u2.2.2.2.1, u2.2.2.2.2, g3, u3.1, u3.2.1, u3.2.2.1, u3.2.2.2.1, u3.2.2.2.2, g4, u4.1, u4.2.1, u4.2.2.1, u4.2.2.2.1, u4.2.2.2.2, g5, u5.1, u5.2.1, u5.2.2.1, u5.2.2.2.1, u5.2.2.2.2, g6, u6.1, u6.2.1, u6.2.2.1, u6.2.2.2.1, u6.2.2.2.2].getD i 0
def Gc (E : yD) (ad : Nat → Nat) : zG := (E.1, E.2.1, E.2.2.1, E.2.2.2.1, E.2.2.2.2, ad)
set_option maxRecDepth 100000 in
set_option maxHeartbeats 4000000 in
theorem zws_class (E : yD) (h sq tq r1 r2 g0 g1 g2 g3 g4 g5 g6 : Nat) (u0 u1 u2 u3 u4 u5 u6 : Nat × Nat × Nat × Nat × Nat) : (h, .inr (2, [.ref g0, .ref g1, .ref sq, .int 0, .ref tq, .int 0, .ref r1, .ref r2])) :: (sq, .inl (E.2.2.2.1, 5, .inr (.inr (.inr (.inr (va_up (va_up (va_up (va_up (va_up (fun _ => none) 0 (some g2)) 1 (some g3)) 2 (some g4)) 3 (some g5)) 4 (some g6))))))) :: (tq, .inl (E.2.2.1, 80, .inl (fun _ => 0))) :: (r1, bArr E 36) :: (r2, bArr E 36) :: (bGame E g0 u0 ++ bGame E g1 u1 ++ bGame E g2 u2 ++ bGame E g3 u3 ++ bGame E g4 u4 ++ bGame E g5 u5 ++ bGame E g6 u6) = zws (Gc E (adc h sq tq r1 r2 g0 g1 g2 g3 g4 g5 g6 u0 u1 u2 u3 u4 u5 u6)) 47 w00 := by
  obtain ⟨G, hG⟩ : ∃ G, G = Gc E (adc h sq tq r1 r2 g0 g1 g2 g3 g4 g5 g6 u0 u1 u2 u3 u4 u5 u6) := ⟨_, rfl⟩
  rw [← hG]
  have e0 : zE G w00 0 = .inr (2, [.ref (zad G 5), .ref (zad G 11), .ref (zad G 1), .int 0, .ref (zad G 2), .int 0, .ref (zad G 3), .ref (zad G 4)]) := by
    rw [zE_0, zOuter, w00_z (by decide), w00_z (by decide)]; rfl
  have e1 := w00_refs G (fun j => zad G (5 + 6 * (2 + j))) (fun _ _ => rfl)
  have e2 : zE G w00 2 = .inl (G.2.2.1, 80, .inl (fun _ => 0)) := (zE_2 G w00).trans (zArc_zero fun j _ => w00_z (by decide))
  have e3 : zE G w00 3 = .inl (G.2.1, 36, .inl (fun _ => 0)) := (zE_3 G w00).trans (zArr_zero fun j _ => w00_z (by decide))
  have e4 : zE G w00 4 = .inl (G.2.1, 36, .inl (fun _ => 0)) := (zE_4 G w00).trans (zArr_zero fun j _ => w00_z (by decide))
  have e5 : zE G w00 5 = _ := w00_game G (g := 0) (by decide)
  have e6 : zE G w00 6 = zBoard G 0 := zE_board G w00 (g := 0) (by decide)
  have e7 : zE G w00 7 = .inl (G.2.1, 36, .inl (fun _ => 0)) := w00_arr G (g := 0) (r := 0) (by decide) (by decide)
  have e8 : zE G w00 8 = .inl (G.2.1, 36, .inl (fun _ => 0)) := w00_arr G (g := 0) (r := 1) (by decide) (by decide)
  have e9 : zE G w00 9 = .inl (G.2.1, 36, .inl (fun _ => 0)) := w00_arr G (g := 0) (r := 2) (by decide) (by decide)
  have e10 : zE G w00 10 = .inl (G.2.1, 36, .inl (fun _ => 0)) := w00_arr G (g := 0) (r := 3) (by decide) (by decide)
  have e11 : zE G w00 11 = _ := w00_game G (g := 1) (by decide)
  have e12 : zE G w00 12 = zBoard G 1 := zE_board G w00 (g := 1) (by decide)
  have e13 : zE G w00 13 = .inl (G.2.1, 36, .inl (fun _ => 0)) := w00_arr G (g := 1) (r := 0) (by decide) (by decide)
  have e14 : zE G w00 14 = .inl (G.2.1, 36, .inl (fun _ => 0)) := w00_arr G (g := 1) (r := 1) (by decide) (by decide)
  have e15 : zE G w00 15 = .inl (G.2.1, 36, .inl (fun _ => 0)) := w00_arr G (g := 1) (r := 2) (by decide) (by decide)
  have e16 : zE G w00 16 = .inl (G.2.1, 36, .inl (fun _ => 0)) := w00_arr G (g := 1) (r := 3) (by decide) (by decide)
  have e17 : zE G w00 17 = _ := w00_game G (g := 2) (by decide)
  have e18 : zE G w00 18 = zBoard G 2 := zE_board G w00 (g := 2) (by decide)
  have e19 : zE G w00 19 = .inl (G.2.1, 36, .inl (fun _ => 0)) := w00_arr G (g := 2) (r := 0) (by decide) (by decide)
  have e20 : zE G w00 20 = .inl (G.2.1, 36, .inl (fun _ => 0)) := w00_arr G (g := 2) (r := 1) (by decide) (by decide)
  have e21 : zE G w00 21 = .inl (G.2.1, 36, .inl (fun _ => 0)) := w00_arr G (g := 2) (r := 2) (by decide) (by decide)
  have e22 : zE G w00 22 = .inl (G.2.1, 36, .inl (fun _ => 0)) := w00_arr G (g := 2) (r := 3) (by decide) (by decide)
  have e23 : zE G w00 23 = _ := w00_game G (g := 3) (by decide)
  have e24 : zE G w00 24 = zBoard G 3 := zE_board G w00 (g := 3) (by decide)
  have e25 : zE G w00 25 = .inl (G.2.1, 36, .inl (fun _ => 0)) := w00_arr G (g := 3) (r := 0) (by decide) (by decide)
  have e26 : zE G w00 26 = .inl (G.2.1, 36, .inl (fun _ => 0)) := w00_arr G (g := 3) (r := 1) (by decide) (by decide)
  have e27 : zE G w00 27 = .inl (G.2.1, 36, .inl (fun _ => 0)) := w00_arr G (g := 3) (r := 2) (by decide) (by decide)
  have e28 : zE G w00 28 = .inl (G.2.1, 36, .inl (fun _ => 0)) := w00_arr G (g := 3) (r := 3) (by decide) (by decide)
  have e29 : zE G w00 29 = _ := w00_game G (g := 4) (by decide)
  have e30 : zE G w00 30 = zBoard G 4 := zE_board G w00 (g := 4) (by decide)
  have e31 : zE G w00 31 = .inl (G.2.1, 36, .inl (fun _ => 0)) := w00_arr G (g := 4) (r := 0) (by decide) (by decide)
  have e32 : zE G w00 32 = .inl (G.2.1, 36, .inl (fun _ => 0)) := w00_arr G (g := 4) (r := 1) (by decide) (by decide)
  have e33 : zE G w00 33 = .inl (G.2.1, 36, .inl (fun _ => 0)) := w00_arr G (g := 4) (r := 2) (by decide) (by decide)
  have e34 : zE G w00 34 = .inl (G.2.1, 36, .inl (fun _ => 0)) := w00_arr G (g := 4) (r := 3) (by decide) (by decide)
  have e35 : zE G w00 35 = _ := w00_game G (g := 5) (by decide)
  have e36 : zE G w00 36 = zBoard G 5 := zE_board G w00 (g := 5) (by decide)
  have e37 : zE G w00 37 = .inl (G.2.1, 36, .inl (fun _ => 0)) := w00_arr G (g := 5) (r := 0) (by decide) (by decide)
  have e38 : zE G w00 38 = .inl (G.2.1, 36, .inl (fun _ => 0)) := w00_arr G (g := 5) (r := 1) (by decide) (by decide)
  have e39 : zE G w00 39 = .inl (G.2.1, 36, .inl (fun _ => 0)) := w00_arr G (g := 5) (r := 2) (by decide) (by decide)
  have e40 : zE G w00 40 = .inl (G.2.1, 36, .inl (fun _ => 0)) := w00_arr G (g := 5) (r := 3) (by decide) (by decide)
  have e41 : zE G w00 41 = _ := w00_game G (g := 6) (by decide)
  have e42 : zE G w00 42 = zBoard G 6 := zE_board G w00 (g := 6) (by decide)
  have e43 : zE G w00 43 = .inl (G.2.1, 36, .inl (fun _ => 0)) := w00_arr G (g := 6) (r := 0) (by decide) (by decide)
  have e44 : zE G w00 44 = .inl (G.2.1, 36, .inl (fun _ => 0)) := w00_arr G (g := 6) (r := 1) (by decide) (by decide)
  have e45 : zE G w00 45 = .inl (G.2.1, 36, .inl (fun _ => 0)) := w00_arr G (g := 6) (r := 2) (by decide) (by decide)
  have e46 : zE G w00 46 = .inl (G.2.1, 36, .inl (fun _ => 0)) := w00_arr G (g := 6) (r := 3) (by decide) (by decide)
  rw [show zws G 47 w00 = [(zad G 0, zE G w00 0), (zad G 1, zE G w00 1), (zad G 2, zE G w00 2), (zad G 3, zE G w00 3), (zad G 4, zE G w00 4), (zad G 5, zE G w00 5), (zad G 6, zE G w00 6), (zad G 7, zE G w00 7), (zad G 8, zE G w00 8), (zad G 9, zE G w00 9), (zad G 10, zE G w00 10), (zad G 11, zE G w00 11), (zad G 12, zE G w00 12), (zad G 13, zE G w00 13), (zad G 14, zE G w00 14), (zad G 15, zE G w00 15), (zad G 16, zE G w00 16), (zad G 17, zE G w00 17), (zad G 18, zE G w00 18), (zad G 19, zE G w00 19), (zad G 20, zE G w00 20), (zad G 21, zE G w00 21), (zad G 22, zE G w00 22), (zad G 23, zE G w00 23), (zad G 24, zE G w00 24), (zad G 25, zE G w00 25), (zad G 26, zE G w00 26), (zad G 27, zE G w00 27), (zad G 28, zE G w00 28), (zad G 29, zE G w00 29), (zad G 30, zE G w00 30), (zad G 31, zE G w00 31), (zad G 32, zE G w00 32), (zad G 33, zE G w00 33), (zad G 34, zE G w00 34), (zad G 35, zE G w00 35), (zad G 36, zE G w00 36), (zad G 37, zE G w00 37), (zad G 38, zE G w00 38), (zad G 39, zE G w00 39), (zad G 40, zE G w00 40), (zad G 41, zE G w00 41), (zad G 42, zE G w00 42), (zad G 43, zE G w00 43), (zad G 44, zE G w00 44), (zad G 45, zE G w00 45), (zad G 46, zE G w00 46)] from rfl, e0, e1, e2, e3, e4, e5, e6, e7, e8, e9, e10, e11, e12, e13, e14, e15, e16, e17, e18, e19, e20, e21, e22, e23, e24, e25, e26, e27, e28, e29, e30, e31, e32, e33, e34, e35, e36, e37, e38, e39, e40, e41, e42, e43, e44, e45, e46]
  subst hG
  rfl
/-- the class's world as its maker leaves it -/
def w01 : xW := d_X1_begin w00 0
set_option maxRecDepth 100000 in
set_option maxHeartbeats 4000000 in
theorem i_Class (E : yD) (h : Nat) : zI yX2_init cX2_init 2 5 107 46 1298 E h [(h, .inr (2, [.null, .null, .null, .int 0, .null, .int 0, .null, .null]))] (fun ad : Nat → Nat => ad 0 = h) (fun ad => zws (Gc E ad) 47 w01) := by
  refine zI_of (by decide +kernel) rfl (by decide) (fun k ok hin hE hO hI => ?_)
  refine y_aload_n ok dX2_init_0 0 rfl ?_
  refine y_objinit ok zw_59 dX2_init_1 (by decide) ?_
  refine y_aload_n ok dX2_init_4 0 rfl ?_
  refine y_new ok dX2_init_5 (ci := 1) (fs := [.null, .int 0, .int 0, .int 0, .int 0, .int 0, .int 0, .int 0, .int 0, .int 0, .int 0, .int 0, .int 0, .int 0, .int 0]) (C := RX1) (T := TX1) (n := 15) zu_X1 tyX1 tyX1_ok zw_62 zw_63 zw_49 rfl (fun j hj => by rcases (show j = 0 ∨ j = 1 ∨ j = 2 ∨ j = 3 ∨ j = 4 ∨ j = 5 ∨ j = 6 ∨ j = 7 ∨ j = 8 ∨ j = 9 ∨ j = 10 ∨ j = 11 ∨ j = 12 ∨ j = 13 ∨ j = 14 by omega) with rfl | rfl | rfl | rfl | rfl | rfl | rfl | rfl | rfl | rfl | rfl | rfl | rfl | rfl | rfl <;> rfl) ⟨Nat.le_of_ble_eq_true rfl, Nat.le_of_ble_eq_true rfl⟩ (fun g0 => ?_)
  refine y_dup ok dX2_init_8 rfl ?_
  refine y_ctorN ok dX2_init_9 (i_Game E g0) yi_X1 zw_64 (by decide) (Nat.le_of_ble_eq_true rfl) ⟨Nat.le_of_ble_eq_true rfl, Nat.le_of_ble_eq_true rfl⟩ (fun u0 _ => ?_)
  refine y_ws (ws' := (h, .inr (2, [.null, .null, .null, .int 0, .null, .int 0, .null, .null])) :: (bGame E g0 u0)) rfl ?_
  refine y_putF ok hin dX2_init_12 (ci := 2) (C := RX2) (T := TX2) (n := 8) rfl zu_X2 tyX2 tyX2_ok nmX2 0 (by decide) zw_176 ⟨rfl, rfl, rfl⟩ (tyX2_ok 0 (by decide)) rfl rfl (Nat.le_of_ble_eq_true rfl) ?_
  refine y_ws (ws' := (h, .inr (2, [.ref g0, .null, .null, .int 0, .null, .int 0, .null, .null])) :: (bGame E g0 u0)) rfl ?_
  refine y_aload_n ok dX2_init_15 0 rfl ?_
  refine y_new ok dX2_init_16 (ci := 1) (fs := [.null, .int 0, .int 0, .int 0, .int 0, .int 0, .int 0, .int 0, .int 0, .int 0, .int 0, .int 0, .int 0, .int 0, .int 0]) (C := RX1) (T := TX1) (n := 15) zu_X1 tyX1 tyX1_ok zw_62 zw_63 zw_49 rfl (fun j hj => by rcases (show j = 0 ∨ j = 1 ∨ j = 2 ∨ j = 3 ∨ j = 4 ∨ j = 5 ∨ j = 6 ∨ j = 7 ∨ j = 8 ∨ j = 9 ∨ j = 10 ∨ j = 11 ∨ j = 12 ∨ j = 13 ∨ j = 14 by omega) with rfl | rfl | rfl | rfl | rfl | rfl | rfl | rfl | rfl | rfl | rfl | rfl | rfl | rfl | rfl <;> rfl) ⟨Nat.le_of_ble_eq_true rfl, Nat.le_of_ble_eq_true rfl⟩ (fun g1 => ?_)
  refine y_dup ok dX2_init_19 rfl ?_
  refine y_ctorN ok dX2_init_20 (i_Game E g1) yi_X1 zw_64 (by decide) (Nat.le_of_ble_eq_true rfl) ⟨Nat.le_of_ble_eq_true rfl, Nat.le_of_ble_eq_true rfl⟩ (fun u1 _ => ?_)
  refine y_ws (ws' := (h, .inr (2, [.ref g0, .null, .null, .int 0, .null, .int 0, .null, .null])) :: (bGame E g0 u0 ++ bGame E g1 u1)) rfl ?_
  refine y_putF ok hin dX2_init_23 (ci := 2) (C := RX2) (T := TX2) (n := 8) rfl zu_X2 tyX2 tyX2_ok nmX2 1 (by decide) zw_177 ⟨rfl, rfl, rfl⟩ (tyX2_ok 1 (by decide)) rfl rfl (Nat.le_of_ble_eq_true rfl) ?_
  refine y_ws (ws' := (h, .inr (2, [.ref g0, .ref g1, .null, .int 0, .null, .int 0, .null, .null])) :: (bGame E g0 u0 ++ bGame E g1 u1)) rfl ?_
  refine y_aload_n ok dX2_init_26 0 rfl ?_
  refine y_iconst ok dX2_init_27 (x := 5) (by decide) ?_
  refine y_newq ok dX2_init_28 zw_62 5 rfl (by decide) ⟨Nat.le_of_ble_eq_true rfl, Nat.le_of_ble_eq_true rfl⟩ (fun sq => ?_)
  refine y_ws (ws' := (h, .inr (2, [.ref g0, .ref g1, .null, .int 0, .null, .int 0, .null, .null])) :: (bGame E g0 u0 ++ bGame E g1 u1 ++ [(sq, .inl (E.2.2.2.1, 5, .inr (.inr (.inr (.inr (fun _ => none))))))])) rfl ?_
  refine y_putF ok hin dX2_init_31 (ci := 2) (C := RX2) (T := TX2) (n := 8) rfl zu_X2 tyX2 tyX2_ok nmX2 2 (by decide) zw_178 ⟨rfl, rfl, rfl⟩ (tyX2_ok 2 (by decide)) rfl rfl (Nat.le_of_ble_eq_true rfl) ?_
  refine y_ws (ws' := (h, .inr (2, [.ref g0, .ref g1, .ref sq, .int 0, .null, .int 0, .null, .null])) :: (bGame E g0 u0 ++ bGame E g1 u1 ++ [(sq, .inl (E.2.2.2.1, 5, .inr (.inr (.inr (.inr (fun _ => none))))))])) rfl ?_
  refine y_aload_n ok dX2_init_34 0 rfl ?_
  refine y_bipush ok dX2_init_35 (x := 80) (by decide) ?_
  refine y_newc ok dX2_init_37 80 rfl (by decide) ⟨Nat.le_of_ble_eq_true rfl, Nat.le_of_ble_eq_true rfl⟩ (fun tq => ?_)
  refine y_ws (ws' := (h, .inr (2, [.ref g0, .ref g1, .ref sq, .int 0, .null, .int 0, .null, .null])) :: (bGame E g0 u0 ++ bGame E g1 u1 ++ [(sq, .inl (E.2.2.2.1, 5, .inr (.inr (.inr (.inr (fun _ => none))))))] ++ [(tq, .inl (E.2.2.1, 80, .inl (fun _ => 0)))])) rfl ?_
  refine y_putF ok hin dX2_init_39 (ci := 2) (C := RX2) (T := TX2) (n := 8) rfl zu_X2 tyX2 tyX2_ok nmX2 4 (by decide) zw_180 ⟨rfl, rfl, rfl⟩ (tyX2_ok 4 (by decide)) rfl rfl (Nat.le_of_ble_eq_true rfl) ?_
  refine y_ws (ws' := (h, .inr (2, [.ref g0, .ref g1, .ref sq, .int 0, .ref tq, .int 0, .null, .null])) :: (bGame E g0 u0 ++ bGame E g1 u1 ++ [(sq, .inl (E.2.2.2.1, 5, .inr (.inr (.inr (.inr (fun _ => none))))))] ++ [(tq, .inl (E.2.2.1, 80, .inl (fun _ => 0)))])) rfl ?_
  refine y_aload_n ok dX2_init_42 0 rfl ?_
  refine y_bipush ok dX2_init_43 (x := 36) (by decide) ?_
  refine y_newi ok dX2_init_45 36 rfl (by decide) ⟨Nat.le_of_ble_eq_true rfl, Nat.le_of_ble_eq_true rfl⟩ (fun r1 => ?_)
  refine y_ws (ws' := (h, .inr (2, [.ref g0, .ref g1, .ref sq, .int 0, .ref tq, .int 0, .null, .null])) :: (bGame E g0 u0 ++ bGame E g1 u1 ++ [(sq, .inl (E.2.2.2.1, 5, .inr (.inr (.inr (.inr (fun _ => none))))))] ++ [(tq, .inl (E.2.2.1, 80, .inl (fun _ => 0)))] ++ [(r1, bArr E 36)])) rfl ?_
  refine y_put ok dX2_init_47 (ci := 2) (C := RX2) (T := TX2) (n := 8) rfl zu_X2 tyX2 tyX2_ok nmX2 6 (by decide) zw_182 ⟨rfl, rfl⟩ (tyX2_ok 6 (by decide)) rfl rfl (Nat.le_of_ble_eq_true rfl) ?_
  refine y_ws (ws' := (h, .inr (2, [.ref g0, .ref g1, .ref sq, .int 0, .ref tq, .int 0, .ref r1, .null])) :: (bGame E g0 u0 ++ bGame E g1 u1 ++ [(sq, .inl (E.2.2.2.1, 5, .inr (.inr (.inr (.inr (fun _ => none))))))] ++ [(tq, .inl (E.2.2.1, 80, .inl (fun _ => 0)))] ++ [(r1, bArr E 36)])) rfl ?_
  refine y_aload_n ok dX2_init_50 0 rfl ?_
  refine y_bipush ok dX2_init_51 (x := 36) (by decide) ?_
  refine y_newi ok dX2_init_53 36 rfl (by decide) ⟨Nat.le_of_ble_eq_true rfl, Nat.le_of_ble_eq_true rfl⟩ (fun r2 => ?_)
  refine y_ws (ws' := (h, .inr (2, [.ref g0, .ref g1, .ref sq, .int 0, .ref tq, .int 0, .ref r1, .null])) :: (bGame E g0 u0 ++ bGame E g1 u1 ++ [(sq, .inl (E.2.2.2.1, 5, .inr (.inr (.inr (.inr (fun _ => none))))))] ++ [(tq, .inl (E.2.2.1, 80, .inl (fun _ => 0)))] ++ [(r1, bArr E 36)] ++ [(r2, bArr E 36)])) rfl ?_
  refine y_put ok dX2_init_55 (ci := 2) (C := RX2) (T := TX2) (n := 8) rfl zu_X2 tyX2 tyX2_ok nmX2 7 (by decide) zw_183 ⟨rfl, rfl⟩ (tyX2_ok 7 (by decide)) rfl rfl (Nat.le_of_ble_eq_true rfl) ?_
  refine y_ws (ws' := (h, .inr (2, [.ref g0, .ref g1, .ref sq, .int 0, .ref tq, .int 0, .ref r1, .ref r2])) :: (bGame E g0 u0 ++ bGame E g1 u1 ++ [(sq, .inl (E.2.2.2.1, 5, .inr (.inr (.inr (.inr (fun _ => none))))))] ++ [(tq, .inl (E.2.2.1, 80, .inl (fun _ => 0)))] ++ [(r1, bArr E 36)] ++ [(r2, bArr E 36)])) rfl ?_
  refine y_iconst ok dX2_init_58 (x := 0) (by decide) ?_
  refine y_istore_n ok dX2_init_59 (hI 1 (by decide)) (lv' := [(1, .int 0), (0, .ref h)]) rfl ?_
  refine y_iload_n ok dX2_init_60 0 rfl ?_
  refine y_aload_n ok dX2_init_61 1 rfl ?_
  refine y_get ok dX2_init_62 (ci := 2) (C := RX2) (T := TX2) (n := 8) rfl zu_X2 2 (by decide) zw_178 rfl rfl ?_
  refine y_alenq ok dX2_init_65 13 rfl ?_
  refine y_icmp_ge ok dX2_init_66 88 (by decide) (fun q => absurd q (by decide)) (fun _ => ?_)
  refine y_aload_n ok dX2_init_69 1 rfl ?_
  refine y_get ok dX2_init_70 (ci := 2) (C := RX2) (T := TX2) (n := 8) rfl zu_X2 2 (by decide) zw_178 rfl rfl ?_
  refine y_iload_n ok dX2_init_73 0 rfl ?_
  refine y_new ok dX2_init_74 (ci := 1) (fs := [.null, .int 0, .int 0, .int 0, .int 0, .int 0, .int 0, .int 0, .int 0, .int 0, .int 0, .int 0, .int 0, .int 0, .int 0]) (C := RX1) (T := TX1) (n := 15) zu_X1 tyX1 tyX1_ok zw_62 zw_63 zw_49 rfl (fun j hj => by rcases (show j = 0 ∨ j = 1 ∨ j = 2 ∨ j = 3 ∨ j = 4 ∨ j = 5 ∨ j = 6 ∨ j = 7 ∨ j = 8 ∨ j = 9 ∨ j = 10 ∨ j = 11 ∨ j = 12 ∨ j = 13 ∨ j = 14 by omega) with rfl | rfl | rfl | rfl | rfl | rfl | rfl | rfl | rfl | rfl | rfl | rfl | rfl | rfl | rfl <;> rfl) ⟨Nat.le_of_ble_eq_true rfl, Nat.le_of_ble_eq_true rfl⟩ (fun g2 => ?_)
  refine y_dup ok dX2_init_77 rfl ?_
  refine y_ctorN ok dX2_init_78 (i_Game E g2) yi_X1 zw_64 (by decide) (Nat.le_of_ble_eq_true rfl) ⟨Nat.le_of_ble_eq_true rfl, Nat.le_of_ble_eq_true rfl⟩ (fun u2 _ => ?_)
  refine y_ws (ws' := (h, .inr (2, [.ref g0, .ref g1, .ref sq, .int 0, .ref tq, .int 0, .ref r1, .ref r2])) :: (bGame E g0 u0 ++ bGame E g1 u1 ++ [(sq, .inl (E.2.2.2.1, 5, .inr (.inr (.inr (.inr (fun _ => none))))))] ++ [(tq, .inl (E.2.2.1, 80, .inl (fun _ => 0)))] ++ [(r1, bArr E 36)] ++ [(r2, bArr E 36)] ++ bGame E g2 u2)) rfl ?_
  refine y_aast ok dX2_init_81 13 17 rfl rfl 0 rfl (by decide) (by decide) ?_
  refine y_ws (ws' := (h, .inr (2, [.ref g0, .ref g1, .ref sq, .int 0, .ref tq, .int 0, .ref r1, .ref r2])) :: (bGame E g0 u0 ++ bGame E g1 u1 ++ [(sq, .inl (E.2.2.2.1, 5, .inr (.inr (.inr (.inr (va_up (fun _ => none) 0 (some g2)))))))] ++ [(tq, .inl (E.2.2.1, 80, .inl (fun _ => 0)))] ++ [(r1, bArr E 36)] ++ [(r2, bArr E 36)] ++ bGame E g2 u2)) rfl ?_
  refine y_iinc ok dX2_init_82 (hI 1 (by decide)) 0 rfl (y := 1) (by decide) (lv' := [(1, .int 1), (0, .ref h)]) rfl ?_
  refine y_goto ok dX2_init_85 60 (by decide) ?_
  refine y_iload_n ok dX2_init_60 0 rfl ?_
  refine y_aload_n ok dX2_init_61 1 rfl ?_
  refine y_get ok dX2_init_62 (ci := 2) (C := RX2) (T := TX2) (n := 8) rfl zu_X2 2 (by decide) zw_178 rfl rfl ?_
  refine y_alenq ok dX2_init_65 13 rfl ?_
  refine y_icmp_ge ok dX2_init_66 88 (by decide) (fun q => absurd q (by decide)) (fun _ => ?_)
  refine y_aload_n ok dX2_init_69 1 rfl ?_
  refine y_get ok dX2_init_70 (ci := 2) (C := RX2) (T := TX2) (n := 8) rfl zu_X2 2 (by decide) zw_178 rfl rfl ?_
  refine y_iload_n ok dX2_init_73 0 rfl ?_
  refine y_new ok dX2_init_74 (ci := 1) (fs := [.null, .int 0, .int 0, .int 0, .int 0, .int 0, .int 0, .int 0, .int 0, .int 0, .int 0, .int 0, .int 0, .int 0, .int 0]) (C := RX1) (T := TX1) (n := 15) zu_X1 tyX1 tyX1_ok zw_62 zw_63 zw_49 rfl (fun j hj => by rcases (show j = 0 ∨ j = 1 ∨ j = 2 ∨ j = 3 ∨ j = 4 ∨ j = 5 ∨ j = 6 ∨ j = 7 ∨ j = 8 ∨ j = 9 ∨ j = 10 ∨ j = 11 ∨ j = 12 ∨ j = 13 ∨ j = 14 by omega) with rfl | rfl | rfl | rfl | rfl | rfl | rfl | rfl | rfl | rfl | rfl | rfl | rfl | rfl | rfl <;> rfl) ⟨Nat.le_of_ble_eq_true rfl, Nat.le_of_ble_eq_true rfl⟩ (fun g3 => ?_)
  refine y_dup ok dX2_init_77 rfl ?_
  refine y_ctorN ok dX2_init_78 (i_Game E g3) yi_X1 zw_64 (by decide) (Nat.le_of_ble_eq_true rfl) ⟨Nat.le_of_ble_eq_true rfl, Nat.le_of_ble_eq_true rfl⟩ (fun u3 _ => ?_)
  refine y_ws (ws' := (h, .inr (2, [.ref g0, .ref g1, .ref sq, .int 0, .ref tq, .int 0, .ref r1, .ref r2])) :: (bGame E g0 u0 ++ bGame E g1 u1 ++ [(sq, .inl (E.2.2.2.1, 5, .inr (.inr (.inr (.inr (va_up (fun _ => none) 0 (some g2)))))))] ++ [(tq, .inl (E.2.2.1, 80, .inl (fun _ => 0)))] ++ [(r1, bArr E 36)] ++ [(r2, bArr E 36)] ++ bGame E g2 u2 ++ bGame E g3 u3)) rfl ?_
  refine y_aast ok dX2_init_81 13 23 rfl rfl 1 rfl (by decide) (by decide) ?_
  refine y_ws (ws' := (h, .inr (2, [.ref g0, .ref g1, .ref sq, .int 0, .ref tq, .int 0, .ref r1, .ref r2])) :: (bGame E g0 u0 ++ bGame E g1 u1 ++ [(sq, .inl (E.2.2.2.1, 5, .inr (.inr (.inr (.inr (va_up (va_up (fun _ => none) 0 (some g2)) 1 (some g3)))))))] ++ [(tq, .inl (E.2.2.1, 80, .inl (fun _ => 0)))] ++ [(r1, bArr E 36)] ++ [(r2, bArr E 36)] ++ bGame E g2 u2 ++ bGame E g3 u3)) rfl ?_
  refine y_iinc ok dX2_init_82 (hI 1 (by decide)) 0 rfl (y := 2) (by decide) (lv' := [(1, .int 2), (0, .ref h)]) rfl ?_
  refine y_goto ok dX2_init_85 60 (by decide) ?_
  refine y_iload_n ok dX2_init_60 0 rfl ?_
  refine y_aload_n ok dX2_init_61 1 rfl ?_
  refine y_get ok dX2_init_62 (ci := 2) (C := RX2) (T := TX2) (n := 8) rfl zu_X2 2 (by decide) zw_178 rfl rfl ?_
  refine y_alenq ok dX2_init_65 13 rfl ?_
  refine y_icmp_ge ok dX2_init_66 88 (by decide) (fun q => absurd q (by decide)) (fun _ => ?_)
  refine y_aload_n ok dX2_init_69 1 rfl ?_
  refine y_get ok dX2_init_70 (ci := 2) (C := RX2) (T := TX2) (n := 8) rfl zu_X2 2 (by decide) zw_178 rfl rfl ?_
  refine y_iload_n ok dX2_init_73 0 rfl ?_
  refine y_new ok dX2_init_74 (ci := 1) (fs := [.null, .int 0, .int 0, .int 0, .int 0, .int 0, .int 0, .int 0, .int 0, .int 0, .int 0, .int 0, .int 0, .int 0, .int 0]) (C := RX1) (T := TX1) (n := 15) zu_X1 tyX1 tyX1_ok zw_62 zw_63 zw_49 rfl (fun j hj => by rcases (show j = 0 ∨ j = 1 ∨ j = 2 ∨ j = 3 ∨ j = 4 ∨ j = 5 ∨ j = 6 ∨ j = 7 ∨ j = 8 ∨ j = 9 ∨ j = 10 ∨ j = 11 ∨ j = 12 ∨ j = 13 ∨ j = 14 by omega) with rfl | rfl | rfl | rfl | rfl | rfl | rfl | rfl | rfl | rfl | rfl | rfl | rfl | rfl | rfl <;> rfl) ⟨Nat.le_of_ble_eq_true rfl, Nat.le_of_ble_eq_true rfl⟩ (fun g4 => ?_)
  refine y_dup ok dX2_init_77 rfl ?_
  refine y_ctorN ok dX2_init_78 (i_Game E g4) yi_X1 zw_64 (by decide) (Nat.le_of_ble_eq_true rfl) ⟨Nat.le_of_ble_eq_true rfl, Nat.le_of_ble_eq_true rfl⟩ (fun u4 _ => ?_)
  refine y_ws (ws' := (h, .inr (2, [.ref g0, .ref g1, .ref sq, .int 0, .ref tq, .int 0, .ref r1, .ref r2])) :: (bGame E g0 u0 ++ bGame E g1 u1 ++ [(sq, .inl (E.2.2.2.1, 5, .inr (.inr (.inr (.inr (va_up (va_up (fun _ => none) 0 (some g2)) 1 (some g3)))))))] ++ [(tq, .inl (E.2.2.1, 80, .inl (fun _ => 0)))] ++ [(r1, bArr E 36)] ++ [(r2, bArr E 36)] ++ bGame E g2 u2 ++ bGame E g3 u3 ++ bGame E g4 u4)) rfl ?_
  refine y_aast ok dX2_init_81 13 29 rfl rfl 2 rfl (by decide) (by decide) ?_
  refine y_ws (ws' := (h, .inr (2, [.ref g0, .ref g1, .ref sq, .int 0, .ref tq, .int 0, .ref r1, .ref r2])) :: (bGame E g0 u0 ++ bGame E g1 u1 ++ [(sq, .inl (E.2.2.2.1, 5, .inr (.inr (.inr (.inr (va_up (va_up (va_up (fun _ => none) 0 (some g2)) 1 (some g3)) 2 (some g4)))))))] ++ [(tq, .inl (E.2.2.1, 80, .inl (fun _ => 0)))] ++ [(r1, bArr E 36)] ++ [(r2, bArr E 36)] ++ bGame E g2 u2 ++ bGame E g3 u3 ++ bGame E g4 u4)) rfl ?_
  refine y_iinc ok dX2_init_82 (hI 1 (by decide)) 0 rfl (y := 3) (by decide) (lv' := [(1, .int 3), (0, .ref h)]) rfl ?_
  refine y_goto ok dX2_init_85 60 (by decide) ?_
  refine y_iload_n ok dX2_init_60 0 rfl ?_
  refine y_aload_n ok dX2_init_61 1 rfl ?_
  refine y_get ok dX2_init_62 (ci := 2) (C := RX2) (T := TX2) (n := 8) rfl zu_X2 2 (by decide) zw_178 rfl rfl ?_
  refine y_alenq ok dX2_init_65 13 rfl ?_
  refine y_icmp_ge ok dX2_init_66 88 (by decide) (fun q => absurd q (by decide)) (fun _ => ?_)
  refine y_aload_n ok dX2_init_69 1 rfl ?_
  refine y_get ok dX2_init_70 (ci := 2) (C := RX2) (T := TX2) (n := 8) rfl zu_X2 2 (by decide) zw_178 rfl rfl ?_
  refine y_iload_n ok dX2_init_73 0 rfl ?_
  refine y_new ok dX2_init_74 (ci := 1) (fs := [.null, .int 0, .int 0, .int 0, .int 0, .int 0, .int 0, .int 0, .int 0, .int 0, .int 0, .int 0, .int 0, .int 0, .int 0]) (C := RX1) (T := TX1) (n := 15) zu_X1 tyX1 tyX1_ok zw_62 zw_63 zw_49 rfl (fun j hj => by rcases (show j = 0 ∨ j = 1 ∨ j = 2 ∨ j = 3 ∨ j = 4 ∨ j = 5 ∨ j = 6 ∨ j = 7 ∨ j = 8 ∨ j = 9 ∨ j = 10 ∨ j = 11 ∨ j = 12 ∨ j = 13 ∨ j = 14 by omega) with rfl | rfl | rfl | rfl | rfl | rfl | rfl | rfl | rfl | rfl | rfl | rfl | rfl | rfl | rfl <;> rfl) ⟨Nat.le_of_ble_eq_true rfl, Nat.le_of_ble_eq_true rfl⟩ (fun g5 => ?_)
  refine y_dup ok dX2_init_77 rfl ?_
  refine y_ctorN ok dX2_init_78 (i_Game E g5) yi_X1 zw_64 (by decide) (Nat.le_of_ble_eq_true rfl) ⟨Nat.le_of_ble_eq_true rfl, Nat.le_of_ble_eq_true rfl⟩ (fun u5 _ => ?_)
  refine y_ws (ws' := (h, .inr (2, [.ref g0, .ref g1, .ref sq, .int 0, .ref tq, .int 0, .ref r1, .ref r2])) :: (bGame E g0 u0 ++ bGame E g1 u1 ++ [(sq, .inl (E.2.2.2.1, 5, .inr (.inr (.inr (.inr (va_up (va_up (va_up (fun _ => none) 0 (some g2)) 1 (some g3)) 2 (some g4)))))))] ++ [(tq, .inl (E.2.2.1, 80, .inl (fun _ => 0)))] ++ [(r1, bArr E 36)] ++ [(r2, bArr E 36)] ++ bGame E g2 u2 ++ bGame E g3 u3 ++ bGame E g4 u4 ++ bGame E g5 u5)) rfl ?_
  refine y_aast ok dX2_init_81 13 35 rfl rfl 3 rfl (by decide) (by decide) ?_
  refine y_ws (ws' := (h, .inr (2, [.ref g0, .ref g1, .ref sq, .int 0, .ref tq, .int 0, .ref r1, .ref r2])) :: (bGame E g0 u0 ++ bGame E g1 u1 ++ [(sq, .inl (E.2.2.2.1, 5, .inr (.inr (.inr (.inr (va_up (va_up (va_up (va_up (fun _ => none) 0 (some g2)) 1 (some g3)) 2 (some g4)) 3 (some g5)))))))] ++ [(tq, .inl (E.2.2.1, 80, .inl (fun _ => 0)))] ++ [(r1, bArr E 36)] ++ [(r2, bArr E 36)] ++ bGame E g2 u2 ++ bGame E g3 u3 ++ bGame E g4 u4 ++ bGame E g5 u5)) rfl ?_
  refine y_iinc ok dX2_init_82 (hI 1 (by decide)) 0 rfl (y := 4) (by decide) (lv' := [(1, .int 4), (0, .ref h)]) rfl ?_
  refine y_goto ok dX2_init_85 60 (by decide) ?_
  refine y_iload_n ok dX2_init_60 0 rfl ?_
  refine y_aload_n ok dX2_init_61 1 rfl ?_
  refine y_get ok dX2_init_62 (ci := 2) (C := RX2) (T := TX2) (n := 8) rfl zu_X2 2 (by decide) zw_178 rfl rfl ?_
  refine y_alenq ok dX2_init_65 13 rfl ?_
  refine y_icmp_ge ok dX2_init_66 88 (by decide) (fun q => absurd q (by decide)) (fun _ => ?_)
  refine y_aload_n ok dX2_init_69 1 rfl ?_
  refine y_get ok dX2_init_70 (ci := 2) (C := RX2) (T := TX2) (n := 8) rfl zu_X2 2 (by decide) zw_178 rfl rfl ?_
  refine y_iload_n ok dX2_init_73 0 rfl ?_
  refine y_new ok dX2_init_74 (ci := 1) (fs := [.null, .int 0, .int 0, .int 0, .int 0, .int 0, .int 0, .int 0, .int 0, .int 0, .int 0, .int 0, .int 0, .int 0, .int 0]) (C := RX1) (T := TX1) (n := 15) zu_X1 tyX1 tyX1_ok zw_62 zw_63 zw_49 rfl (fun j hj => by rcases (show j = 0 ∨ j = 1 ∨ j = 2 ∨ j = 3 ∨ j = 4 ∨ j = 5 ∨ j = 6 ∨ j = 7 ∨ j = 8 ∨ j = 9 ∨ j = 10 ∨ j = 11 ∨ j = 12 ∨ j = 13 ∨ j = 14 by omega) with rfl | rfl | rfl | rfl | rfl | rfl | rfl | rfl | rfl | rfl | rfl | rfl | rfl | rfl | rfl <;> rfl) ⟨Nat.le_of_ble_eq_true rfl, Nat.le_of_ble_eq_true rfl⟩ (fun g6 => ?_)
  refine y_dup ok dX2_init_77 rfl ?_
  refine y_ctorN ok dX2_init_78 (i_Game E g6) yi_X1 zw_64 (by decide) (Nat.le_of_ble_eq_true rfl) ⟨Nat.le_of_ble_eq_true rfl, Nat.le_of_ble_eq_true rfl⟩ (fun u6 _ => ?_)
  refine y_ws (ws' := (h, .inr (2, [.ref g0, .ref g1, .ref sq, .int 0, .ref tq, .int 0, .ref r1, .ref r2])) :: (bGame E g0 u0 ++ bGame E g1 u1 ++ [(sq, .inl (E.2.2.2.1, 5, .inr (.inr (.inr (.inr (va_up (va_up (va_up (va_up (fun _ => none) 0 (some g2)) 1 (some g3)) 2 (some g4)) 3 (some g5)))))))] ++ [(tq, .inl (E.2.2.1, 80, .inl (fun _ => 0)))] ++ [(r1, bArr E 36)] ++ [(r2, bArr E 36)] ++ bGame E g2 u2 ++ bGame E g3 u3 ++ bGame E g4 u4 ++ bGame E g5 u5 ++ bGame E g6 u6)) rfl ?_
  refine y_aast ok dX2_init_81 13 41 rfl rfl 4 rfl (by decide) (by decide) ?_
  refine y_ws (ws' := (h, .inr (2, [.ref g0, .ref g1, .ref sq, .int 0, .ref tq, .int 0, .ref r1, .ref r2])) :: (bGame E g0 u0 ++ bGame E g1 u1 ++ [(sq, .inl (E.2.2.2.1, 5, .inr (.inr (.inr (.inr (va_up (va_up (va_up (va_up (va_up (fun _ => none) 0 (some g2)) 1 (some g3)) 2 (some g4)) 3 (some g5)) 4 (some g6)))))))] ++ [(tq, .inl (E.2.2.1, 80, .inl (fun _ => 0)))] ++ [(r1, bArr E 36)] ++ [(r2, bArr E 36)] ++ bGame E g2 u2 ++ bGame E g3 u3 ++ bGame E g4 u4 ++ bGame E g5 u5 ++ bGame E g6 u6)) rfl ?_
  refine y_iinc ok dX2_init_82 (hI 1 (by decide)) 0 rfl (y := 5) (by decide) (lv' := [(1, .int 5), (0, .ref h)]) rfl ?_
  refine y_goto ok dX2_init_85 60 (by decide) ?_
  refine y_iload_n ok dX2_init_60 0 rfl ?_
  refine y_aload_n ok dX2_init_61 1 rfl ?_
  refine y_get ok dX2_init_62 (ci := 2) (C := RX2) (T := TX2) (n := 8) rfl zu_X2 2 (by decide) zw_178 rfl rfl ?_
  refine y_alenq ok dX2_init_65 13 rfl ?_
  refine y_icmp_ge ok dX2_init_66 88 (by decide) (fun _ => ?_) (fun q => absurd (by decide) q)
  refine y_perm [0, 13, 14, 15, 16, 1, 2, 3, 4, 5, 6, 7, 8, 9, 10, 11, 12, 17, 18, 19, 20, 21, 22, 23, 24, 25, 26, 27, 28, 29, 30, 31, 32, 33, 34, 35, 36, 37, 38, 39, 40, 41, 42, 43, 44, 45, 46] (by decide +kernel) (ws' := (h, .inr (2, [.ref g0, .ref g1, .ref sq, .int 0, .ref tq, .int 0, .ref r1, .ref r2])) :: (sq, .inl (E.2.2.2.1, 5, .inr (.inr (.inr (.inr (va_up (va_up (va_up (va_up (va_up (fun _ => none) 0 (some g2)) 1 (some g3)) 2 (some g4)) 3 (some g5)) 4 (some g6))))))) :: (tq, .inl (E.2.2.1, 80, .inl (fun _ => 0))) :: (r1, bArr E 36) :: (r2, bArr E 36) :: (bGame E g0 u0 ++ bGame E g1 u1 ++ bGame E g2 u2 ++ bGame E g3 u3 ++ bGame E g4 u4 ++ bGame E g5 u5 ++ bGame E g6 u6)) rfl ?_
  refine y_z ok ⟨Nat.le_of_ble_eq_true rfl, Nat.le_of_ble_eq_true rfl⟩ (adc h sq tq r1 r2 g0 g1 g2 g3 g4 g5 g6 u0 u1 u2 u3 u4 u5 u6) 47 (by decide) w00 (y_nl hO) (y_old hO (fun j q hj => ?_)) (zws_class E h sq tq r1 r2 g0 g1 g2 g3 g4 g5 g6 u0 u1 u2 u3 u4 u5 u6) (fun hg k' hk ok' old' => ?_)
  · have hj0 : j < 1 := (List.getElem?_eq_some_iff.mp hj).1
    obtain rfl : j = 0 := by omega
    cases hj
    exact ⟨0, by decide, rfl⟩
  · refine z_aload_n ok' dX2_init_88 1 rfl ?_
    refine z_get_X2_game ok' dX2_init_89 (by decide) zw_176 ?_
    refine z_callVNv ok' old' dX2_init_92 [] (c_X1_begin _ 47 (by decide) hg w00 0 (by decide)) zy_X1_begin zw_141 5 (by decide) (zE_game _ w00 (g := 0) (by decide)) rfl rfl rfl rfl rfl (by decide) (Nat.le_of_ble_eq_true rfl) ?_
    exact z_vretI hE hk ok' rfl dX2_init_95 (adc h sq tq r1 r2 g0 g1 g2 g3 g4 g5 g6 u0 u1 u2 u3 u4 u5 u6) rfl rfl
