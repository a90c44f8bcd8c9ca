/-! the model's text: the moves one behind the other -/
theorem ztx_e2 {w u : xW} (e : u = xs w 17 2 0) (h : ∃ n, n ≤ 80 ∧ xg w 17 1 = nI n) : ztx u := by
  rw [e]
  unfold ztx
  rw [xs_xv, xg_xv', xg_xv', zU_ne _ _ (by omega), zU_eq]
  exact ⟨h, 0, by omega, rfl⟩
/-- how far the model may still go -/
def zmt (r : Int32) (w : xW) : Nat := if r = 0 then 81 - (xg w 17 2).toNatClampNeg else 0
theorem zmt_lt (r : Int32) (w : xW) : zmt r w < 82 := by
  unfold zmt
  by_cases h : r = 0
  · rw [if_pos h]; omega
  · rw [if_neg h]; omega
theorem zmt_go {v r : Int32} {w w1 w5 : xW} {p : Int32 × xW} (hx : ztx w) (hc : ¬ xg w 17 1 ≤ xg w 17 2) (h0 : v = 0) (e1 : w1 = xs w 17 5 (xg w 17 2)) (e2 : p = d_X3_isFormed w1) (h : (p.1 = 0 ∧ r = 1 ∧ ∃ y, w5 = xs p.2 17 6 y) ∨ (¬ p.1 = 0 ∧ ∃ q, q = d_X3_does p.2 ∧ r = q.1 ∧ ∃ y, w5 = xs q.2 17 6 y)) : zmt r w5 < zmt v w ∧ ztx w5 := by
  have x1 : ztx w1 := ztx_e3 e1 (by decide) hx
  have x2 : ztx p.2 := formed_x e2 x1
  obtain ⟨⟨n, hn, a1⟩, ⟨s, hs, a2⟩⟩ := id hx
  have hlt : s < n := Nat.lt_of_not_le (fun q => hc (by rw [a1, a2]; exact nI_le q (by omega)))
  have hz : zmt v w = 81 - s := by unfold zmt; rw [if_pos h0, a2, nI_clamp (by omega)]
  rcases h with ⟨c, hr, y, ey⟩ | ⟨c, q, eq, hr, y, ey⟩
  · refine ⟨?_, ztx_e3 ey (by decide) x2⟩
    rw [hz]
    unfold zmt
    rw [if_neg (show ¬ r = 0 by rw [hr]; decide)]
    omega
  · obtain ⟨S, eS⟩ := m_does_17 (formed_c e2 x1 c)
    have eq2 : q.2 = xv p.2 11 S := by rw [eq]; exact eS
    have xq : ztx q.2 := by
      rw [eq2]
      unfold ztx
      rw [xg_row, xg_row, xv_ne _ _ (by omega)]
      exact x2
    refine ⟨?_, ztx_e3 ey (by decide) xq⟩
    rw [hz]
    unfold zmt
    by_cases hr0 : r = 0
    · have b1 : w1.1 17 1 = nI n := by rw [e1, xs_xv, xv_row, zU_ne _ _ (by omega)]; exact a1
      have b2 : w1.1 17 2 = nI s := by rw [e1, xs_xv, xv_row, zU_ne _ _ (by omega)]; exact a2
      obtain ⟨R', ef, h1, h2, h3, h4⟩ := m_isFormed w1 hn hs b1 b2
      have ew : xg w5 17 2 = R' 2 := by
        rw [ey, xs_xv, xg_xv', zU_ne _ _ (by omega), eq2, xv_ne _ _ (by omega), e2, ef, xv_row]
      rw [if_pos hr0, ew]
      rw [e2, ef] at c
      rcases t_form_is (w1.1 14) n s with k | ⟨k, k1, -⟩ | ⟨k, k1, -⟩
      · exact absurd k (t_form_0 c)
      · rw [(h3 k).1, nI_clamp (by omega)]; omega
      · rw [(h4 k).1, nI_clamp (by omega)]; omega
    · rw [if_neg hr0]; omega
theorem zas_l {w u : xW} (e : u = d_X3_laysAside w) (h : ∃ n, n ≤ 80 ∧ xg w 17 1 = nI n) : ∃ n, n ≤ 80 ∧ xg u 17 1 = nI n := by
  rw [e, m_aside, xg_row, xv_ne _ _ (by omega)]
  exact h
def d_X3_reasonOfText_12k  (e3_1 : Int32) (ew3 : xW) : Int32 × xW :=
  (e3_1, ew3)
def d_X3_reasonOfText_12  (kt3 : Int32 → xW → (Int32 × xW)) : Nat → Int32 → xW → Int32 × xW
  | 0, _, _ => default
  | n3 + 1, v3_1, vw3 => if (xg vw3 17 1) ≤ (xg vw3 17 2) then (kt3 v3_1 vw3)
  else (if v3_1 = 0 then (zlet (xs vw3 17 5 (xg vw3 17 2)) fun w6 =>
  zlet (d_X3_isFormed w6) fun p7 =>
  if p7.1 = 0 then (zlet (xs p7.2 17 6 ((xg p7.2 17 6) + 1)) fun w9 =>
  d_X3_reasonOfText_12  kt3 n3 1 w9)
  else (zlet (d_X3_does p7.2) fun p10 =>
  zlet (xs p10.2 17 6 ((xg p10.2 17 6) + 1)) fun w11 =>
  d_X3_reasonOfText_12  kt3 n3 p10.1 w11))
  else (kt3 v3_1 vw3))
def d_X3_reasonOfText (w : xW)  : Int32 × xW :=
  zlet (xs w 17 2 0) fun w1 =>
  zlet (xs w1 17 6 0) fun w2 =>
  d_X3_reasonOfText_12  d_X3_reasonOfText_12k 82 0 w2
theorem rt_stop {k : Nat} (hk : 1 ≤ k) {r : Int32} (hr : ¬ r = 0) (w : xW) : d_X3_reasonOfText_12 d_X3_reasonOfText_12k k r w = (r, w) := by
  obtain ⟨j, rfl⟩ : ∃ j, k = j + 1 := ⟨k - 1, by omega⟩
  rw [d_X3_reasonOfText_12, d_X3_reasonOfText_12k]
  by_cases a : xg w 17 1 ≤ xg w 17 2
  · rw [if_pos a]
  · rw [if_neg a, if_neg hr]
theorem m_rt_12 (T : Nat → Int32) {n : Nat} (hn : n ≤ 80) (u : xW) (hT : ∀ j, j < n → u.1 14 j = T j) : ∀ (k m p : Nat) (R S : Nat → Int32), n < p + k → n < p + m → p ≤ n → R 1 = nI n → R 2 = nI p → ∃ R', d_X3_reasonOfText_12 d_X3_reasonOfText_12k k 0 (xv (xv u 11 S) 17 R) = ((t_run T n m p S).1, xv (xv u 11 (t_run T n m p S).2.2.1) 17 R') ∧ R' 0 = R 0 ∧ R' 1 = nI n ∧ (¬ (t_run T n m p S).1 = 0 → R' 5 = nI (t_run T n m p S).2.1) ∧ R' 6 = R 6 + nI (t_run T n m p S).2.2.2 := by
  intro k
  induction k with
  | zero => intro m p R S h1 h2 h3; omega
  | succ k ih =>
    intro m p R S h1 h2 h3 r1 r2
    obtain ⟨m, rfl⟩ : ∃ j, m = j + 1 := ⟨m - 1, by omega⟩
    rw [d_X3_reasonOfText_12, xg_xv', xg_xv', r1, r2]
    by_cases hp : n ≤ p
    · rw [if_pos (nI_le hp (by omega)), t_run_end hp, d_X3_reasonOfText_12k]
      exact ⟨R, rfl, rfl, r1, fun q => absurd rfl q, (Int32.add_zero _).symm⟩
    · have hlt : p < n := Nat.lt_of_not_le hp
      have hk : 1 ≤ k := by omega
      rw [if_neg (nI_ge hlt (by omega)), if_pos rfl, zlet_def, xs_xv11, zlet_def]
      obtain ⟨R1, hR1⟩ : ∃ R1, R1 = zU R 5 (nI p) := ⟨_, rfl⟩
      have s1 : R1 1 = nI n := by rw [hR1, zU_ne _ _ (by omega)]; exact r1
      have s2 : R1 2 = nI p := by rw [hR1, zU_ne _ _ (by omega)]; exact r2
      have s5 : R1 5 = nI p := by rw [hR1, zU_eq]
      have s0 : R1 0 = R 0 := by rw [hR1, zU_ne _ _ (by omega)]
      have s6 : R1 6 = R 6 := by rw [hR1, zU_ne _ _ (by omega)]
      rw [← hR1]
      have e14 : (xv u 11 S).1 14 = u.1 14 := xv_ne _ _ (by omega)
      obtain ⟨R2, ef, g1, g2, g3, g4⟩ := m_isFormed' (xv u 11 S) R1 hn (by omega) s1 s2
      rw [e14] at ef g3 g4
      have hcf : t_form (u.1 14) n p = t_form T n p := t_form_congr hT p
      rw [hcf] at ef g3 g4
      have t0 : R2 0 = R 0 := (g1 0 (by omega) (by omega) (by omega)).trans s0
      have t1 : R2 1 = nI n := (g1 1 (by omega) (by omega) (by omega)).trans s1
      have t5 : R2 5 = nI p := (g1 5 (by omega) (by omega) (by omega)).trans s5
      have t6 : R2 6 = R 6 := (g1 6 (by omega) (by omega) (by omega)).trans s6
      rw [ef]
      dsimp only
      -- what is the same of both forms, once the model has done the move
      have fin : ∀ (why : Int32) (S2 : Nat → Int32) (len : Nat), t_why T n S p = why → t_then T n S p = S2 → t_form T n p = len → R2 2 = nI (p + len) → p + len ≤ n → 2 ≤ len → d_X3_does (xv (xv u 11 S) 17 R2) = (why, if why = 0 then xv (xv (xv u 11 S) 17 R2) 11 S2 else xv (xv u 11 S) 17 R2) → ∃ R', (zlet (d_X3_does (xv (xv u 11 S) 17 R2)) fun p10 => zlet (xs p10.2 17 6 ((xg p10.2 17 6) + 1)) fun w11 => d_X3_reasonOfText_12 d_X3_reasonOfText_12k k p10.1 w11) = ((t_run T n (m + 1) p S).1, xv (xv u 11 (t_run T n (m + 1) p S).2.2.1) 17 R') ∧ R' 0 = R 0 ∧ R' 1 = nI n ∧ (¬ (t_run T n (m + 1) p S).1 = 0 → R' 5 = nI (t_run T n (m + 1) p S).2.1) ∧ R' 6 = R 6 + nI (t_run T n (m + 1) p S).2.2.2 := by
        intro why S2 len q1 q2 q3 q4 q5 q6 q7
        rw [q7, zlet_def, zlet_def]
        dsimp only
        by_cases hw : why = 0
        · rw [if_pos hw, hw, t_run_go hlt (q1.trans hw), q2, q3, xv_comm _ (by omega), xv_xv, xs_xv11, xg_xv']
          obtain ⟨R3, e3, k0, k1, k5, k6⟩ := ih m (p + len) (zU R2 6 (R2 6 + 1)) S2 (by omega) (by omega) q5 (by rw [zU_ne _ _ (by omega)]; exact t1) (by rw [zU_ne _ _ (by omega)]; exact q4)
          refine ⟨R3, e3, ?_, ?_, k5, ?_⟩
          · rw [k0, zU_ne _ _ (by omega)]; exact t0
          · exact k1
          · rw [k6, zU_eq, t6, Int32.add_assoc, Int32.add_comm 1, ← nI_succ]
        · rw [if_neg hw, rt_stop hk hw, t_run_bad hlt (fun q => hw (q1.symm.trans q)), q1, xs_xv11, xg_xv']
          refine ⟨_, rfl, ?_, ?_, fun _ => ?_, ?_⟩
          · rw [zU_ne _ _ (by omega)]; exact t0
          · rw [zU_ne _ _ (by omega)]; exact t1
          · rw [zU_ne _ _ (by omega)]; exact t5
          · rw [zU_eq, t6]; rfl
      rcases t_form_is T n p with f0 | ⟨f2, l2, -⟩ | ⟨f5, l5, b1, b2, -⟩
      · have hwhy : t_why T n S p = 1 := by unfold t_why; rw [f0, if_neg (by decide), if_neg (by decide)]
        rw [f0, if_pos rfl, if_pos rfl, zlet_def, xs_xv11, xg_xv', rt_stop hk (by decide), t_run_bad hlt (by rw [hwhy]; decide), hwhy]
        refine ⟨_, rfl, ?_, ?_, fun _ => ?_, ?_⟩
        · rw [zU_ne _ _ (by omega)]; exact t0
        · rw [zU_ne _ _ (by omega)]; exact t1
        · rw [zU_ne _ _ (by omega)]; exact t5
        · rw [zU_eq, t6]; rfl
      · rw [if_neg (show ¬ (if t_form T n p = 0 then (0 : Int32) else 1) = 0 by rw [f2]; decide)]
        refine fin (s_refusesPass S) (s_passes S) 2 ?_ ?_ f2 (g3 f2).1 (by omega) (by omega) ?_
        · unfold t_why; rw [f2, if_neg (by decide), if_pos rfl]
        · unfold t_then; rw [f2, if_neg (by decide)]
        · have e11 : (xv (xv u 11 S) 17 R2).1 11 = S := by rw [xv_ne _ _ (by omega), xv_row]
          have := m_does_p (u := xv (xv u 11 S) 17 R2) (by rw [xv_row]; exact (g3 f2).2)
          rw [e11] at this
          exact this
      · obtain ⟨f, hf, ea⟩ := t_cell_lt b1
        obtain ⟨t, ht, eb⟩ := t_cell_lt b2
        rw [if_neg (show ¬ (if t_form T n p = 0 then (0 : Int32) else 1) = 0 by rw [f5]; decide)]
        refine fin (s_refuses S f t) (s_makes S f t) 5 ?_ ?_ f5 (g4 f5).1 (by omega) (by omega) ?_
        · unfold t_why; rw [f5, if_pos rfl, ea, eb, nI_clamp (by omega), nI_clamp (by omega)]
        · unfold t_then; rw [f5, if_pos rfl, ea, eb, nI_clamp (by omega), nI_clamp (by omega)]
        · have e11 : (xv (xv u 11 S) 17 R2).1 11 = S := by rw [xv_ne _ _ (by omega), xv_row]
          have := m_does_m (u := xv (xv u 11 S) 17 R2) hf ht (by rw [xv_row, (g4 f5).2.1, t_cell_congr hT p]; exact ea) (by rw [xv_row, (g4 f5).2.2, t_cell_congr hT (p + 2)]; exact eb)
          rw [e11] at this
          exact this
/-- all that the model reads of a text, from a row of its game -/
theorem m_rt (T : Nat → Int32) {n : Nat} (hn : n ≤ 80) (u : xW) (hT : ∀ j, j < n → u.1 14 j = T j) (h1 : u.1 17 1 = nI n) : ∃ R', d_X3_reasonOfText u = ((t_run T n 81 0 (u.1 11)).1, xv (xv u 11 (t_run T n 81 0 (u.1 11)).2.2.1) 17 R') ∧ R' 0 = u.1 17 0 ∧ R' 1 = u.1 17 1 ∧ (¬ (t_run T n 81 0 (u.1 11)).1 = 0 → R' 5 = nI (t_run T n 81 0 (u.1 11)).2.1) ∧ R' 6 = nI (t_run T n 81 0 (u.1 11)).2.2.2 := by
  obtain ⟨R, hR⟩ : ∃ R, R = zU (zU (u.1 17) 2 0) 6 0 := ⟨_, rfl⟩
  have e : d_X3_reasonOfText u = d_X3_reasonOfText_12 d_X3_reasonOfText_12k 82 0 (xv (xv u 11 (u.1 11)) 17 R) := by
    rw [d_X3_reasonOfText, zlet_def, zlet_def, xs_xv u, xs_xv11, xv_self, hR]
  obtain ⟨R', e2, k0, k1, k5, k6⟩ := m_rt_12 T hn u hT 82 81 0 R (u.1 11) (by omega) (by omega) (by omega) (by rw [hR, zU_ne _ _ (by omega), zU_ne _ _ (by omega)]; exact h1) (by rw [hR, zU_ne _ _ (by omega), zU_eq]; rfl)
  refine ⟨R', e.trans e2, ?_, ?_, k5, ?_⟩
  · rw [k0, hR, zU_ne _ _ (by omega), zU_ne _ _ (by omega)]
  · exact k1.trans h1.symm
  · rw [k6, hR, zU_eq, Int32.zero_add]
theorem rt_17 {u : xW} (h : ∃ n, n ≤ 80 ∧ xg u 17 1 = nI n) : (d_X3_reasonOfText u).2.1 17 0 = u.1 17 0 ∧ (d_X3_reasonOfText u).2.1 17 1 = u.1 17 1 := by
  obtain ⟨n, hn, e⟩ := h
  obtain ⟨R', e2, k0, k1, -⟩ := m_rt (u.1 14) hn u (fun _ _ => rfl) e
  rw [e2]
  dsimp only
  rw [xv_row]
  exact ⟨k0, k1⟩
theorem back_17 (w : xW) : (d_X3_bringsBack w).1 17 = w.1 17 := by rw [m_back, xv_ne _ _ (by omega)]
theorem aside_17 (w : xW) : (d_X3_laysAside w).1 17 = w.1 17 := by rw [m_aside, xv_ne _ _ (by omega)]
theorem zpl_17 {w w1 w3 : xW} {p : Int32 × xW} (h_l : ∃ n, n ≤ 80 ∧ xg w 17 1 = nI n) (e1 : w1 = d_X3_laysAside w) (e2 : p = d_X3_reasonOfText w1) (e3 : w3 = d_X3_bringsBack p.2) : w3.1 17 0 = w.1 17 0 ∧ w3.1 17 1 = w.1 17 1 := by
  have := rt_17 (zas_l e1 h_l)
  rw [e3, back_17, e2, this.1, this.2, e1, aside_17]
  exact ⟨rfl, rfl⟩
theorem zpl_p {w w1 w3 : xW} {p : Int32 × xW} (h_l : ∃ n, n ≤ 80 ∧ xg w 17 1 = nI n) (h_p : ∃ q, q ≤ 5 ∧ xg w 17 0 = nI q) (e1 : w1 = d_X3_laysAside w) (e2 : p = d_X3_reasonOfText w1) (e3 : w3 = d_X3_bringsBack p.2) : ∃ q, q ≤ 5 ∧ xg w3 17 0 = nI q := by
  rw [xg_row, (zpl_17 h_l e1 e2 e3).1]
  exact h_p
/-- keeping a state leaves the text's length -/
theorem rec_17_1 (w : xW) (h : ∃ q, q ≤ 5 ∧ w.1 17 0 = nI q) : (d_X3_records w).1 17 1 = w.1 17 1 := by
  obtain ⟨p, hp, hw⟩ := h
  rw [d_X3_records]
  have key : ∀ u : xW, ∀ q, q ≤ 5 → u.1 17 0 = nI q → (d_X3_records_51 d_X3_records_51k 160 0 u).1 17 1 = u.1 17 1 := by
    intro u q hq hu
    rw [m_rec51 d_X3_records_51k 160 159 0 u q hu hq (by omega) (by omega), d_X3_records_51k, zlet_def, xs_xv, xv_row, zU_ne _ _ (by omega), xv_ne _ _ (by omega)]
  by_cases h5 : p = 5
  · rw [if_pos (by rw [xg_row, hw, h5]; rfl), m_rec10 d_X3_records_10k 637 636 0 w (by omega) (by omega), d_X3_records_10k, zlet_def, zlet_def]
    rw [key _ 4 (by omega) (by rw [xs_xv, xv_row, zU_eq, xg_row, xv_ne _ _ (by omega), hw, h5]; decide), xs_xv, xv_row, zU_ne _ _ (by omega), xv_ne _ _ (by omega)]
  · rw [if_neg (by rw [xg_row, hw]; exact fun q => h5 ((nI_lt5 hp).2.2.2.2.2.1.mp q)), zlet_def]
    exact key w p hp hw
theorem zpl_l {w w1 w3 w5 : xW} {p : Int32 × xW} (h_l : ∃ n, n ≤ 80 ∧ xg w 17 1 = nI n) (h_p : ∃ q, q ≤ 5 ∧ xg w 17 0 = nI q) (e1 : w1 = d_X3_laysAside w) (e2 : p = d_X3_reasonOfText w1) (e3 : w3 = d_X3_bringsBack p.2) (e5 : w5 = d_X3_records w3) : ∃ n, n ≤ 80 ∧ xg w5 17 1 = nI n := by
  rw [e5, xg_row, rec_17_1 w3 (zpl_p h_l h_p e1 e2 e3), (zpl_17 h_l e1 e2 e3).2]
  exact h_l

set_option maxRecDepth 100000 in
set_option maxHeartbeats 4000000 in
theorem c_X3_reasonOfText (G : zG) (N : Nat) (hN : 54 ≤ N) (hg : zGeo G N) (w : xW) (h_l : ∃ n, n ≤ 80 ∧ xg w 17 1 = nI n) : zM yX3_reasonOfText cX3_reasonOfText 2 (some .int) 9 204 G N [.ref (zad G 47)] w (some (d_X3_reasonOfText w).1) (d_X3_reasonOfText w).2 := by
  obtain ⟨r, u, hT⟩ := zpair (d_X3_reasonOfText w)
  rw [hT]
  dsimp only
  unfold d_X3_reasonOfText at hT
  refine zM_of zy_X3_reasonOfText.2.2.2.2.2.2.2 hg ⟨Nat.le_of_ble_eq_true rfl, by decide⟩ rfl (fun k ok hE hI => ?_)
  have old := hE.old
  refine z_aload_n ok dX3_reasonOfText_0 0 rfl ?_
  refine z_iconst ok dX3_reasonOfText_1 (x := 0) (by decide) ?_
  refine z_put_X3_spot ok dX3_reasonOfText_2 hN zw_557 ?_
  replace hT := zlet_open hT
  obtain ⟨w1, hw1, hT⟩ := hT
  rw [← hw1]
  have : ztx w1 := ztx_e2 (by assumption) h_l
  refine z_aload_n ok dX3_reasonOfText_5 0 rfl ?_
  refine z_iconst ok dX3_reasonOfText_6 (x := 0) (by decide) ?_
  refine z_put_X3_many ok dX3_reasonOfText_7 hN zw_561 ?_
  replace hT := zlet_open hT
  obtain ⟨w2, hw2, hT⟩ := hT
  rw [← hw2]
  have : ztx w2 := ztx_e3 (by assumption) (by decide) (by assumption)
  refine z_iconst ok dX3_reasonOfText_10 (x := 0) (by decide) ?_
  have := zmt_lt 0 w2
  refine z_istore_n ok dX3_reasonOfText_11 (hI 1 (by decide)) (lv' := [(1, .int 0), (0, .ref (zad G 47))]) rfl ?_
  refine z_locs [1, 0] (lv' := [(0, .ref (zad G 47)), (1, .int 0)]) rfl ?_
  obtain ⟨kt3, hkt3⟩ : ∃ z, z = d_X3_reasonOfText_12k := ⟨_, rfl⟩
  rw [← hkt3] at hT
  have hk3 : ∀ (e3_1 : Int32) (ew3 : xW), ztx ew3 → kt3 e3_1 ew3 = (r, u) → zZ k G N ew3 64 [(0, .ref (zad G 47)), (1, .int e3_1)] [] := by
    intro e3_1 ew3 q3_0 hT3
    rw [hkt3, d_X3_reasonOfText_12k] at hT3
    refine z_iload_n ok dX3_reasonOfText_64 1 rfl ?_
    exact z_iret ok hE dX3_reasonOfText_65 rfl ⟨congrArg Prod.fst hT3, congrArg Prod.snd hT3⟩
  have hl3 : ∀ (n3 : Nat) (v3_1 : Int32) (vw3 : xW), zmt v3_1 vw3 < n3 → ztx vw3 → d_X3_reasonOfText_12  kt3 n3 v3_1 vw3 = (r, u) → zZ k G N vw3 12 [(0, .ref (zad G 47)), (1, .int v3_1)] [] := by
    intro n3
    induction n3 with
    | zero =>
      intro v3_1 vw3 q3_0 q3_1
      exact absurd q3_0 (by omega)
    | succ n3 ih3 =>
      intro v3_1 vw3 q3_0 q3_1 hT3
      rw [d_X3_reasonOfText_12] at hT3
      refine z_aload_n ok dX3_reasonOfText_12 0 rfl ?_
      refine z_get_X3_spot ok dX3_reasonOfText_13 hN zw_557 ?_
      refine z_aload_n ok dX3_reasonOfText_16 0 rfl ?_
      refine z_get_X3_length ok dX3_reasonOfText_17 hN zw_554 ?_
      refine z_icmp_ge ok dX3_reasonOfText_20 64 (by decide) (fun c4 => ?_) (fun c4 => ?_)
      · rw [if_pos c4] at hT3
        refine z_locs [0, 1] (lv' := [(0, .ref (zad G 47)), (1, .int v3_1)]) rfl ?_
        exact hk3 v3_1 vw3 (by first | assumption | omega) hT3
      · rw [if_neg c4] at hT3
        refine z_iload_n ok dX3_reasonOfText_23 1 rfl ?_
        refine z_if_ne ok dX3_reasonOfText_24 64 (by decide) (fun c5 => ?_) (fun c5 => ?_)
        · rw [if_neg c5] at hT3
          refine z_locs [0, 1] (lv' := [(0, .ref (zad G 47)), (1, .int v3_1)]) rfl ?_
          exact hk3 v3_1 vw3 (by first | assumption | omega) hT3
        · rw [if_pos c5] at hT3
          refine z_aload_n ok dX3_reasonOfText_27 0 rfl ?_
          refine z_aload_n ok dX3_reasonOfText_28 0 rfl ?_
          refine z_get_X3_spot ok dX3_reasonOfText_29 hN zw_557 ?_
          refine z_put_X3_from ok dX3_reasonOfText_32 hN zw_560 ?_
          replace hT3 := zlet_open hT3
          obtain ⟨w6, hw6, hT3⟩ := hT3
          rw [← hw6]
          have : ztx w6 := ztx_e3 (by assumption) (by decide) (by assumption)
          refine z_aload_n ok dX3_reasonOfText_35 0 rfl ?_
          refine z_callVi ok old dX3_reasonOfText_36 [] (c_X3_isFormed G N hN hg w6 (ztx_l (by assumption)) (ztx_s (by assumption))) zy_X3_isFormed zw_778 47 (by omega) (zE_47 G w6) rfl rfl rfl rfl rfl (by decide) (Nat.le_of_ble_eq_true rfl) ?_
          replace hT3 := zlet_open hT3
          obtain ⟨p7, hp7, hT3⟩ := hT3
          rw [← hp7]
          have : ztx p7.2 := formed_x (by assumption) (by assumption)
          refine z_if_eq ok dX3_reasonOfText_39 49 (by decide) (fun c8 => ?_) (fun c8 => ?_)
          · rw [if_pos c8] at hT3
            refine z_iconst ok dX3_reasonOfText_49 (x := 1) (by decide) ?_
            refine z_istore_n ok dX3_reasonOfText_50 (hI 1 (by decide)) (lv' := [(1, .int 1), (0, .ref (zad G 47))]) rfl ?_
            refine z_aload_n ok dX3_reasonOfText_51 1 rfl ?_
            refine z_dup ok dX3_reasonOfText_52 rfl ?_
            refine z_get_X3_many ok dX3_reasonOfText_53 hN zw_561 ?_
            refine z_iconst ok dX3_reasonOfText_56 (x := 1) (by decide) ?_
            refine z_iadd ok dX3_reasonOfText_57 ?_
            refine z_put_X3_many ok dX3_reasonOfText_58 hN zw_561 ?_
            replace hT3 := zlet_open hT3
            obtain ⟨w9, hw9, hT3⟩ := hT3
            rw [← hw9]
            have hm := zmt_go q3_1 c4 c5 hw6 hp7 (w5 := w9) (r := 1) (by first | exact Or.inl ⟨c8, rfl, _, hw9⟩ | exact Or.inr ⟨c8, _, hp10, rfl, _, hw11⟩)
            have hm1 := hm.1
            have hm2 := hm.2
            refine z_goto ok dX3_reasonOfText_61 12 (by decide) ?_
            refine z_locs [1, 0] (lv' := [(0, .ref (zad G 47)), (1, .int 1)]) rfl ?_
            exact ih3 1 w9 (by omega) (by first | assumption | omega) hT3
          · rw [if_neg c8] at hT3
            refine z_aload_n ok dX3_reasonOfText_42 0 rfl ?_
            refine z_callVi ok old dX3_reasonOfText_43 [] (c_X3_does G N hN hg p7.2 (formed_c (by assumption) (by assumption) (by assumption))) zy_X3_does zw_790 47 (by omega) (zE_47 G p7.2) rfl rfl rfl rfl rfl (by decide) (Nat.le_of_ble_eq_true rfl) ?_
            replace hT3 := zlet_open hT3
            obtain ⟨p10, hp10, hT3⟩ := hT3
            rw [← hp10]
            refine z_goto ok dX3_reasonOfText_46 50 (by decide) ?_
            refine z_istore_n ok dX3_reasonOfText_50 (hI 1 (by decide)) (lv' := [(1, .int p10.1), (0, .ref (zad G 47))]) rfl ?_
            refine z_aload_n ok dX3_reasonOfText_51 1 rfl ?_
            refine z_dup ok dX3_reasonOfText_52 rfl ?_
            refine z_get_X3_many ok dX3_reasonOfText_53 hN zw_561 ?_
            refine z_iconst ok dX3_reasonOfText_56 (x := 1) (by decide) ?_
            refine z_iadd ok dX3_reasonOfText_57 ?_
            refine z_put_X3_many ok dX3_reasonOfText_58 hN zw_561 ?_
            replace hT3 := zlet_open hT3
            obtain ⟨w11, hw11, hT3⟩ := hT3
            rw [← hw11]
            have hm := zmt_go q3_1 c4 c5 hw6 hp7 (w5 := w11) (r := p10.1) (by first | exact Or.inl ⟨c8, rfl, _, hw9⟩ | exact Or.inr ⟨c8, _, hp10, rfl, _, hw11⟩)
            have hm1 := hm.1
            have hm2 := hm.2
            refine z_goto ok dX3_reasonOfText_61 12 (by decide) ?_
            refine z_locs [1, 0] (lv' := [(0, .ref (zad G 47)), (1, .int p10.1)]) rfl ?_
            exact ih3 p10.1 w11 (by omega) (by first | assumption | omega) hT3
  exact hl3 82 0 w2 (by omega) (by first | assumption | omega) hT

def d_X3_fault (w : xW) (what : Int32) : Int32 × xW :=
  if (d_X3_in w what 0 1) = 0 then (((-1), w))
  else (zlet (d_X3_laysAside w) fun w2 =>
  zlet (d_X3_reasonOfText w2) fun p3 =>
  zlet (d_X3_bringsBack p3.2) fun w4 =>
  zlet (if p3.1 = 0 then ((-4))
  else (if what = 0 then ((xg w4 17 5))
  else (p3.1)) : Int32) fun x5 =>
  (x5, w4))
set_option maxRecDepth 100000 in
set_option maxHeartbeats 4000000 in
theorem c_X3_fault (G : zG) (N : Nat) (hN : 54 ≤ N) (hg : zGeo G N) (w : xW) (what : Int32) (h_l : ∃ n, n ≤ 80 ∧ xg w 17 1 = nI n) : zM yX3_fault cX3_fault 3 (some .int) 10 225 G N [.ref (zad G 47), .int what] w (some (d_X3_fault w what).1) (d_X3_fault w what).2 := by
  obtain ⟨r, u, hT⟩ := zpair (d_X3_fault w what)
  rw [hT]
  dsimp only
  unfold d_X3_fault at hT
  refine zM_of zy_X3_fault.2.2.2.2.2.2.2 hg ⟨Nat.le_of_ble_eq_true rfl, by decide⟩ rfl (fun k ok hE hI => ?_)
  have old := hE.old
  refine z_iload_n ok dX3_fault_0 1 rfl ?_
  refine z_iconst ok dX3_fault_1 (x := 0) (by decide) ?_
  refine z_iconst ok dX3_fault_2 (x := 1) (by decide) ?_
  refine z_callSi ok old dX3_fault_3 [] (c_X3_in G N hN hg w what 0 1) zy_X3_in zw_608 rfl rfl (by decide) (Nat.le_of_ble_eq_true rfl) ?_
  refine z_if_ne ok dX3_fault_6 11 (by decide) (fun c1 => ?_) (fun c1 => ?_)
  · rw [if_neg c1] at hT
    refine z_aload_n ok dX3_fault_11 0 rfl ?_
    refine z_callVv ok old dX3_fault_12 [] (c_X3_laysAside G N hN hg w ) zy_X3_laysAside zw_730 47 (by omega) (zE_47 G w) rfl rfl rfl rfl rfl (by decide) (Nat.le_of_ble_eq_true rfl) ?_
    replace hT := zlet_open hT
    obtain ⟨w2, hw2, hT⟩ := hT
    rw [← hw2]
    refine z_aload_n ok dX3_fault_15 0 rfl ?_
    refine z_callVi ok old dX3_fault_16 [] (c_X3_reasonOfText G N hN hg w2 (zas_l (by assumption) h_l)) zy_X3_reasonOfText zw_774 47 (by omega) (zE_47 G w2) rfl rfl rfl rfl rfl (by decide) (Nat.le_of_ble_eq_true rfl) ?_
    replace hT := zlet_open hT
    obtain ⟨p3, hp3, hT⟩ := hT
    rw [← hp3]
    refine z_istore_n ok dX3_fault_19 (hI 2 (by decide)) (lv' := [(2, .int p3.1), (0, .ref (zad G 47)), (1, .int what)]) rfl ?_
    refine z_aload_n ok dX3_fault_20 1 rfl ?_
    refine z_callVv ok old dX3_fault_21 [] (c_X3_bringsBack G N hN hg p3.2 ) zy_X3_bringsBack zw_734 47 (by omega) (zE_47 G p3.2) rfl rfl rfl rfl rfl (by decide) (Nat.le_of_ble_eq_true rfl) ?_
    replace hT := zlet_open hT
    obtain ⟨w4, hw4, hT⟩ := hT
    rw [← hw4]
    refine z_iload_n ok dX3_fault_24 0 rfl ?_
    replace hT := zlet_open hT
    obtain ⟨x5, hx5, hT⟩ := hT
    have hsx5 := hx5.symm
    have hJx5 : zZ k G N w4 45 [(0, .ref (zad G 47)), (1, .int what), (2, .int p3.1)] [.int x5] := by
      exact z_iret ok hE dX3_fault_45 rfl ⟨congrArg Prod.fst hT, congrArg Prod.snd hT⟩
    refine z_if_ne ok dX3_fault_25 33 (by decide) (fun c6 => ?_) (fun c6 => ?_)
    · rw [if_neg c6] at hsx5
      refine z_iload_n ok dX3_fault_33 2 rfl ?_
      refine z_if_ne ok dX3_fault_34 44 (by decide) (fun c7 => ?_) (fun c7 => ?_)
      · rw [if_neg c7] at hsx5
        refine z_iload_n ok dX3_fault_44 0 rfl ?_
        rw [← hsx5] at hJx5
        refine z_locs [1, 2, 0] (lv' := [(0, .ref (zad G 47)), (1, .int what), (2, .int p3.1)]) rfl ?_
        exact hJx5
      · rw [if_pos c7] at hsx5
        refine z_aload_n ok dX3_fault_37 1 rfl ?_
        refine z_get_X3_from ok dX3_fault_38 hN zw_560 ?_
        refine z_goto ok dX3_fault_41 45 (by decide) ?_
        rw [← hsx5] at hJx5
        refine z_locs [1, 2, 0] (lv' := [(0, .ref (zad G 47)), (1, .int what), (2, .int p3.1)]) rfl ?_
        exact hJx5
    · rw [if_pos c6] at hsx5
      refine z_bipush ok dX3_fault_28 (x := (-4)) (by decide) ?_
      refine z_goto ok dX3_fault_30 45 (by decide) ?_
      rw [← hsx5] at hJx5
      refine z_locs [1, 2, 0] (lv' := [(0, .ref (zad G 47)), (1, .int what), (2, .int p3.1)]) rfl ?_
      exact hJx5
  · rw [if_pos c1] at hT
    refine z_iconst ok dX3_fault_9 (x := (-1)) (by decide) ?_
    exact z_iret ok hE dX3_fault_10 rfl ⟨congrArg Prod.fst hT, congrArg Prod.snd hT⟩

def d_X3_play (w : xW)  : Int32 × xW :=
  zlet (d_X3_laysAside w) fun w1 =>
  zlet (d_X3_reasonOfText w1) fun p2 =>
  zlet (d_X3_bringsBack p2.2) fun w3 =>
  if p2.1 = 0 then (zlet (d_X3_records w3) fun w5 =>
  zlet (d_X3_reasonOfText w5) fun p6 =>
  ((xg p6.2 17 6), p6.2))
  else (((-2), w3))
set_option maxRecDepth 100000 in
set_option maxHeartbeats 4000000 in
theorem c_X3_play (G : zG) (N : Nat) (hN : 54 ≤ N) (hg : zGeo G N) (w : xW) (h_l : ∃ n, n ≤ 80 ∧ xg w 17 1 = nI n) (h_p : (∃ p, p ≤ 5 ∧ xg w 17 0 = nI p)) : zM yX3_play cX3_play 3 (some .int) 10 225 G N [.ref (zad G 47)] w (some (d_X3_play w).1) (d_X3_play w).2 := by
  obtain ⟨r, u, hT⟩ := zpair (d_X3_play w)
  rw [hT]
  dsimp only
  unfold d_X3_play at hT
  refine zM_of zy_X3_play.2.2.2.2.2.2.2 hg ⟨Nat.le_of_ble_eq_true rfl, by decide⟩ rfl (fun k ok hE hI => ?_)
  have old := hE.old
  refine z_aload_n ok dX3_play_0 0 rfl ?_
  refine z_callVv ok old dX3_play_1 [] (c_X3_laysAside G N hN hg w ) zy_X3_laysAside zw_730 47 (by omega) (zE_47 G w) rfl rfl rfl rfl rfl (by decide) (Nat.le_of_ble_eq_true rfl) ?_
  replace hT := zlet_open hT
  obtain ⟨w1, hw1, hT⟩ := hT
  rw [← hw1]
  refine z_aload_n ok dX3_play_4 0 rfl ?_
  refine z_callVi ok old dX3_play_5 [] (c_X3_reasonOfText G N hN hg w1 (zas_l (by assumption) h_l)) zy_X3_reasonOfText zw_774 47 (by omega) (zE_47 G w1) rfl rfl rfl rfl rfl (by decide) (Nat.le_of_ble_eq_true rfl) ?_
  replace hT := zlet_open hT
  obtain ⟨p2, hp2, hT⟩ := hT
  rw [← hp2]
  refine z_istore_n ok dX3_play_8 (hI 1 (by decide)) (lv' := [(1, .int p2.1), (0, .ref (zad G 47))]) rfl ?_
  refine z_aload_n ok dX3_play_9 1 rfl ?_
  refine z_callVv ok old dX3_play_10 [] (c_X3_bringsBack G N hN hg p2.2 ) zy_X3_bringsBack zw_734 47 (by omega) (zE_47 G p2.2) rfl rfl rfl rfl rfl (by decide) (Nat.le_of_ble_eq_true rfl) ?_
  replace hT := zlet_open hT
  obtain ⟨w3, hw3, hT⟩ := hT
  rw [← hw3]
  refine z_iload_n ok dX3_play_13 0 rfl ?_
  refine z_if_eq ok dX3_play_14 20 (by decide) (fun c4 => ?_) (fun c4 => ?_)
  · rw [if_pos c4] at hT
    refine z_aload_n ok dX3_play_20 1 rfl ?_
    refine z_callVv ok old dX3_play_21 [] (c_X3_records G N hN hg w3 (zpl_p h_l h_p hw1 hp2 hw3)) zy_X3_records zw_597 47 (by omega) (zE_47 G w3) rfl rfl rfl rfl rfl (by decide) (Nat.le_of_ble_eq_true rfl) ?_
    replace hT := zlet_open hT
    obtain ⟨w5, hw5, hT⟩ := hT
    rw [← hw5]
    refine z_aload_n ok dX3_play_24 1 rfl ?_
    refine z_callVi ok old dX3_play_25 [] (c_X3_reasonOfText G N hN hg w5 (zpl_l h_l h_p hw1 hp2 hw3 hw5)) zy_X3_reasonOfText zw_774 47 (by omega) (zE_47 G w5) rfl rfl rfl rfl rfl (by decide) (Nat.le_of_ble_eq_true rfl) ?_
    replace hT := zlet_open hT
    obtain ⟨p6, hp6, hT⟩ := hT
    rw [← hp6]
    refine z_istore_n ok dX3_play_28 (hI 2 (by decide)) (lv' := [(2, .int p6.1), (1, .int p2.1), (0, .ref (zad G 47))]) rfl ?_
    refine z_aload_n ok dX3_play_29 2 rfl ?_
    refine z_get_X3_many ok dX3_play_30 hN zw_561 ?_
    exact z_iret ok hE dX3_play_33 rfl ⟨congrArg Prod.fst hT, congrArg Prod.snd hT⟩
  · rw [if_neg c4] at hT
    refine z_bipush ok dX3_play_17 (x := (-2)) (by decide) ?_
    exact z_iret ok hE dX3_play_19 rfl ⟨congrArg Prod.fst hT, congrArg Prod.snd hT⟩
