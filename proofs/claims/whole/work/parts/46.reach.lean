/-! how far a piece gets: the model's half -/
def u_step (R : Nat → Int32) (s kd : Int32) (M : Nat → Int32) (t f : Nat) (v : Int32) : Int32 := if R t = -1 ∧ 0 ≤ M f ∧ 0 ≤ s_costBy R s kd f t ∧ v < M f - s_costBy R s kd f t then M f - s_costBy R s kd f t else v
def u_fold (R : Nat → Int32) (s kd : Int32) (M : Nat → Int32) (t : Nat) : Nat → Nat → Int32 → Int32
  | 0, _, v => v
  | n + 1, f, v => u_fold R s kd M t n (f + 1) (u_step R s kd M t f v)
def u_wide (R : Nat → Int32) (s kd : Int32) (M : Nat → Int32) : Nat → Int32 := fun t => if t < 36 then u_fold R s kd M t 36 0 (M t) else M t
theorem u_fold_no {R : Nat → Int32} (s kd : Int32) (M : Nat → Int32) {t : Nat} (h : ¬ R t = -1) : ∀ (n f : Nat) (v : Int32), u_fold R s kd M t n f v = v := by
  intro n
  induction n with
  | zero => intros; rfl
  | succ n ih =>
    intro f v
    rw [u_fold, ih, u_step, if_neg (fun q => h q.1)]
theorem ustep_eq (p : Prop) [Decidable p] (hp : p) (m c v : Int32) : (if (if (if 0 ≤ m then c else -1) < 0 then (0 : Int32) else if m - (if 0 ≤ m then c else -1) ≤ v then 0 else 1) = 0 then v else m - (if 0 ≤ m then c else -1)) = if p ∧ 0 ≤ m ∧ 0 ≤ c ∧ v < m - c then m - c else v := by
  by_cases a : 0 ≤ m
  · simp only [if_pos a]
    by_cases b : c < 0
    · rw [if_pos b, if_pos rfl, if_neg (fun q => Int32.not_le.mpr b q.2.2.1)]
    · rw [if_neg b]
      by_cases d : m - c ≤ v
      · rw [if_pos d, if_pos rfl, if_neg (fun q => Int32.not_lt.mpr d q.2.2.2)]
      · rw [if_neg d, if_neg (by decide), if_pos ⟨hp, a, Int32.not_lt.mp b, Int32.not_le.mp d⟩]
  · simp only [if_neg a]
    rw [if_pos (show (-1 : Int32) < 0 by decide), if_pos rfl, if_neg (fun q => a q.2.1)]
theorem m_goesOn_23 (side kind : Int32) (t : Nat) (kt : Nat → xW → xW) (hk : ∀ a b u, kt a u = kt b u) : ∀ (n j f : Nat) (w : xW), f + j = 36 → j < n → d_X3_goesOn_23 side kind t kt n f w = kt 36 (xv w 16 (zU (w.1 16) t (u_fold (w.1 11) side kind (w.1 15) t j f (w.1 16 t)))) := by
  intro n
  induction n with
  | zero => intro j f w h1 h2; omega
  | succ n ih =>
    intro j f w h1 h2
    have same : xv w 16 (zU (w.1 16) t (w.1 16 t)) = w := by
      conv => rhs; rw [← xv_self w 16]
      congr 1
      funext b
      rw [zU_at]
      by_cases e : b = t
      · rw [if_pos e, e]
      · rw [if_neg e]
    rw [d_X3_goesOn_23]
    cases j with
    | zero => rw [if_pos (by omega), u_fold, same]; exact hk _ _ _
    | succ j =>
      rw [if_neg (by omega)]
      by_cases hR : xg w 11 t = -1
      · rw [if_pos hR, zlet_def, zlet_def, zlet_def, zlet_def, m_costBy]
        have e : (if (if (if 0 ≤ xg w 15 f then s_costBy (w.1 11) side kind f t else -1) < 0 then (0 : Int32) else if xg w 15 f - (if 0 ≤ xg w 15 f then s_costBy (w.1 11) side kind f t else -1) ≤ xg w 16 t then 0 else 1) = 0 then xg w 16 t else xg w 15 f - (if 0 ≤ xg w 15 f then s_costBy (w.1 11) side kind f t else -1)) = u_step (w.1 11) side kind (w.1 15) t f (w.1 16 t) := by
          exact ustep_eq _ hR _ _ _
        rw [e, xs_xv, ih j (f + 1) _ (by omega) (by omega), xv_row, xv_xv, xv_ne _ _ (by omega : ¬ 11 = 16), xv_ne _ _ (by omega : ¬ 15 = 16), zU_eq, u_fold]
        congr 2
        funext b
        rw [zU_at, zU_at, zU_at]
        by_cases z : b = t
        · rw [if_pos z, if_pos z]
        · rw [if_neg z, if_neg z, if_neg z]
      · rw [if_neg hR, u_fold_no side kind (w.1 15) (show ¬ w.1 11 t = -1 from hR), same]; exact hk _ _ _
theorem m_goesOn_2 (side kind : Int32) (kt : Nat → xW → xW) : ∀ (n j t : Nat) (w : xW), t + j = 36 → j < n → d_X3_goesOn_2 side kind kt n t w = kt 36 (xv w 16 (fun b => if t ≤ b ∧ b < 36 then u_fold (w.1 11) side kind (w.1 15) b 36 0 (w.1 15 b) else w.1 16 b)) := by
  intro n
  induction n with
  | zero => intro j t w h1 h2; omega
  | succ n ih =>
    intro j t w h1 h2
    rw [d_X3_goesOn_2]
    cases j with
    | zero =>
      rw [if_pos (by omega), show t = 36 by omega]
      congr 1
      conv => lhs; rw [← xv_self w 16]
      congr 1
      funext b
      rw [if_neg (by omega)]
    | succ j =>
      rw [if_neg (by omega), zlet_def, xs_xv, m_goesOn_23 side kind t _ (fun _ _ _ => rfl) 37 36 0 _ (by omega) (by omega)]
      rw [xv_row, xv_xv, xv_ne _ _ (by omega : ¬ 11 = 16), xv_ne _ _ (by omega : ¬ 15 = 16), zU_eq, xg_row]
      rw [ih j (t + 1) _ (by omega) (by omega), xv_row, xv_xv, xv_ne _ _ (by omega : ¬ 11 = 16), xv_ne _ _ (by omega : ¬ 15 = 16)]
      congr 2
      funext b
      by_cases hb : t + 1 ≤ b ∧ b < 36
      · rw [if_pos hb, if_pos ⟨by omega, hb.2⟩]
      · rw [if_neg hb, zU_at, zU_at]
        by_cases e : b = t
        · rw [if_pos e, if_pos ⟨by omega, by omega⟩, e]
        · rw [if_neg e, if_neg e, if_neg (by omega)]
theorem m_goesOn_142 (kt : Nat → xW → xW) : ∀ (n j k : Nat) (w : xW), k + j = 36 → j < n → d_X3_goesOn_142 kt n k w = kt 36 (xv w 15 (fun b => if k ≤ b ∧ b < 36 then w.1 16 b else w.1 15 b)) := by
  intro n
  induction n with
  | zero => intro j k w h2 h3; omega
  | succ n ih =>
    intro j k w h2 h3
    rw [d_X3_goesOn_142]
    by_cases hk : 36 ≤ k
    · rw [if_pos hk, show k = 36 by omega]
      congr 1
      conv => lhs; rw [← xv_self w 15]
      congr 1
      funext b
      rw [if_neg (by omega)]
    · rw [if_neg hk, zlet_def, xs_xv]
      rw [ih (j - 1) (k + 1) _ (by omega) (by omega), xv_xv, xv_ne _ _ (by omega : ¬ 16 = 15), xv_row]
      congr 2
      funext b
      by_cases hb : k + 1 ≤ b ∧ b < 36
      · rw [if_pos hb, if_pos ⟨by omega, hb.2⟩]
      · rw [if_neg hb, zU_at]
        by_cases hb2 : b = k
        · rw [if_pos hb2, if_pos ⟨by omega, by omega⟩, hb2, xg_row]
        · rw [if_neg hb2, if_neg (by omega)]
theorem m_goesOn (w : xW) (side kind : Int32) : ∃ T, d_X3_goesOn w side kind = xv (xv w 16 T) 15 (u_wide (w.1 11) side kind (w.1 15)) := by
  refine ⟨fun b => if 0 ≤ b ∧ b < 36 then u_fold (w.1 11) side kind (w.1 15) b 36 0 (w.1 15 b) else w.1 16 b, ?_⟩
  rw [d_X3_goesOn, m_goesOn_2 side kind _ 37 36 0 w (by omega) (by omega), d_X3_goesOn_2k, m_goesOn_142 _ 37 36 0 _ (by omega) (by omega), d_X3_goesOn_142k, xv_row, xv_ne _ _ (by omega : ¬ 15 = 16)]
  congr 1
  funext b
  unfold u_wide
  by_cases hb : b < 36
  · rw [if_pos ⟨Nat.zero_le _, hb⟩, if_pos ⟨Nat.zero_le _, hb⟩, if_pos hb]
  · rw [if_neg (fun q => hb q.2), if_neg hb]
def u_iter (R : Nat → Int32) (s kd : Int32) : Nat → (Nat → Int32) → (Nat → Int32)
  | 0, M => M
  | n + 1, M => u_iter R s kd n (u_wide R s kd M)
theorem m_reach_104 (c : Nat) (x3 x4 : Int32) (kt : Nat → xW → Int32 × xW) (R : Nat → Int32) : ∀ (n j k : Nat) (w : xW) (M : Nat → Int32), k + j = c → j < n → w.1 11 = R → w.1 15 = M → ∃ T, d_X3_reach_104 c x3 x4 kt n k w = kt c (xv (xv w 16 T) 15 (u_iter R x3 x4 j M)) := by
  intro n
  induction n with
  | zero => intro j k w M h1 h2; omega
  | succ n ih =>
    intro j k w M h1 h2 hR hM
    rw [d_X3_reach_104]
    cases j with
    | zero =>
      refine ⟨w.1 16, ?_⟩
      rw [if_pos (by omega), show k = c by omega, xv_self, u_iter, ← hM, xv_self]
    | succ j =>
      rw [if_neg (by omega), zlet_def]
      obtain ⟨T, e⟩ := m_goesOn w x3 x4
      obtain ⟨T', e'⟩ := ih j (k + 1) (xv (xv w 16 T) 15 (u_wide (w.1 11) x3 x4 (w.1 15))) (u_wide R x3 x4 M) (by omega) (by omega) (by rw [xv_ne _ _ (by omega), xv_ne _ _ (by omega), hR]) (by rw [xv_row, hR, hM])
      refine ⟨T', ?_⟩
      rw [e, e', u_iter]
      congr 1
      refine Prod.ext ?_ rfl
      funext a b
      show (if a = 15 then _ else if a = 16 then _ else if a = 15 then _ else if a = 16 then _ else _) = (if a = 15 then _ else if a = 16 then _ else _)
      by_cases z : a = 15
      · rw [if_pos z, if_pos z]
      · rw [if_neg z, if_neg z]
        by_cases y : a = 16
        · rw [if_pos y, if_pos y, if_neg z]
        · rw [if_neg y, if_neg y, if_neg z, if_neg y]
theorem m_reach_54 (c : Nat) (kt : Nat → xW → Int32 × xW) : ∀ (n j k : Nat) (w : xW), k + j = 36 → j < n → d_X3_reach_54 c kt n k w = kt 36 (xv w 15 (fun b => if k ≤ b ∧ b < 36 then (if b = c then w.1 11 (72 + c) else -1) else w.1 15 b)) := by
  intro n
  induction n with
  | zero => intro j k w h2 h3; omega
  | succ n ih =>
    intro j k w h2 h3
    rw [d_X3_reach_54]
    by_cases hk : 36 ≤ k
    · rw [if_pos hk, show k = 36 by omega]
      congr 1
      conv => lhs; rw [← xv_self w 15]
      congr 1
      funext b
      rw [if_neg (by omega)]
    · rw [if_neg hk, zlet_def, zlet_def, xs_xv]
      rw [ih (j - 1) (k + 1) _ (by omega) (by omega), xv_xv, xv_ne _ _ (by omega : ¬ 11 = 15), xv_row]
      congr 2
      funext b
      by_cases hb : k + 1 ≤ b ∧ b < 36
      · rw [if_pos hb, if_pos (show k ≤ b ∧ b < 36 from ⟨by omega, hb.2⟩)]
      · rw [if_neg hb, zU_at]
        by_cases hb2 : b = k
        · rw [if_pos hb2, if_pos (show k ≤ b ∧ b < 36 from ⟨by omega, by omega⟩), hb2, xg_row]
        · rw [if_neg hb2, if_neg (by omega)]
/-- how many cells are reached -/
def u_cnt (M : Nat → Int32) : Nat → Nat → Int32 → Int32
  | 0, _, a => a
  | n + 1, f, a => u_cnt M n (f + 1) (a + if M f < 0 then 0 else 1)
theorem m_reach_133 (w : xW) (kt : Int32 → Nat → Int32 × xW) : ∀ (n j k : Nat) (a : Int32), k + j = 36 → j < n → d_X3_reach_133 w kt n a k = kt (u_cnt (w.1 15) j k a) 36 := by
  intro n
  induction n with
  | zero => intro j k a h2 h3; omega
  | succ n ih =>
    intro j k a h2 h3
    rw [d_X3_reach_133]
    cases j with
    | zero => rw [if_pos (by omega), show k = 36 by omega]; rfl
    | succ j =>
      rw [if_neg (by omega), zlet_def, zlet_def, u_cnt]
      exact ih j (k + 1) _ (by omega) (by omega)
def u_0 (S M : Nat → Int32) (c : Nat) : Nat → Int32 := fun b => if b < 36 then (if b = c then S (72 + c) else -1) else M b
/-- the model's answer, and that its kept rows are as they were -/
theorem M_reach {u : xW} {A : xA} (hu : zMR u A) {c m : Nat} (hc : c < 36) (hm : m ≤ 12) (hS : ¬ aS A c = -1) (hcell : ¬ s_isCell (nI c) = 0) (hin : ¬ s_in (nI m) 0 12 = 0) : (d_X3_reach u (nI c) (nI m)).1 = u_cnt (u_iter (s_lays (aS A) c (-1) 0 0) (aS A c) (aS A (36 + c)) m (u_0 (aS A) (u.1 15) c)) 36 0 0 ∧ zMR (d_X3_reach u (nI c) (nI m)).2 A ∧ zFC u (d_X3_reach u (nI c) (nI m)).2 := by
  have e : ∃ T, d_X3_reach u (nI c) (nI m) = (u_cnt (u_iter (s_lays (aS A) c (-1) 0 0) (aS A c) (aS A (36 + c)) m (u_0 (aS A) (u.1 15) c)) 36 0 0, xv (xv (xv (xv u 13 (zpx (u.1 13) (u.1 11) 159)) 16 T) 15 (u_iter (s_lays (aS A) c (-1) 0 0) (aS A c) (aS A (36 + c)) m (u_0 (aS A) (u.1 15) c))) 11 (aS A)) := by
    rw [d_X3_reach, m_isCell, if_neg hcell, m_in, if_neg hin, zlet_def, zlet_def, zlet_def, zlet_def, zlet_def, nI_clamp (by omega), nI_clamp (by omega), xg_row, xg_row, hu.1, if_neg hS, m_aside, m_reach_54 c _ 37 36 0 _ (by omega) (by omega), d_X3_reach_54k, zlet_def, m_lays]
    have e0 : (fun b => if 0 ≤ b ∧ b < 36 then (if b = c then (xv u 13 (zpx (u.1 13) (u.1 11) 159)).1 11 (72 + c) else -1) else (xv u 13 (zpx (u.1 13) (u.1 11) 159)).1 15 b) = u_0 (aS A) (u.1 15) c := by
      funext b
      rw [xv_ne _ _ (by omega : ¬ 11 = 13), xv_ne _ _ (by omega : ¬ 15 = 13), hu.1]
      unfold u_0
      by_cases hb : b < 36
      · rw [if_pos ⟨Nat.zero_le _, hb⟩, if_pos hb]
      · rw [if_neg (fun q => hb q.2), if_neg hb]
    rw [hu.1] at e0 ⊢
    rw [e0, xv_ne _ _ (by omega : ¬ 11 = 15), xv_ne _ _ (by omega : ¬ 11 = 13), hu.1]
    obtain ⟨T, eT⟩ := m_reach_104 m (aS A c) (aS A (36 + c)) d_X3_reach_104k (s_lays (aS A) c (-1) 0 0) (m + 1) m 0 (xv (xv (xv u 13 (zpx (u.1 13) (aS A) 159)) 15 (u_0 (aS A) (u.1 15) c)) 11 (s_lays (aS A) c (-1) 0 0)) (u_0 (aS A) (u.1 15) c) (by omega) (by omega) (xv_row _ _ _) (by rw [xv_ne _ _ (by omega), xv_row])
    refine ⟨T, ?_⟩
    rw [eT, d_X3_reach_104k, zlet_def, m_back, m_reach_133 _ _ 37 36 0 0 (by omega) (by omega), d_X3_reach_133k, xv_ne _ _ (by omega : ¬ 15 = 11), xv_row]
    congr 1
    rw [xv_ne _ _ (by omega : ¬ 11 = 15), xv_ne _ _ (by omega : ¬ 11 = 16), xv_row, xv_ne _ _ (by omega : ¬ 13 = 15), xv_ne _ _ (by omega : ¬ 13 = 16), xv_ne _ _ (by omega : ¬ 13 = 11), xv_ne _ _ (by omega : ¬ 13 = 15), xv_row, zpx_back (fun j hj => s_lays_hi _ _ _ _ hc (by omega))]
    refine Prod.ext ?_ rfl
    funext a b
    show (if a = 11 then _ else if a = 15 then _ else if a = 16 then _ else if a = 11 then _ else if a = 15 then _ else if a = 13 then _ else _) = (if a = 11 then _ else if a = 15 then _ else if a = 16 then _ else if a = 13 then _ else _)
    by_cases z : a = 11
    · rw [if_pos z, if_pos z]
    · by_cases y : a = 15
      · rw [if_neg z, if_pos y, if_neg z, if_pos y]
      · by_cases x : a = 16
        · rw [if_neg z, if_neg y, if_pos x, if_neg z, if_neg y, if_pos x]
        · rw [if_neg z, if_neg y, if_neg x, if_neg z, if_neg y, if_neg z, if_neg y, if_neg x]
  obtain ⟨T, e⟩ := e
  rw [e]
  refine ⟨rfl, zMR_same hu ?_ ?_ ?_ ?_, zFC_tr (zFC_tr (zFC_tr (zFC_xv u (by omega) _) (zFC_xv _ (by omega) _)) (zFC_xv _ (by omega) _)) (zFC_xv _ (by omega) _)⟩
  · rw [xv_row]; exact hu.1.symm
  · rw [xv_ne _ _ (by omega), xv_ne _ _ (by omega), xv_ne _ _ (by omega), xv_ne _ _ (by omega)]
  · rw [xv_ne _ _ (by omega), xv_ne _ _ (by omega), xv_ne _ _ (by omega), xv_ne _ _ (by omega)]
  · rw [xv_ne _ _ (by omega), xv_ne _ _ (by omega), xv_ne _ _ (by omega), xv_ne _ _ (by omega)]
