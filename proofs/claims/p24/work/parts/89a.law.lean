/-! the law's own loop and its end -/
theorem sim_xp {w : xW} {A : xA} (h : zSim w A) {q : Nat} (hq : 100 ≤ q) (v : Nat) : zSim (xp w q v) A := by
  obtain ⟨⟨k5, a, b, c, d, e, g, i, j, pr⟩, hI⟩ := h
  have hz : ∀ r, r < 5 → zpg (xp w q v) r = zpg w r := fun r hr => by rw [zpg_xp, if_neg (by omega)]
  have hp : ∀ r, r < 100 → zpr (xp w q v) r = zpr w r := fun r hr => by
    have : ¬ r = q := by omega
    simp [zpr, xp, this]
  refine ⟨⟨k5, a, b, c, fun r hr => by rw [hz r hr]; exact d r hr, fun r s hr hs => by rw [hz r hr, hz s hs]; exact e r s hr hs, fun r hr => ?_, i, j, by rw [hp 5 (by omega), hp 6 (by omega)]; exact pr⟩, hI⟩
  rw [hz r (by omega)]
  exact g r hr
/-- in the loop: the state, its accounts, and the kept states told in the row of long numbers -/
def zLp (w : xW) (A : xA) (c : Nat) : Prop := zSim w A ∧ zAcc (aS A) ∧ ak A = min c 5 ∧ ∀ i, i < ak A → zLg (w.2 (100 + (c - 1 - i))) = stO (aH A (ak A - 1 - i))
theorem lp_next {w w1 : xW} {A : xA} {c : Nat} (h : zLp w A c) (e : w1 = xp w (100 + c) (stO (aS A)).toBitVec.toNat) {p : Int32 × xW} (hd : zDo w1 A p) : (p.1 < 0 ∧ zLp p.2 A c ∧ zLg (p.2.2 (100 + c)) = stO (aS A)) ∨ (¬ p.1 < 0 ∧ ∃ B, zLp p.2 B (c + 1)) := by
  obtain ⟨h1, h2, h3, h4⟩ := h
  have ec : zLg (w1.2 (100 + c)) = stO (aS A) := by
    rw [e]
    show zLg (if 100 + c = 100 + c then (stO (aS A)).toBitVec.toNat else w.2 (100 + c)) = _
    rw [if_pos rfl, zLg_of]
  have en : ∀ q, ¬ q = 100 + c → w1.2 q = w.2 q := fun q hq => by
    rw [e]
    exact if_neg hq
  rcases hd with ⟨d1, d2⟩ | ⟨d1, S', d2, d3, d4⟩
  · refine Or.inl ⟨d1, ?_, by rw [d2]; exact ec⟩
    rw [d2]
    refine ⟨by rw [e]; exact sim_xp h1 (by omega) _, h2, h3, fun i hi => ?_⟩
    rw [en _ (by omega)]
    exact h4 i hi
  · refine Or.inr ⟨d1, _, d3, d2, ?_, fun i hi => ?_⟩
    · show ak (a_rec A) = _
      rw [rec_ak, h3]
      by_cases z : min c 5 < 5
      · rw [if_pos z]; omega
      · rw [if_neg z]; omega
    · have hi' : i < ak (a_rec A) := hi
      show zLg (p.2.2 (100 + (c + 1 - 1 - i))) = stO (aH (a_rec A) (ak (a_rec A) - 1 - i))
      rw [d4 _ (by omega)]
      by_cases i0 : i = 0
      · subst i0
        rw [show c + 1 - 1 - 0 = c by omega, ec, show ak (a_rec A) - 1 - 0 = ak (a_rec A) - 1 by omega, rec_last]
      · rw [rec_ak] at hi'
        have hk : aH (a_rec A) (ak (a_rec A) - 1 - i) = aH A (ak A - 1 - (i - 1)) := by
          rw [rec_ak]
          unfold a_rec
          by_cases z : ak A < 5
          · rw [if_pos z, if_pos z]
            rw [if_pos z] at hi'
            show (if ak A + 1 - 1 - i = ak A then aS A else aH A (ak A + 1 - 1 - i)) = _
            rw [if_neg (by omega), show ak A + 1 - 1 - i = ak A - 1 - (i - 1) by omega]
          · rw [if_neg z, if_neg z]
            rw [if_neg z] at hi'
            show (if 5 - 1 - i = 4 then aS A else aH A (5 - 1 - i + 1)) = _
            have := h1.1.1
            rw [if_neg (by omega), show 5 - 1 - i + 1 = ak A - 1 - (i - 1) by omega]
        have hlt : i - 1 < ak A := by
          by_cases z : ak A < 5
          · rw [if_pos z] at hi'; omega
          · rw [if_neg z] at hi'; omega
        rw [hk, ← h4 (i - 1) hlt, en _ (by omega), show c + 1 - 1 - i = c - 1 - (i - 1) by omega]
theorem side_144 {S : Nat → Int32} (h : zInv S) : ¬ s_isSide (S 144) = 0 := by
  rcases h.2.2.2.2.2.1 with e | e <;> rw [e] <;> decide
set_option maxRecDepth 100000 in
set_option maxHeartbeats 8000000 in
theorem law_loop {k : zC} {G : zG} {b L : Nat} {xs : Nat → Int32} (hg : zGeo G 48) (ok : zOk k G 48 cL_law RL 12 482) (old : zOld k G 48) (sc : zScr k b L xs) (hL : L ≤ 260) (hI : ∀ i, i < 10 → zIn k i)
    (fin : ∀ (w : xW) (A : xA) (c kk : Nat), c ≤ 40 → zLp w A c → zZ k G 48 w 352 [(0, .ref b), (1, .ref (zad G 0)), (2, .ref (zad G 47)), (3, .int (nI c)), (4, .int (nI kk))] []) : ∀ (m kk c : Nat) (w : xW) (A : xA), kk + m = 40 → c ≤ kk → zLp w A c → zZ k G 48 w 38 [(0, .ref b), (1, .ref (zad G 0)), (2, .ref (zad G 47)), (3, .int (nI c)), (4, .int (nI kk))] [] := by
  have hN : 47 ≤ 48 := by omega
  intro m
  induction m with
  | zero =>
    intro kk c w A e hc h
    refine z_iload ok dL_law_38 4 rfl ?_
    refine z_bipush ok dL_law_40 (x := nI 40) (by decide) ?_
    refine z_icmp_ge_n ok dL_law_42 352 (by decide) kk 40 rfl rfl (by omega) (fun _ => ?_) (fun q => absurd (by omega) q)
    exact fin w A c kk (by omega) h
  | succ m ih =>
    intro kk c w A e hc h
    have hI0 := h.1.2.2.1
    refine z_iload ok dL_law_38 4 rfl ?_
    refine z_bipush ok dL_law_40 (x := nI 40) (by decide) ?_
    refine z_icmp_ge_n ok dL_law_42 352 (by decide) kk 40 rfl rfl (by omega) (fun q => absurd q (by omega)) (fun _ => ?_)
    refine z_aload_n ok dL_law_45 0 rfl ?_
    refine z_iload ok dL_law_46 4 rfl ?_
    refine z_callSS ok old sc dL_law_48 [] (c_L_take hg w hL (k0 := kk) (by omega)) zy_L_take zw_403 rfl rfl (by decide) (Nat.le_of_ble_eq_true rfl) ?_
    generalize takeF L xs kk = x
    refine z_istore ok dL_law_51 (hI 5 (by decide)) (lv' := [(5, .int x), (0, .ref b), (1, .ref (zad G 0)), (2, .ref (zad G 47)), (3, .int (nI c)), (4, .int (nI kk))]) rfl ?_
    refine z_iload ok dL_law_53 0 rfl ?_
    refine z_bipush ok dL_law_55 (x := nI 12) (by decide) ?_
    refine z_callSi ok old dL_law_57 [] (c_L_part hg w x (nI 12) (by decide)) zy_L_part zw_399 rfl rfl (by decide) (Nat.le_of_ble_eq_true rfl) ?_
    obtain ⟨j, hj, ej⟩ := part_lt x (m := 12) (by omega) (by omega)
    rw [ej]
    refine z_istore ok dL_law_60 (hI 6 (by decide)) (lv' := [(6, .int (nI j)), (5, .int x), (0, .ref b), (1, .ref (zad G 0)), (2, .ref (zad G 47)), (3, .int (nI c)), (4, .int (nI kk))]) rfl ?_
    refine z_aload_n ok dL_law_62 4 rfl ?_
    refine z_iload_n ok dL_law_63 5 rfl ?_
    refine z_aload_n ok dL_law_64 3 rfl ?_
    refine z_callSV ok old dL_law_65 [.int (nI c), .ref (zad G 47)] (c_L_state hN hg h.1) zy_L_state zw_407 rfl rfl (by decide) (Nat.le_of_ble_eq_true rfl) ?_
    refine z_last ok dL_law_68 (by omega) c rfl (by omega) ?_
    obtain ⟨w1, hw1⟩ : ∃ w1, w1 = xp w (100 + c) (stO (aS A)).toBitVec.toNat := ⟨_, rfl⟩
    rw [← hw1]
    have h1 : zSim w1 A := by rw [hw1]; exact sim_xp h.1 (by omega) _
    have ha := h.2.1
    have hsd := side_144 hI0
    have hlen := s_mvs_len (aS A) (aS A 144)
    have tail : ∀ (w2 : xW) (B : xA) (c2 : Nat), c2 ≤ kk + 1 → zLp w2 B c2 → zZ k G 48 w2 294 [(0, .ref b), (1, .ref (zad G 0)), (2, .ref (zad G 47)), (3, .int (nI c2)), (4, .int (nI kk))] [] := by
      intro w2 B c2 hc2 h2
      have hS2 := h2.1.2.2.1
      refine z_aload_n ok dL_law_294 1 rfl ?_
      refine z_bipush ok dL_law_295 (x := nI 20) (by decide) ?_
      refine z_callVi ok old dL_law_297 [] (zM_eq1 (r := aS B 152) (c_X2_count G 48 hN hg w2 (nI 20)) ((K_count h2.1 _).trans rfl)) zy_X2_count zw_292 0 (by omega) (zE_0 G _) rfl rfl rfl rfl rfl (by decide) (Nat.le_of_ble_eq_true rfl) ?_
      refine z_aload_n ok dL_law_300 1 rfl ?_
      refine z_bipush ok dL_law_301 (x := nI 21) (by decide) ?_
      refine z_callVi ok old dL_law_303 [.int (aS B 152)] (zM_eq1 (r := aS B 153) (c_X2_count G 48 hN hg w2 (nI 21)) ((K_count h2.1 _).trans rfl)) zy_X2_count zw_292 0 (by omega) (zE_0 G _) rfl rfl rfl rfl rfl (by decide) (Nat.le_of_ble_eq_true rfl) ?_
      refine z_iadd ok dL_law_306 ?_
      refine z_aload_n ok dL_law_307 1 rfl ?_
      refine z_bipush ok dL_law_308 (x := nI 22) (by decide) ?_
      refine z_callVi ok old dL_law_310 [.int (aS B 152 + aS B 153)] (zM_eq1 (r := aS B 154) (c_X2_count G 48 hN hg w2 (nI 22)) ((K_count h2.1 _).trans rfl)) zy_X2_count zw_292 0 (by omega) (zE_0 G _) rfl rfl rfl rfl rfl (by decide) (Nat.le_of_ble_eq_true rfl) ?_
      refine z_iadd ok dL_law_313 ?_
      refine z_aload_n ok dL_law_314 1 rfl ?_
      refine z_bipush ok dL_law_315 (x := nI 26) (by decide) ?_
      refine z_callVi ok old dL_law_317 [.int (aS B 152 + aS B 153 + aS B 154)] (zM_eq1 (r := aS B 158) (c_X2_count G 48 hN hg w2 (nI 26)) ((K_count h2.1 _).trans rfl)) zy_X2_count zw_292 0 (by omega) (zE_0 G _) rfl rfl rfl rfl rfl (by decide) (Nat.le_of_ble_eq_true rfl) ?_
      refine z_iadd ok dL_law_320 ?_
      refine z_aload_n ok dL_law_321 1 rfl ?_
      refine z_bipush ok dL_law_322 (x := nI 23) (by decide) ?_
      refine z_callVi ok old dL_law_324 [.int (aS B 152 + aS B 153 + aS B 154 + aS B 158)] (zM_eq1 (r := aS B 155) (c_X2_count G 48 hN hg w2 (nI 23)) ((K_count h2.1 _).trans rfl)) zy_X2_count zw_292 0 (by omega) (zE_0 G _) rfl rfl rfl rfl rfl (by decide) (Nat.le_of_ble_eq_true rfl) ?_
      refine z_aload_n ok dL_law_327 1 rfl ?_
      refine z_bipush ok dL_law_328 (x := nI 24) (by decide) ?_
      refine z_callVi ok old dL_law_330 [.int (aS B 155), .int (aS B 152 + aS B 153 + aS B 154 + aS B 158)] (zM_eq1 (r := aS B 156) (c_X2_count G 48 hN hg w2 (nI 24)) ((K_count h2.1 _).trans rfl)) zy_X2_count zw_292 0 (by omega) (zE_0 G _) rfl rfl rfl rfl rfl (by decide) (Nat.le_of_ble_eq_true rfl) ?_
      refine z_iadd ok dL_law_333 ?_
      refine z_aload_n ok dL_law_334 1 rfl ?_
      refine z_bipush ok dL_law_335 (x := nI 25) (by decide) ?_
      refine z_callVi ok old dL_law_337 [.int (aS B 155 + aS B 156), .int (aS B 152 + aS B 153 + aS B 154 + aS B 158)] (zM_eq1 (r := s_allSprings (aS B)) (c_X2_count G 48 hN hg w2 (nI 25)) ((K_count h2.1 _).trans rfl)) zy_X2_count zw_292 0 (by omega) (zE_0 G _) rfl rfl rfl rfl rfl (by decide) (Nat.le_of_ble_eq_true rfl) ?_
      refine z_iadd ok dL_law_340 ?_
      refine z_icmp_eq ok dL_law_341 346 (by decide) (fun _ => ?_) (fun q => absurd (acc_law hS2 h2.2.1) q)
      refine z_iinc ok dL_law_346 (hI 4 (by decide)) 4 rfl (y := nI (kk + 1)) (z_incn kk 1) (lv' := [(4, .int (nI (kk + 1))), (0, .ref b), (1, .ref (zad G 0)), (2, .ref (zad G 47)), (3, .int (nI c2))]) rfl ?_
      refine z_goto ok dL_law_349 38 (by decide) ?_
      refine z_locs [1, 2, 3, 4, 0] (lv' := [(0, .ref b), (1, .ref (zad G 0)), (2, .ref (zad G 47)), (3, .int (nI c2)), (4, .int (nI (kk + 1)))]) rfl ?_
      exact ih (kk + 1) c2 w2 B (by omega) hc2 h2
    have done : ∀ (q : Nat) (p : Int32 × xW), zDo w1 A p → zZ k G 48 p.2 261 [(8, .int (nI q)), (7, .int (nI (s_mvs (aS A) (aS A 144)).length)), (6, .int (nI j)), (5, .int x), (0, .ref b), (1, .ref (zad G 0)), (2, .ref (zad G 47)), (3, .int (nI c)), (4, .int (nI kk))] [.int p.1] := by
      intro q p hd
      refine z_istore ok dL_law_261 (hI 9 (by decide)) (lv' := [(9, .int p.1), (8, .int (nI q)), (7, .int (nI (s_mvs (aS A) (aS A 144)).length)), (6, .int (nI j)), (5, .int x), (0, .ref b), (1, .ref (zad G 0)), (2, .ref (zad G 47)), (3, .int (nI c)), (4, .int (nI kk))]) rfl ?_
      refine z_iload_n ok dL_law_263 8 rfl ?_
      refine z_iload ok dL_law_264 0 rfl ?_
      rcases lp_next h hw1 hd with ⟨d1, d2, d3⟩ | ⟨d1, B, d2⟩
      · refine z_if_lt ok dL_law_266 273 (by decide) (fun _ => ?_) (fun q => absurd d1 q)
        refine z_iconst ok dL_law_273 (x := nI 0) (by decide) ?_
        refine z_iadd_n ok dL_law_274 c 0 rfl rfl ?_
        refine z_istore_n ok dL_law_275 (hI 3 (by decide)) (lv' := [(3, .int (nI c)), (9, .int p.1), (8, .int (nI q)), (7, .int (nI (s_mvs (aS A) (aS A 144)).length)), (6, .int (nI j)), (5, .int x), (0, .ref b), (1, .ref (zad G 0)), (2, .ref (zad G 47)), (4, .int (nI kk))]) rfl ?_
        refine z_iload ok dL_law_276 1 rfl ?_
        refine z_if_ge ok dL_law_278 294 (by decide) (fun q => absurd d1 (Int32.not_lt.mpr q)) (fun _ => ?_)
        refine z_aload_n ok dL_law_281 7 rfl ?_
        refine z_callSV ok old dL_law_282 [] (c_L_state hN hg d2.1) zy_L_state zw_407 rfl rfl (by decide) (Nat.le_of_ble_eq_true rfl) ?_
        refine z_aload_n ok dL_law_285 8 rfl ?_
        refine z_iload_n ok dL_law_286 0 rfl ?_
        refine z_lald ok dL_law_287 (by omega) c rfl (by omega) ?_
        refine z_lcmp ok dL_law_288 ?_
        refine z_if_eq ok dL_law_289 294 (by decide) (fun _ => ?_) (fun q => absurd (lcmp_0 d3.symm) q)
        refine z_locs [6, 7, 8, 0, 9] (lv' := [(0, .ref b), (1, .ref (zad G 0)), (2, .ref (zad G 47)), (3, .int (nI c)), (4, .int (nI kk))]) rfl ?_
        exact tail _ A c (by omega) d2
      · refine z_if_lt ok dL_law_266 273 (by decide) (fun q => absurd q d1) (fun _ => ?_)
        refine z_iconst ok dL_law_269 (x := nI 1) (by decide) ?_
        refine z_goto ok dL_law_270 274 (by decide) ?_
        refine z_iadd_n ok dL_law_274 c 1 rfl rfl ?_
        refine z_istore_n ok dL_law_275 (hI 3 (by decide)) (lv' := [(3, .int (nI (c + 1))), (9, .int p.1), (8, .int (nI q)), (7, .int (nI (s_mvs (aS A) (aS A 144)).length)), (6, .int (nI j)), (5, .int x), (0, .ref b), (1, .ref (zad G 0)), (2, .ref (zad G 47)), (4, .int (nI kk))]) rfl ?_
        refine z_iload ok dL_law_276 1 rfl ?_
        refine z_if_ge ok dL_law_278 294 (by decide) (fun _ => ?_) (fun q => absurd (Int32.not_lt.mp d1) q)
        refine z_locs [6, 7, 8, 0, 9] (lv' := [(0, .ref b), (1, .ref (zad G 0)), (2, .ref (zad G 47)), (3, .int (nI (c + 1))), (4, .int (nI kk))]) rfl ?_
        exact tail _ B (c + 1) (by omega) d2
    have go : ∀ (q : Nat), q < 1296 → zZ k G 48 w1 107 [(7, .int (nI (s_mvs (aS A) (aS A 144)).length)), (6, .int (nI j)), (5, .int x), (0, .ref b), (1, .ref (zad G 0)), (2, .ref (zad G 47)), (3, .int (nI c)), (4, .int (nI kk))] [.int (nI q)] := by
      intro q hq
      refine z_istore ok dL_law_107 (hI 8 (by decide)) (lv' := [(8, .int (nI q)), (7, .int (nI (s_mvs (aS A) (aS A 144)).length)), (6, .int (nI j)), (5, .int x), (0, .ref b), (1, .ref (zad G 0)), (2, .ref (zad G 47)), (3, .int (nI c)), (4, .int (nI kk))]) rfl ?_
      refine z_iload ok dL_law_109 2 rfl ?_
      refine z_bipush ok dL_law_111 (x := nI 8) (by decide) ?_
      refine z_icmp_ge_n ok dL_law_113 133 (by decide) j 8 rfl rfl (by omega) (fun g8 => ?_) (fun g8 => ?_)
      rotate_left
      focus
        refine z_aload_n ok dL_law_116 5 rfl ?_
        refine z_iload ok dL_law_117 0 rfl ?_
        refine z_bipush ok dL_law_119 (x := nI 36) (by decide) ?_
        refine z_idiv_n ok dL_law_121 q 36 rfl rfl (by omega) (by omega) (by omega) ?_
        refine z_iload ok dL_law_122 0 rfl ?_
        refine z_bipush ok dL_law_124 (x := nI 36) (by decide) ?_
        refine z_irem_n ok dL_law_126 q 36 rfl rfl (by omega) (by omega) (by omega) ?_
        refine z_callVi ok old dL_law_127 [] (c_X2_move G 48 hN hg w1 (nI (q / 36)) (nI (q % 36))) zy_X2_move zw_312 0 (by omega) (zE_0 G _) rfl rfl rfl rfl rfl (by decide) (Nat.le_of_ble_eq_true rfl) ?_
        refine z_goto ok dL_law_130 261 (by decide) ?_
        exact done q _ (D_move h1 ha (by omega) (by omega))
      refine z_iload ok dL_law_133 2 rfl ?_
      refine z_bipush ok dL_law_135 (x := nI 8) (by decide) ?_
      refine z_icmp_ne_n ok dL_law_137 184 (by decide) j 8 rfl rfl (by omega) (fun g9 => ?_) (fun g9 => ?_)
      rotate_left
      focus
        refine z_aload_n ok dL_law_140 5 rfl ?_
        refine z_iload ok dL_law_141 3 rfl ?_
        refine z_iconst ok dL_law_143 (x := nI 4) (by decide) ?_
        refine z_ishr ok dL_law_144 ?_
        refine z_bipush ok dL_law_145 (x := nI 36) (by decide) ?_
        refine z_callSi ok old dL_law_147 [.ref (zad G 0)] (c_L_part hg w1 (x >>> (nI 4 &&& 31)) (nI 36) (by decide)) zy_L_part zw_399 rfl rfl (by decide) (Nat.le_of_ble_eq_true rfl) ?_
        obtain ⟨c1, hc1, ec1⟩ := part_lt (x >>> (nI 4 &&& 31)) (m := 36) (by omega) (by omega)
        rw [ec1]
        refine z_iload ok dL_law_150 3 rfl ?_
        refine z_iconst ok dL_law_152 (x := nI 3) (by decide) ?_
        refine z_ishr ok dL_law_153 ?_
        refine z_iconst ok dL_law_154 (x := nI 3) (by decide) ?_
        refine z_callSi ok old dL_law_155 [.int (nI c1), .ref (zad G 0)] (c_L_part hg w1 (x >>> (nI 3 &&& 31)) (nI 3) (by decide)) zy_L_part zw_399 rfl rfl (by decide) (Nat.le_of_ble_eq_true rfl) ?_
        obtain ⟨s1, hs1, es1⟩ := part_lt (x >>> (nI 3 &&& 31)) (m := 3) (by omega) (by omega)
        rw [es1]
        refine z_iconst ok dL_law_158 (x := nI 1) (by decide) ?_
        refine z_isub ok dL_law_159 ?_
        refine z_iload ok dL_law_160 3 rfl ?_
        refine z_iconst ok dL_law_162 (x := nI 5) (by decide) ?_
        refine z_ishr ok dL_law_163 ?_
        refine z_iconst ok dL_law_164 (x := nI 5) (by decide) ?_
        refine z_callSi ok old dL_law_165 [.int (nI s1 - nI 1), .int (nI c1), .ref (zad G 0)] (c_L_part hg w1 (x >>> (nI 5 &&& 31)) (nI 5) (by decide)) zy_L_part zw_399 rfl rfl (by decide) (Nat.le_of_ble_eq_true rfl) ?_
        obtain ⟨k1, hk1, ek1⟩ := part_lt (x >>> (nI 5 &&& 31)) (m := 5) (by omega) (by omega)
        rw [ek1]
        refine z_iload ok dL_law_168 3 rfl ?_
        refine z_bipush ok dL_law_170 (x := nI 6) (by decide) ?_
        refine z_ishr ok dL_law_172 ?_
        refine z_bipush ok dL_law_173 (x := nI 13) (by decide) ?_
        refine z_callSi ok old dL_law_175 [.int (nI k1), .int (nI s1 - nI 1), .int (nI c1), .ref (zad G 0)] (c_L_part hg w1 (x >>> (nI 6 &&& 31)) (nI 13) (by decide)) zy_L_part zw_399 rfl rfl (by decide) (Nat.le_of_ble_eq_true rfl) ?_
        refine z_callVi ok old dL_law_178 [] (c_X2_put G 48 hN hg w1 (nI c1) (nI s1 - nI 1) (nI k1) (partF (x >>> (nI 6 &&& 31)) (nI 13))) zy_X2_put zw_253 0 (by omega) (zE_0 G _) rfl rfl rfl rfl rfl (by decide) (Nat.le_of_ble_eq_true rfl) ?_
        refine z_goto ok dL_law_181 261 (by decide) ?_
        refine done q _ (D_put h1 ha hc1 _ ?_ ?_)
        · rcases (by omega : s1 = 0 ∨ s1 = 1 ∨ s1 = 2) with r | r | r <;> rw [r] <;> decide
        · rcases (by omega : k1 = 0 ∨ k1 = 1 ∨ k1 = 2 ∨ k1 = 3 ∨ k1 = 4) with r | r | r | r | r <;> rw [r] <;> decide
      refine z_iload ok dL_law_184 2 rfl ?_
      refine z_bipush ok dL_law_186 (x := nI 9) (by decide) ?_
      refine z_icmp_ne_n ok dL_law_188 215 (by decide) j 9 rfl rfl (by omega) (fun g10 => ?_) (fun g10 => ?_)
      rotate_left
      focus
        refine z_aload_n ok dL_law_191 5 rfl ?_
        refine z_iload ok dL_law_192 3 rfl ?_
        refine z_iconst ok dL_law_194 (x := nI 4) (by decide) ?_
        refine z_ishr ok dL_law_195 ?_
        refine z_iconst ok dL_law_196 (x := nI 3) (by decide) ?_
        refine z_callSi ok old dL_law_197 [.ref (zad G 0)] (c_L_part hg w1 (x >>> (nI 4 &&& 31)) (nI 3) (by decide)) zy_L_part zw_399 rfl rfl (by decide) (Nat.le_of_ble_eq_true rfl) ?_
        refine z_iload ok dL_law_200 3 rfl ?_
        refine z_iconst ok dL_law_202 (x := nI 5) (by decide) ?_
        refine z_ishr ok dL_law_203 ?_
        refine z_bipush ok dL_law_204 (x := nI 13) (by decide) ?_
        refine z_callSi ok old dL_law_206 [.int (partF (x >>> (nI 4 &&& 31)) (nI 3)), .ref (zad G 0)] (c_L_part hg w1 (x >>> (nI 5 &&& 31)) (nI 13) (by decide)) zy_L_part zw_399 rfl rfl (by decide) (Nat.le_of_ble_eq_true rfl) ?_
        refine z_callVi ok old dL_law_209 [] (c_X2_set G 48 hN hg w1 (partF (x >>> (nI 4 &&& 31)) (nI 3)) (partF (x >>> (nI 5 &&& 31)) (nI 13))) zy_X2_set zw_226 0 (by omega) (zE_0 G _) rfl rfl rfl rfl rfl (by decide) (Nat.le_of_ble_eq_true rfl) ?_
        refine z_goto ok dL_law_212 261 (by decide) ?_
        exact done q _ (D_set h1 ha _ _)
      refine z_iload ok dL_law_215 2 rfl ?_
      refine z_bipush ok dL_law_217 (x := nI 10) (by decide) ?_
      refine z_icmp_ne_n ok dL_law_219 238 (by decide) j 10 rfl rfl (by omega) (fun g11 => ?_) (fun g11 => ?_)
      rotate_left
      focus
        refine z_aload_n ok dL_law_222 5 rfl ?_
        refine z_iload ok dL_law_223 3 rfl ?_
        refine z_iconst ok dL_law_225 (x := nI 4) (by decide) ?_
        refine z_ishr ok dL_law_226 ?_
        refine z_bipush ok dL_law_227 (x := nI 36) (by decide) ?_
        refine z_callSi ok old dL_law_229 [.ref (zad G 0)] (c_L_part hg w1 (x >>> (nI 4 &&& 31)) (nI 36) (by decide)) zy_L_part zw_399 rfl rfl (by decide) (Nat.le_of_ble_eq_true rfl) ?_
        obtain ⟨c1, hc1, ec1⟩ := part_lt (x >>> (nI 4 &&& 31)) (m := 36) (by omega) (by omega)
        rw [ec1]
        refine z_callVi ok old dL_law_232 [] (c_X2_tower G 48 hN hg w1 (nI c1)) zy_X2_tower zw_279 0 (by omega) (zE_0 G _) rfl rfl rfl rfl rfl (by decide) (Nat.le_of_ble_eq_true rfl) ?_
        refine z_goto ok dL_law_235 261 (by decide) ?_
        exact done q _ (D_tower h1 ha hc1)
      refine z_iload ok dL_law_238 3 rfl ?_
      refine z_iconst ok dL_law_240 (x := nI 4) (by decide) ?_
      refine z_ishr ok dL_law_241 ?_
      refine z_bipush ok dL_law_242 (x := nI 6) (by decide) ?_
      refine z_callSi ok old dL_law_244 [] (c_L_part hg w1 (x >>> (nI 4 &&& 31)) (nI 6) (by decide)) zy_L_part zw_399 rfl rfl (by decide) (Nat.le_of_ble_eq_true rfl) ?_
      refine z_if_ne ok dL_law_247 257 (by decide) (fun _ => ?_) (fun _ => ?_)
      · refine z_aload_n ok dL_law_257 5 rfl ?_
        refine z_callVi ok old dL_law_258 [] (c_X2_pass G 48 hN hg w1) zy_X2_pass zw_365 0 (by omega) (zE_0 G _) rfl rfl rfl rfl rfl (by decide) (Nat.le_of_ble_eq_true rfl) ?_
        exact done q _ (D_pass h1 ha)
      · refine z_aload_n ok dL_law_250 5 rfl ?_
        refine z_callVi ok old dL_law_251 [] (c_X2_setUp G 48 hN hg w1) zy_X2_setUp zw_202 0 (by omega) (zE_0 G _) rfl rfl rfl rfl rfl (by decide) (Nat.le_of_ble_eq_true rfl) ?_
        refine z_goto ok dL_law_254 261 (by decide) ?_
        exact done q _ (D_setUp h1)
    refine z_aload_n ok dL_law_69 3 rfl ?_
    refine z_aload_n ok dL_law_70 3 rfl ?_
    refine z_iconst ok dL_law_71 (x := nI 0) (by decide) ?_
    refine z_callVi ok old dL_law_72 [.ref (zad G 0)] (zM_eq1 (r := aS A 144) (c_X2_count G 48 hN hg w1 (nI 0)) ((K_count h1 _).trans rfl)) zy_X2_count zw_292 0 (by omega) (zE_0 G _) rfl rfl rfl rfl rfl (by decide) (Nat.le_of_ble_eq_true rfl) ?_
    refine z_callVi ok old dL_law_75 [] (zM_eq1 (r := nI (s_mvs (aS A) (aS A 144)).length) (c_X2_moves G 48 hN hg w1 (aS A 144)) ((K_moves h1 hsd).trans (s_movesOf_len _ _))) zy_X2_moves zw_388 0 (by omega) (zE_0 G _) rfl rfl rfl rfl rfl (by decide) (Nat.le_of_ble_eq_true rfl) ?_
    refine z_istore ok dL_law_78 (hI 7 (by decide)) (lv' := [(7, .int (nI (s_mvs (aS A) (aS A 144)).length)), (6, .int (nI j)), (5, .int x), (0, .ref b), (1, .ref (zad G 0)), (2, .ref (zad G 47)), (3, .int (nI c)), (4, .int (nI kk))]) rfl ?_
    refine z_iload ok dL_law_80 0 rfl ?_
    refine z_if_le ok dL_law_82 106 (by decide) (fun g => ?_) (fun g => ?_)
    · refine z_iconst ok dL_law_106 (x := nI 0) (by decide) ?_
      exact go 0 (by omega)
    · have hpos : 0 < (s_mvs (aS A) (aS A 144)).length := by
        refine Nat.pos_of_ne_zero (fun z => g ?_)
        rw [z]; decide
      refine z_aload_n ok dL_law_85 4 rfl ?_
      refine z_aload_n ok dL_law_86 4 rfl ?_
      refine z_iconst ok dL_law_87 (x := nI 0) (by decide) ?_
      refine z_callVi ok old dL_law_88 [.ref (zad G 0)] (zM_eq1 (r := aS A 144) (c_X2_count G 48 hN hg w1 (nI 0)) ((K_count h1 _).trans rfl)) zy_X2_count zw_292 0 (by omega) (zE_0 G _) rfl rfl rfl rfl rfl (by decide) (Nat.le_of_ble_eq_true rfl) ?_
      refine z_iload ok dL_law_91 2 rfl ?_
      refine z_iconst ok dL_law_93 (x := nI 4) (by decide) ?_
      refine z_ishr ok dL_law_94 ?_
      refine z_iload ok dL_law_95 0 rfl ?_
      refine z_callSi ok old dL_law_97 [.int (aS A 144), .ref (zad G 0)] (c_L_part hg w1 (x >>> (nI 4 &&& 31)) (nI (s_mvs (aS A) (aS A 144)).length) (nI_ne0 hpos (by omega))) zy_L_part zw_399 rfl rfl (by decide) (Nat.le_of_ble_eq_true rfl) ?_
      obtain ⟨i, hi, ei⟩ := part_lt (x >>> (nI 4 &&& 31)) (m := (s_mvs (aS A) (aS A 144)).length) hpos (by omega)
      rw [ei]
      have eq : s_nth (s_mvs (aS A) (aS A 144)) i (-4) = nI (s_mvs (aS A) (aS A 144))[i] := by unfold s_nth; rw [List.getElem?_eq_getElem hi]
      have hq := (s_mvs_mem (List.getElem_mem hi)).1
      refine z_callVi ok old dL_law_100 [] (zM_eq1 (r := nI (s_mvs (aS A) (aS A 144))[i]) (c_X2_listed G 48 hN hg w1 (aS A 144) (nI i)) ((K_listed h1 hsd (by omega)).trans eq)) zy_X2_listed zw_393 0 (by omega) (zE_0 G _) rfl rfl rfl rfl rfl (by decide) (Nat.le_of_ble_eq_true rfl) ?_
      refine z_goto ok dL_law_103 107 (by decide) ?_
      exact go _ hq
