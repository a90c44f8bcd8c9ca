/-! the law's end: what is refused, the undos -/
set_option maxRecDepth 100000 in
set_option maxHeartbeats 8000000 in
theorem law_undos {k : zC} {G : zG} (hg : zGeo G 48) (ok : zOk k G 48 cL_law RL 12 482) (old : zOld k G 48) (hI : ∀ i, i < 10 → zIn k i) (fin : ∀ w lv, zZ k G 48 w 442 lv [.int (nI 1)]) {c K : Nat} (hc : c ≤ 40) (hK : K = min c 5) {b : Nat} {Hs : Nat → Nat → Int32} : ∀ (m t : Nat) (w : xW) (A : xA), t + m = K → zSim w A → ak A = m → aH A = Hs → (∀ i, i < K → zLg (w.2 (100 + (c - 1 - i))) = stO (Hs (K - 1 - i))) → zZ k G 48 w 364 [(4, .int (nI (t + 1))), (0, .ref b), (1, .ref (zad G 0)), (2, .ref (zad G 47)), (3, .int (nI c))] [] := by
  have hN : 47 ≤ 48 := by omega
  intro m
  induction m with
  | zero =>
    intro t w A e h hk hH hw
    have fin423 : ∀ lv0 : List (Nat × Value), lv0 = [(4, .int (nI (t + 1))), (0, .ref b), (1, .ref (zad G 0)), (2, .ref (zad G 47)), (3, .int (nI c))] → zZ k G 48 w 423 lv0 [] := by
      intro lv0 e0
      rw [e0]
      refine z_iload_n ok dL_law_423 4 rfl ?_
      refine z_iconst ok dL_law_424 (x := nI 5) (by decide) ?_
      refine z_icmp_lt_n ok dL_law_425 437 (by decide) c 5 rfl rfl (by omega) (fun _ => ?_) (fun q => ?_)
      · refine z_iconst ok dL_law_437 (x := nI 1) (by decide) ?_
        refine z_goto ok dL_law_438 442 (by decide) ?_
        exact fin _ _
      · refine z_aload_n ok dL_law_428 2 rfl ?_
        refine z_callVi ok old dL_law_429 [] (zM_eq (r := -2) (c_X2_undo G 48 hN hg w) (K_undo0 h hk)) zy_X2_undo zw_308 0 (by omega) (zE_0 G _) rfl rfl rfl rfl rfl (by decide) (Nat.le_of_ble_eq_true rfl) ?_
        refine z_bipush ok dL_law_432 (x := -2) (by decide) ?_
        refine z_icmp_ne ok dL_law_434 441 (by decide) (fun q => absurd rfl q) (fun _ => ?_)
        refine z_iconst ok dL_law_437 (x := nI 1) (by decide) ?_
        refine z_goto ok dL_law_438 442 (by decide) ?_
        exact fin _ _
    refine z_iload ok dL_law_364 0 rfl ?_
    refine z_iconst ok dL_law_366 (x := nI 5) (by decide) ?_
    refine z_icmp_gt_n ok dL_law_367 423 (by decide) (t + 1) 5 rfl rfl (by omega) (fun _ => fin423 _ rfl) (fun q => ?_)
    refine z_iload ok dL_law_370 0 rfl ?_
    refine z_iload_n ok dL_law_372 4 rfl ?_
    refine z_icmp_gt_n ok dL_law_373 423 (by decide) (t + 1) c rfl rfl (by omega) (fun _ => fin423 _ rfl) (fun q => absurd (by omega) q)
  | succ m ih =>
    intro t w A e h hk hH hw
    obtain ⟨u, eu, hu, eu2⟩ := K_undo h hk
    refine z_iload ok dL_law_364 0 rfl ?_
    refine z_iconst ok dL_law_366 (x := nI 5) (by decide) ?_
    refine z_icmp_gt_n ok dL_law_367 423 (by decide) (t + 1) 5 rfl rfl (by omega) (fun q => absurd q (by omega)) (fun _ => ?_)
    refine z_iload ok dL_law_370 0 rfl ?_
    refine z_iload_n ok dL_law_372 4 rfl ?_
    refine z_icmp_gt_n ok dL_law_373 423 (by decide) (t + 1) c rfl rfl (by omega) (fun q => absurd q (by omega)) (fun _ => ?_)
    refine z_aload_n ok dL_law_376 2 rfl ?_
    refine z_callVi ok old dL_law_377 [] (zM_eq (r := nI m) (c_X2_undo G 48 hN hg w) eu) zy_X2_undo zw_308 0 (by omega) (zE_0 G _) rfl rfl rfl rfl rfl (by decide) (Nat.le_of_ble_eq_true rfl) ?_
    refine z_istore ok dL_law_380 (hI 5 (by decide)) (lv' := [(5, .int (nI m)), (4, .int (nI (t + 1))), (0, .ref b), (1, .ref (zad G 0)), (2, .ref (zad G 47)), (3, .int (nI c))]) rfl ?_
    refine z_iload ok dL_law_382 0 rfl ?_
    refine z_if_lt ok dL_law_384 415 (by decide) (fun q => absurd q (nI_pos (by omega))) (fun _ => ?_)
    refine z_aload_n ok dL_law_387 3 rfl ?_
    refine z_callSV ok old dL_law_388 [] (c_L_state hN hg hu) zy_L_state zw_407 rfl rfl (by decide) (Nat.le_of_ble_eq_true rfl) ?_
    refine z_aload_n ok dL_law_391 4 rfl ?_
    refine z_iload_n ok dL_law_392 5 rfl ?_
    refine z_iload ok dL_law_393 1 rfl ?_
    refine z_isub_n ok dL_law_395 c (t + 1) rfl rfl (by omega) ?_
    refine z_lald ok dL_law_396 (by omega) (c - (t + 1)) rfl (by omega) ?_
    refine z_lcmp ok dL_law_397 ?_
    have est : stO (aS (aH A m, aH A, m, aT A, an A)) = zLg (u.2 (100 + (c - (t + 1)))) := by
      have := hw t (by omega)
      rw [eu2, show c - (t + 1) = c - 1 - t by omega, this, show K - 1 - t = m by omega, ← hH]
      rfl
    refine z_if_ne ok dL_law_398 415 (by decide) (fun q => absurd (lcmp_0 est) q) (fun _ => ?_)
    have next : zZ k G 48 u 417 [(5, .int (nI m)), (4, .int (nI (t + 1))), (0, .ref b), (1, .ref (zad G 0)), (2, .ref (zad G 47)), (3, .int (nI c))] [] := by
      refine z_iinc ok dL_law_417 (hI 4 (by decide)) 1 rfl (y := nI (t + 1 + 1)) (z_incn (t + 1) 1) (lv' := [(4, .int (nI (t + 1 + 1))), (5, .int (nI m)), (0, .ref b), (1, .ref (zad G 0)), (2, .ref (zad G 47)), (3, .int (nI c))]) rfl ?_
      refine z_goto ok dL_law_420 364 (by decide) ?_
      refine z_locs [0, 2, 3, 4, 5] (lv' := [(4, .int (nI (t + 1 + 1))), (0, .ref b), (1, .ref (zad G 0)), (2, .ref (zad G 47)), (3, .int (nI c))]) rfl ?_
      exact ih (t + 1) u _ (by omega) hu rfl hH (fun i hi => by rw [eu2]; exact hw i hi)
    refine z_iload_n ok dL_law_401 5 rfl ?_
    refine z_iconst ok dL_law_402 (x := nI 4) (by decide) ?_
    refine z_icmp_le_n ok dL_law_403 417 (by decide) c 4 rfl rfl (by omega) (fun _ => next) (fun q => ?_)
    refine z_iload ok dL_law_406 0 rfl ?_
    refine z_iconst ok dL_law_408 (x := nI 5) (by decide) ?_
    refine z_iload ok dL_law_409 1 rfl ?_
    refine z_isub_n ok dL_law_411 5 (t + 1) rfl rfl (by omega) ?_
    refine z_icmp_eq ok dL_law_412 417 (by decide) (fun _ => next) (fun q => absurd (congrArg nI (show m = 5 - (t + 1) by omega)) q)
set_option maxRecDepth 100000 in
set_option maxHeartbeats 8000000 in
theorem law_fin {k : zC} {G : zG} (hg : zGeo G 48) (ok : zOk k G 48 cL_law RL 12 482) (old : zOld k G 48) (hI : ∀ i, i < 10 → zIn k i) {b : Nat} (fin : ∀ w lv, zZ k G 48 w 442 lv [.int (nI 1)]) (w : xW) (A : xA) (c kk : Nat) (hc : c ≤ 40) (h : zLp w A c) : zZ k G 48 w 352 [(0, .ref b), (1, .ref (zad G 0)), (2, .ref (zad G 47)), (3, .int (nI c)), (4, .int (nI kk))] [] := by
  have hN : 47 ≤ 48 := by omega
  refine z_aload_n ok dL_law_352 1 rfl ?_
  refine z_callSi ok old dL_law_353 [] (c_L_refused hN hg h.1) zy_L_refused zw_425 rfl rfl (by decide) (Nat.le_of_ble_eq_true rfl) ?_
  refine z_if_ne ok dL_law_356 361 (by decide) (fun _ => ?_) (fun q => absurd q (by decide))
  refine z_iconst ok dL_law_361 (x := nI 1) (by decide) ?_
  refine z_istore ok dL_law_362 (hI 4 (by decide)) (lv' := [(4, .int (nI (0 + 1))), (0, .ref b), (1, .ref (zad G 0)), (2, .ref (zad G 47)), (3, .int (nI c))]) rfl ?_
  exact law_undos hg ok old hI fin hc h.2.2.1 (ak A) 0 w A (by omega) h.1 rfl rfl h.2.2.2
