/-! the law: its other cases, its loop -/
set_option maxRecDepth 100000 in
set_option maxHeartbeats 4000000 in
theorem law_11 {k : zC} {G : zG} {b L i : Nat} {xs : Nat → Int32} (hg : zGeo G 54) (ok : zOk k G 54 cL_law RL 13 494) (old : zOld k G 54) (sc : zScr k b L xs) (hL : L ≤ 2560) (hi : i + 5 ≤ L) {w : xW} {A : xA} (h : zSim w A) (kn : ∀ u B, zSim u B → zZ k G 54 u 655 [(0, .ref b), (1, .ref (zad G 0)), (2, .ref (zad G 47)), (3, .int (nI i))] []) : zZ k G 54 w 435 [(0, .ref b), (1, .ref (zad G 0)), (2, .ref (zad G 47)), (3, .int (nI i))] [] := by
  have hl := P_moves h (xs (i + 1))
  refine z_aload_n ok dL_law_435 1 rfl ?_
  refine z_aload_n ok dL_law_436 0 rfl ?_
  refine z_iload_n ok dL_law_437 3 rfl ?_
  refine z_iconst ok dL_law_438 (x := 1) (by decide) ?_
  refine z_iadd_n ok dL_law_439 i 1 rfl rfl ?_
  refine z_sld ok sc dL_law_440 (i + 1) rfl (by omega) (by omega) ?_
  refine z_callVi ok old dL_law_441 [] (c_X2_moves G 54 (by omega) hg w (xs (i + 1))) zy_X2_moves zw_439 0 (by omega) (zE_0 G w) rfl rfl rfl rfl rfl (by decide) (Nat.le_of_ble_eq_true rfl) ?_
  refine z_aload_n ok dL_law_444 2 rfl ?_
  refine z_aload_n ok dL_law_445 0 rfl ?_
  refine z_iload_n ok dL_law_446 3 rfl ?_
  refine z_iconst ok dL_law_447 (x := 1) (by decide) ?_
  refine z_iadd_n ok dL_law_448 i 1 rfl rfl ?_
  refine z_sld ok sc dL_law_449 (i + 1) rfl (by omega) (by omega) ?_
  refine z_callVi ok old dL_law_450 [.int (d_X2_moves w (xs (i + 1)))] (c_X3_moves G 54 (by omega) hg w (xs (i + 1))) zy_X3_moves zw_711 47 (by omega) (zE_47 G w) rfl rfl rfl rfl rfl (by decide) (Nat.le_of_ble_eq_true rfl) ?_
  refine z_icmp_eq ok dL_law_453 655 (by decide) (fun _ => ?_) (fun c => ?_)
  · exact kn w A h
  · exact absurd hl c
set_option maxRecDepth 100000 in
set_option maxHeartbeats 4000000 in
theorem law_12 {k : zC} {G : zG} {b L i : Nat} {xs : Nat → Int32} (hg : zGeo G 54) (ok : zOk k G 54 cL_law RL 13 494) (old : zOld k G 54) (sc : zScr k b L xs) (hL : L ≤ 2560) (hi : i + 5 ≤ L) {w : xW} {A : xA} (h : zSim w A) (kn : ∀ u B, zSim u B → zZ k G 54 u 655 [(0, .ref b), (1, .ref (zad G 0)), (2, .ref (zad G 47)), (3, .int (nI i))] []) : zZ k G 54 w 458 [(0, .ref b), (1, .ref (zad G 0)), (2, .ref (zad G 47)), (3, .int (nI i))] [] := by
  have hl := P_listed h (xs (i + 1)) (xs (i + 2))
  refine z_aload_n ok dL_law_458 1 rfl ?_
  refine z_aload_n ok dL_law_459 0 rfl ?_
  refine z_iload_n ok dL_law_460 3 rfl ?_
  refine z_iconst ok dL_law_461 (x := 1) (by decide) ?_
  refine z_iadd_n ok dL_law_462 i 1 rfl rfl ?_
  refine z_sld ok sc dL_law_463 (i + 1) rfl (by omega) (by omega) ?_
  refine z_aload_n ok dL_law_464 0 rfl ?_
  refine z_iload_n ok dL_law_465 3 rfl ?_
  refine z_iconst ok dL_law_466 (x := 2) (by decide) ?_
  refine z_iadd_n ok dL_law_467 i 2 rfl rfl ?_
  refine z_sld ok sc dL_law_468 (i + 2) rfl (by omega) (by omega) ?_
  refine z_callVi ok old dL_law_469 [] (c_X2_listed G 54 (by omega) hg w (xs (i + 1)) (xs (i + 2))) zy_X2_listed zw_444 0 (by omega) (zE_0 G w) rfl rfl rfl rfl rfl (by decide) (Nat.le_of_ble_eq_true rfl) ?_
  refine z_aload_n ok dL_law_472 2 rfl ?_
  refine z_aload_n ok dL_law_473 0 rfl ?_
  refine z_iload_n ok dL_law_474 3 rfl ?_
  refine z_iconst ok dL_law_475 (x := 1) (by decide) ?_
  refine z_iadd_n ok dL_law_476 i 1 rfl rfl ?_
  refine z_sld ok sc dL_law_477 (i + 1) rfl (by omega) (by omega) ?_
  refine z_aload_n ok dL_law_478 0 rfl ?_
  refine z_iload_n ok dL_law_479 3 rfl ?_
  refine z_iconst ok dL_law_480 (x := 2) (by decide) ?_
  refine z_iadd_n ok dL_law_481 i 2 rfl rfl ?_
  refine z_sld ok sc dL_law_482 (i + 2) rfl (by omega) (by omega) ?_
  refine z_callVi ok old dL_law_483 [.int (d_X2_listed w (xs (i + 1)) (xs (i + 2)))] (c_X3_listed G 54 (by omega) hg w (xs (i + 1)) (xs (i + 2))) zy_X3_listed zw_718 47 (by omega) (zE_47 G w) rfl rfl rfl rfl rfl (by decide) (Nat.le_of_ble_eq_true rfl) ?_
  refine z_icmp_eq ok dL_law_486 655 (by decide) (fun _ => ?_) (fun c => ?_)
  · exact kn w A h
  · exact absurd hl c
set_option maxRecDepth 100000 in
set_option maxHeartbeats 4000000 in
theorem law_13 {k : zC} {G : zG} {b L i : Nat} {xs : Nat → Int32} (hg : zGeo G 54) (ok : zOk k G 54 cL_law RL 13 494) (old : zOld k G 54) (sc : zScr k b L xs) (hL : L ≤ 2560) (hi : i + 5 ≤ L) {w : xW} {A : xA} (h : zSim w A) (kn : ∀ u B, zSim u B → zZ k G 54 u 655 [(0, .ref b), (1, .ref (zad G 0)), (2, .ref (zad G 47)), (3, .int (nI i))] []) : zZ k G 54 w 491 [(0, .ref b), (1, .ref (zad G 0)), (2, .ref (zad G 47)), (3, .int (nI i))] [] := by
  have hl := P_struck h (xs (i + 1)) (xs (i + 2))
  refine z_aload_n ok dL_law_491 1 rfl ?_
  refine z_aload_n ok dL_law_492 0 rfl ?_
  refine z_iload_n ok dL_law_493 3 rfl ?_
  refine z_iconst ok dL_law_494 (x := 1) (by decide) ?_
  refine z_iadd_n ok dL_law_495 i 1 rfl rfl ?_
  refine z_sld ok sc dL_law_496 (i + 1) rfl (by omega) (by omega) ?_
  refine z_aload_n ok dL_law_497 0 rfl ?_
  refine z_iload_n ok dL_law_498 3 rfl ?_
  refine z_iconst ok dL_law_499 (x := 2) (by decide) ?_
  refine z_iadd_n ok dL_law_500 i 2 rfl rfl ?_
  refine z_sld ok sc dL_law_501 (i + 2) rfl (by omega) (by omega) ?_
  refine z_callVi ok old dL_law_502 [] (c_X2_struck G 54 (by omega) hg w (xs (i + 1)) (xs (i + 2))) zy_X2_struck zw_449 0 (by omega) (zE_0 G w) rfl rfl rfl rfl rfl (by decide) (Nat.le_of_ble_eq_true rfl) ?_
  refine z_aload_n ok dL_law_505 2 rfl ?_
  refine z_aload_n ok dL_law_506 0 rfl ?_
  refine z_iload_n ok dL_law_507 3 rfl ?_
  refine z_iconst ok dL_law_508 (x := 1) (by decide) ?_
  refine z_iadd_n ok dL_law_509 i 1 rfl rfl ?_
  refine z_sld ok sc dL_law_510 (i + 1) rfl (by omega) (by omega) ?_
  refine z_aload_n ok dL_law_511 0 rfl ?_
  refine z_iload_n ok dL_law_512 3 rfl ?_
  refine z_iconst ok dL_law_513 (x := 2) (by decide) ?_
  refine z_iadd_n ok dL_law_514 i 2 rfl rfl ?_
  refine z_sld ok sc dL_law_515 (i + 2) rfl (by omega) (by omega) ?_
  refine z_callVi ok old dL_law_516 [.int (d_X2_struck w (xs (i + 1)) (xs (i + 2))).1] (c_X3_struck G 54 (by omega) hg (d_X2_struck w (xs (i + 1)) (xs (i + 2))).2 (xs (i + 1)) (xs (i + 2))) zy_X3_struck zw_726 47 (by omega) (zE_47 G (d_X2_struck w (xs (i + 1)) (xs (i + 2))).2) rfl rfl rfl rfl rfl (by decide) (Nat.le_of_ble_eq_true rfl) ?_
  refine z_icmp_eq ok dL_law_519 655 (by decide) (fun _ => ?_) (fun c => ?_)
  · obtain ⟨B, hB⟩ := hl.2.1
    exact kn _ B hB
  · exact absurd hl.1 c
set_option maxRecDepth 100000 in
set_option maxHeartbeats 4000000 in
theorem law_14 {k : zC} {G : zG} {b L i : Nat} {xs : Nat → Int32} (hg : zGeo G 54) (ok : zOk k G 54 cL_law RL 13 494) (old : zOld k G 54) (sc : zScr k b L xs) (hL : L ≤ 2560) (hi : i + 5 ≤ L) {w : xW} {A : xA} (h : zSim w A) (kn : ∀ u B, zSim u B → zZ k G 54 u 655 [(0, .ref b), (1, .ref (zad G 0)), (2, .ref (zad G 47)), (3, .int (nI i))] []) : zZ k G 54 w 524 [(0, .ref b), (1, .ref (zad G 0)), (2, .ref (zad G 47)), (3, .int (nI i))] [] := by
  have hl := P_reach h (xs (i + 1)) (xs (i + 2))
  refine z_aload_n ok dL_law_524 1 rfl ?_
  refine z_aload_n ok dL_law_525 0 rfl ?_
  refine z_iload_n ok dL_law_526 3 rfl ?_
  refine z_iconst ok dL_law_527 (x := 1) (by decide) ?_
  refine z_iadd_n ok dL_law_528 i 1 rfl rfl ?_
  refine z_sld ok sc dL_law_529 (i + 1) rfl (by omega) (by omega) ?_
  refine z_aload_n ok dL_law_530 0 rfl ?_
  refine z_iload_n ok dL_law_531 3 rfl ?_
  refine z_iconst ok dL_law_532 (x := 2) (by decide) ?_
  refine z_iadd_n ok dL_law_533 i 2 rfl rfl ?_
  refine z_sld ok sc dL_law_534 (i + 2) rfl (by omega) (by omega) ?_
  refine z_callVi ok old dL_law_535 [] (c_X2_reach G 54 (by omega) hg w (xs (i + 1)) (xs (i + 2))) zy_X2_reach zw_455 0 (by omega) (zE_0 G w) rfl rfl rfl rfl rfl (by decide) (Nat.le_of_ble_eq_true rfl) ?_
  refine z_aload_n ok dL_law_538 2 rfl ?_
  refine z_aload_n ok dL_law_539 0 rfl ?_
  refine z_iload_n ok dL_law_540 3 rfl ?_
  refine z_iconst ok dL_law_541 (x := 1) (by decide) ?_
  refine z_iadd_n ok dL_law_542 i 1 rfl rfl ?_
  refine z_sld ok sc dL_law_543 (i + 1) rfl (by omega) (by omega) ?_
  refine z_aload_n ok dL_law_544 0 rfl ?_
  refine z_iload_n ok dL_law_545 3 rfl ?_
  refine z_iconst ok dL_law_546 (x := 2) (by decide) ?_
  refine z_iadd_n ok dL_law_547 i 2 rfl rfl ?_
  refine z_sld ok sc dL_law_548 (i + 2) rfl (by omega) (by omega) ?_
  refine z_callVi ok old dL_law_549 [.int (d_X2_reach w (xs (i + 1)) (xs (i + 2))).1] (c_X3_reach G 54 (by omega) hg (d_X2_reach w (xs (i + 1)) (xs (i + 2))).2 (xs (i + 1)) (xs (i + 2))) zy_X3_reach zw_738 47 (by omega) (zE_47 G (d_X2_reach w (xs (i + 1)) (xs (i + 2))).2) rfl rfl rfl rfl rfl (by decide) (Nat.le_of_ble_eq_true rfl) ?_
  refine z_icmp_eq ok dL_law_552 655 (by decide) (fun _ => ?_) (fun c => ?_)
  · obtain ⟨B, hB⟩ := hl.2.1
    exact kn _ B hB
  · exact absurd hl.1 c
set_option maxRecDepth 100000 in
set_option maxHeartbeats 4000000 in
theorem law_15 {k : zC} {G : zG} {b L i : Nat} {xs : Nat → Int32} (hg : zGeo G 54) (ok : zOk k G 54 cL_law RL 13 494) (old : zOld k G 54) (sc : zScr k b L xs) (hL : L ≤ 2560) (hi : i + 5 ≤ L) {w : xW} {A : xA} (h : zSim w A) (kn : ∀ u B, zSim u B → zZ k G 54 u 655 [(0, .ref b), (1, .ref (zad G 0)), (2, .ref (zad G 47)), (3, .int (nI i))] []) : zZ k G 54 w 557 [(0, .ref b), (1, .ref (zad G 0)), (2, .ref (zad G 47)), (3, .int (nI i))] [] := by
  have hl := P_replies h 
  refine z_aload_n ok dL_law_557 1 rfl ?_
  refine z_callVi ok old dL_law_558 [] (c_X2_replies G 54 (by omega) hg w ) zy_X2_replies zw_474 0 (by omega) (zE_0 G w) rfl rfl rfl rfl rfl (by decide) (Nat.le_of_ble_eq_true rfl) ?_
  refine z_aload_n ok dL_law_561 2 rfl ?_
  refine z_callVi ok old dL_law_562 [.int (d_X2_replies w).1] (c_X3_replies G 54 (by omega) hg (d_X2_replies w).2 ) zy_X3_replies zw_746 47 (by omega) (zE_47 G (d_X2_replies w).2) rfl rfl rfl rfl rfl (by decide) (Nat.le_of_ble_eq_true rfl) ?_
  refine z_icmp_eq ok dL_law_565 655 (by decide) (fun _ => ?_) (fun c => ?_)
  · obtain ⟨B, hB⟩ := hl.2.1
    exact kn _ B hB
  · exact absurd hl.1 c
set_option maxRecDepth 100000 in
set_option maxHeartbeats 4000000 in
theorem law_16 {k : zC} {G : zG} {b L i : Nat} {xs : Nat → Int32} (hg : zGeo G 54) (ok : zOk k G 54 cL_law RL 13 494) (old : zOld k G 54) (sc : zScr k b L xs) (hL : L ≤ 2560) (hi : i + 5 ≤ L) {w : xW} {A : xA} (h : zSim w A) (kn : ∀ u B, zSim u B → zZ k G 54 u 655 [(0, .ref b), (1, .ref (zad G 0)), (2, .ref (zad G 47)), (3, .int (nI i))] []) : zZ k G 54 w 570 [(0, .ref b), (1, .ref (zad G 0)), (2, .ref (zad G 47)), (3, .int (nI i))] [] := by
  have hl := P_best h 
  refine z_aload_n ok dL_law_570 1 rfl ?_
  refine z_callVi ok old dL_law_571 [] (c_X2_best G 54 (by omega) hg w ) zy_X2_best zw_482 0 (by omega) (zE_0 G w) rfl rfl rfl rfl rfl (by decide) (Nat.le_of_ble_eq_true rfl) ?_
  refine z_aload_n ok dL_law_574 2 rfl ?_
  refine z_callVi ok old dL_law_575 [.int (d_X2_best w).1] (c_X3_best G 54 (by omega) hg (d_X2_best w).2 ) zy_X3_best zw_754 47 (by omega) (zE_47 G (d_X2_best w).2) rfl rfl rfl rfl rfl (by decide) (Nat.le_of_ble_eq_true rfl) ?_
  refine z_icmp_eq ok dL_law_578 655 (by decide) (fun _ => ?_) (fun c => ?_)
  · obtain ⟨B, hB⟩ := hl.2.1
    exact kn _ B hB
  · exact absurd hl.1 c
set_option maxRecDepth 100000 in
set_option maxHeartbeats 4000000 in
theorem law_17 {k : zC} {G : zG} {b L i : Nat} {xs : Nat → Int32} (hg : zGeo G 54) (ok : zOk k G 54 cL_law RL 13 494) (old : zOld k G 54) (sc : zScr k b L xs) (hL : L ≤ 2560) (hi : i + 5 ≤ L) {w : xW} {A : xA} (h : zSim w A) (kn : ∀ u B, zSim u B → zZ k G 54 u 655 [(0, .ref b), (1, .ref (zad G 0)), (2, .ref (zad G 47)), (3, .int (nI i))] []) : zZ k G 54 w 583 [(0, .ref b), (1, .ref (zad G 0)), (2, .ref (zad G 47)), (3, .int (nI i))] [] := by
  have hl := P_type h (xs (i + 1))
  refine z_aload_n ok dL_law_583 1 rfl ?_
  refine z_aload_n ok dL_law_584 0 rfl ?_
  refine z_iload_n ok dL_law_585 3 rfl ?_
  refine z_iconst ok dL_law_586 (x := 1) (by decide) ?_
  refine z_iadd_n ok dL_law_587 i 1 rfl rfl ?_
  refine z_sld ok sc dL_law_588 (i + 1) rfl (by omega) (by omega) ?_
  refine z_callVi ok old dL_law_589 [] (c_X2_type G 54 (by omega) hg w (xs (i + 1))) zy_X2_type zw_491 0 (by omega) (zE_0 G w) rfl rfl rfl rfl rfl (by decide) (Nat.le_of_ble_eq_true rfl) ?_
  refine z_aload_n ok dL_law_592 2 rfl ?_
  refine z_aload_n ok dL_law_593 0 rfl ?_
  refine z_iload_n ok dL_law_594 3 rfl ?_
  refine z_iconst ok dL_law_595 (x := 1) (by decide) ?_
  refine z_iadd_n ok dL_law_596 i 1 rfl rfl ?_
  refine z_sld ok sc dL_law_597 (i + 1) rfl (by omega) (by omega) ?_
  refine z_callVi ok old dL_law_598 [.int (d_X2_type w (xs (i + 1))).1] (c_X3_type G 54 (by omega) hg (d_X2_type w (xs (i + 1))).2 (xs (i + 1)) hl.2.2.2) zy_X3_type zw_762 47 (by omega) (zE_47 G (d_X2_type w (xs (i + 1))).2) rfl rfl rfl rfl rfl (by decide) (Nat.le_of_ble_eq_true rfl) ?_
  refine z_icmp_eq ok dL_law_601 655 (by decide) (fun _ => ?_) (fun c => ?_)
  · obtain ⟨B, hB⟩ := hl.2.1
    exact kn _ B hB
  · exact absurd hl.1 c
set_option maxRecDepth 100000 in
set_option maxHeartbeats 4000000 in
theorem law_18 {k : zC} {G : zG} {b L i : Nat} {xs : Nat → Int32} (hg : zGeo G 54) (ok : zOk k G 54 cL_law RL 13 494) (old : zOld k G 54) (sc : zScr k b L xs) (hL : L ≤ 2560) (hi : i + 5 ≤ L) {w : xW} {A : xA} (h : zSim w A) (kn : ∀ u B, zSim u B → zZ k G 54 u 655 [(0, .ref b), (1, .ref (zad G 0)), (2, .ref (zad G 47)), (3, .int (nI i))] []) : zZ k G 54 w 606 [(0, .ref b), (1, .ref (zad G 0)), (2, .ref (zad G 47)), (3, .int (nI i))] [] := by
  have hl := P_clearText h 
  refine z_aload_n ok dL_law_606 1 rfl ?_
  refine z_callVi ok old dL_law_607 [] (c_X2_clearText G 54 (by omega) hg w ) zy_X2_clearText zw_495 0 (by omega) (zE_0 G w) rfl rfl rfl rfl rfl (by decide) (Nat.le_of_ble_eq_true rfl) ?_
  refine z_aload_n ok dL_law_610 2 rfl ?_
  refine z_callVi ok old dL_law_611 [.int (d_X2_clearText w).1] (c_X3_clearText G 54 (by omega) hg (d_X2_clearText w).2 ) zy_X3_clearText zw_766 47 (by omega) (zE_47 G (d_X2_clearText w).2) rfl rfl rfl rfl rfl (by decide) (Nat.le_of_ble_eq_true rfl) ?_
  refine z_icmp_eq ok dL_law_614 655 (by decide) (fun _ => ?_) (fun c => ?_)
  · obtain ⟨B, hB⟩ := hl.2.1
    exact kn _ B hB
  · exact absurd hl.1 c
set_option maxRecDepth 100000 in
set_option maxHeartbeats 4000000 in
theorem law_19 {k : zC} {G : zG} {b L i : Nat} {xs : Nat → Int32} (hg : zGeo G 54) (ok : zOk k G 54 cL_law RL 13 494) (old : zOld k G 54) (sc : zScr k b L xs) (hL : L ≤ 2560) (hi : i + 5 ≤ L) {w : xW} {A : xA} (h : zSim w A) (kn : ∀ u B, zSim u B → zZ k G 54 u 655 [(0, .ref b), (1, .ref (zad G 0)), (2, .ref (zad G 47)), (3, .int (nI i))] []) : zZ k G 54 w 619 [(0, .ref b), (1, .ref (zad G 0)), (2, .ref (zad G 47)), (3, .int (nI i))] [] := by
  have hl := P_fault h (xs (i + 1))
  refine z_aload_n ok dL_law_619 1 rfl ?_
  refine z_aload_n ok dL_law_620 0 rfl ?_
  refine z_iload_n ok dL_law_621 3 rfl ?_
  refine z_iconst ok dL_law_622 (x := 1) (by decide) ?_
  refine z_iadd_n ok dL_law_623 i 1 rfl rfl ?_
  refine z_sld ok sc dL_law_624 (i + 1) rfl (by omega) (by omega) ?_
  refine z_callVi ok old dL_law_625 [] (c_X2_fault G 54 (by omega) hg w (xs (i + 1))) zy_X2_fault zw_499 0 (by omega) (zE_0 G w) rfl rfl rfl rfl rfl (by decide) (Nat.le_of_ble_eq_true rfl) ?_
  refine z_aload_n ok dL_law_628 2 rfl ?_
  refine z_aload_n ok dL_law_629 0 rfl ?_
  refine z_iload_n ok dL_law_630 3 rfl ?_
  refine z_iconst ok dL_law_631 (x := 1) (by decide) ?_
  refine z_iadd_n ok dL_law_632 i 1 rfl rfl ?_
  refine z_sld ok sc dL_law_633 (i + 1) rfl (by omega) (by omega) ?_
  refine z_callVi ok old dL_law_634 [.int (d_X2_fault w (xs (i + 1))).1] (c_X3_fault G 54 (by omega) hg (d_X2_fault w (xs (i + 1))).2 (xs (i + 1)) hl.2.2.2) zy_X3_fault zw_770 47 (by omega) (zE_47 G (d_X2_fault w (xs (i + 1))).2) rfl rfl rfl rfl rfl (by decide) (Nat.le_of_ble_eq_true rfl) ?_
  refine z_icmp_eq ok dL_law_637 655 (by decide) (fun _ => ?_) (fun c => ?_)
  · obtain ⟨B, hB⟩ := hl.2.1
    exact kn _ B hB
  · exact absurd hl.1 c
set_option maxRecDepth 100000 in
set_option maxHeartbeats 4000000 in
theorem law_20 {k : zC} {G : zG} {b L i : Nat} {xs : Nat → Int32} (hg : zGeo G 54) (ok : zOk k G 54 cL_law RL 13 494) (old : zOld k G 54) (sc : zScr k b L xs) (hL : L ≤ 2560) (hi : i + 5 ≤ L) {w : xW} {A : xA} (h : zSim w A) (kn : ∀ u B, zSim u B → zZ k G 54 u 655 [(0, .ref b), (1, .ref (zad G 0)), (2, .ref (zad G 47)), (3, .int (nI i))] []) : zZ k G 54 w 642 [(0, .ref b), (1, .ref (zad G 0)), (2, .ref (zad G 47)), (3, .int (nI i))] [] := by
  have hl := P_play h 
  refine z_aload_n ok dL_law_642 1 rfl ?_
  refine z_callVi ok old dL_law_643 [] (c_X2_play G 54 (by omega) hg w ) zy_X2_play zw_519 0 (by omega) (zE_0 G w) rfl rfl rfl rfl rfl (by decide) (Nat.le_of_ble_eq_true rfl) ?_
  refine z_aload_n ok dL_law_646 2 rfl ?_
  refine z_callVi ok old dL_law_647 [.int (d_X2_play w).1] (c_X3_play G 54 (by omega) hg (d_X2_play w).2  hl.2.2.2 hl.2.2.1) zy_X3_play zw_794 47 (by omega) (zE_47 G (d_X2_play w).2) rfl rfl rfl rfl rfl (by decide) (Nat.le_of_ble_eq_true rfl) ?_
  refine z_icmp_eq ok dL_law_650 655 (by decide) (fun _ => ?_) (fun c => ?_)
  · obtain ⟨B, hB⟩ := hl.2.1
    exact kn _ B hB
  · exact absurd hl.1 c
theorem law_end {L i : Nat} (hL : L ≤ 2560) (hi : i ≤ L) (h : ¬ nI L - 5 < nI i) : i + 5 ≤ L := by
  refine Nat.le_of_not_lt fun q => h ?_
  rw [Int32.lt_iff_toInt_lt, show (5 : Int32) = nI 5 from rfl, pk_sub_toInt (by omega) (by omega), nI_toInt (by omega)]
  omega
set_option maxRecDepth 100000 in
set_option maxHeartbeats 4000000 in
theorem law_loop {k : zC} {G : zG} {b L : Nat} {xs : Nat → Int32} (hg : zGeo G 54) (ok : zOk k G 54 cL_law RL 13 494) (old : zOld k G 54) (sc : zScr k b L xs) (hI : ∀ i, i < 4 → zIn k i) (hL : L ≤ 2560) (fin : ∀ w lv, zZ k G 54 w 662 lv [.int 1]) : ∀ (n i : Nat) (w : xW) (A : xA), L < i + n → i ≤ L → zSim w A → zZ k G 54 w 18 [(0, .ref b), (1, .ref (zad G 0)), (2, .ref (zad G 47)), (3, .int (nI i))] [] := by
  intro n
  induction n with
  | zero => intro i w A h1 h2; omega
  | succ n ih =>
    intro i w A h1 h2 h
    refine z_iload_n ok dL_law_18 3 rfl ?_
    refine z_aload_n ok dL_law_19 0 rfl ?_
    refine z_slen ok sc dL_law_20 ?_
    refine z_iconst ok dL_law_21 (x := 5) (by decide) ?_
    refine z_isub ok dL_law_22 ?_
    refine z_icmp_gt ok dL_law_23 661 (by decide) (fun c => ?_) (fun c => ?_)
    · refine z_iconst ok dL_law_661 (x := 1) (by decide) ?_
      exact fin _ _
    · have hi := law_end hL h2 c
      refine z_aload_n ok dL_law_26 0 rfl ?_
      refine z_iload_n ok dL_law_27 3 rfl ?_
      refine z_sld ok sc dL_law_28 i rfl (by omega) (by omega) ?_
      refine z_bipush ok dL_law_29 (x := 31) (by decide) ?_
      refine z_iand ok dL_law_31 ?_
      have kn : ∀ u B, zSim u B → zZ k G 54 u 655 [(0, .ref b), (1, .ref (zad G 0)), (2, .ref (zad G 47)), (3, .int (nI i))] [] := by
        intro u B hB
        refine z_iinc ok dL_law_655 (hI 3 (by decide)) 3 rfl (y := nI (i + 5)) (z_incn i 5) (lv' := [(3, .int (nI (i + 5))), (0, .ref b), (1, .ref (zad G 0)), (2, .ref (zad G 47))]) rfl ?_
        refine z_goto ok dL_law_658 18 (by decide) ?_
        refine z_locs [1, 2, 3, 0] (lv' := [(0, .ref b), (1, .ref (zad G 0)), (2, .ref (zad G 47)), (3, .int (nI (i + 5)))]) rfl ?_
        exact ih (i + 5) u B (by omega) (by omega) hB
      obtain ⟨j, hj, ej⟩ := pk_andE (xs i) (m := 31) 5 (by decide)
      rw [ej]
      by_cases h21 : 21 ≤ j
      · refine z_tableOut ok dL_law_32 655 (Or.inr (by rw [nI_toInt (by omega)]; omega)) (by decide) ?_
        exact kn w A h
      · rcases (by omega : j = 0 ∨ j = 1 ∨ j = 2 ∨ j = 3 ∨ j = 4 ∨ j = 5 ∨ j = 6 ∨ j = 7 ∨ j = 8 ∨ j = 9 ∨ j = 10 ∨ j = 11 ∨ j = 12 ∨ j = 13 ∨ j = 14 ∨ j = 15 ∨ j = 16 ∨ j = 17 ∨ j = 18 ∨ j = 19 ∨ j = 20) with e | e | e | e | e | e | e | e | e | e | e | e | e | e | e | e | e | e | e | e | e
        · rw [e]
          refine z_tableIn ok dL_law_32 132 100 (by decide) ?_
          exact law_0 hg ok old sc hL hi h kn
        · rw [e]
          refine z_tableIn ok dL_law_32 145 113 (by decide) ?_
          exact law_1 hg ok old sc hL hi h kn
        · rw [e]
          refine z_tableIn ok dL_law_32 178 146 (by decide) ?_
          exact law_2 hg ok old sc hL hi h kn
        · rw [e]
          refine z_tableIn ok dL_law_32 231 199 (by decide) ?_
          exact law_3 hg ok old sc hL hi h kn
        · rw [e]
          refine z_tableIn ok dL_law_32 254 222 (by decide) ?_
          exact law_4 hg ok old sc hL hi h kn
        · rw [e]
          refine z_tableIn ok dL_law_32 287 255 (by decide) ?_
          exact law_5 hg ok old sc hL hi h kn
        · rw [e]
          refine z_tableIn ok dL_law_32 310 278 (by decide) ?_
          exact law_6 hg ok old sc hL hi h kn
        · rw [e]
          refine z_tableIn ok dL_law_32 323 291 (by decide) ?_
          exact law_7 hg ok old sc hL hi h kn
        · rw [e]
          refine z_tableIn ok dL_law_32 356 324 (by decide) ?_
          exact law_8 hg ok old sc hL hi h kn
        · rw [e]
          refine z_tableIn ok dL_law_32 369 337 (by decide) ?_
          exact law_9 hg ok old sc hL hi h kn
        · rw [e]
          refine z_tableIn ok dL_law_32 402 370 (by decide) ?_
          exact law_10 hg ok old sc hL hi h kn
        · rw [e]
          refine z_tableIn ok dL_law_32 435 403 (by decide) ?_
          exact law_11 hg ok old sc hL hi h kn
        · rw [e]
          refine z_tableIn ok dL_law_32 458 426 (by decide) ?_
          exact law_12 hg ok old sc hL hi h kn
        · rw [e]
          refine z_tableIn ok dL_law_32 491 459 (by decide) ?_
          exact law_13 hg ok old sc hL hi h kn
        · rw [e]
          refine z_tableIn ok dL_law_32 524 492 (by decide) ?_
          exact law_14 hg ok old sc hL hi h kn
        · rw [e]
          refine z_tableIn ok dL_law_32 557 525 (by decide) ?_
          exact law_15 hg ok old sc hL hi h kn
        · rw [e]
          refine z_tableIn ok dL_law_32 570 538 (by decide) ?_
          exact law_16 hg ok old sc hL hi h kn
        · rw [e]
          refine z_tableIn ok dL_law_32 583 551 (by decide) ?_
          exact law_17 hg ok old sc hL hi h kn
        · rw [e]
          refine z_tableIn ok dL_law_32 606 574 (by decide) ?_
          exact law_18 hg ok old sc hL hi h kn
        · rw [e]
          refine z_tableIn ok dL_law_32 619 587 (by decide) ?_
          exact law_19 hg ok old sc hL hi h kn
        · rw [e]
          refine z_tableIn ok dL_law_32 642 610 (by decide) ?_
          exact law_20 hg ok old sc hL hi h kn
