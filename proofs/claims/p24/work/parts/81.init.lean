/-! the makers of boards and games -/
def bArr (E : yD) (n : Nat) : va_E := .inl (E.2.1, n, .inl (fun _ => 0))
def bBoard (E : yD) (q : Nat) (u : Nat × Nat × Nat × Nat) : va_W := [(q, .inr (0, [.ref u.1, .ref u.2.1, .ref u.2.2.1, .ref u.2.2.2])), (u.1, bArr E 36), (u.2.1, bArr E 36), (u.2.2.1, bArr E 36), (u.2.2.2, bArr E 36)]
def bGame (E : yD) (q : Nat) (u : Nat × Nat × Nat × Nat × Nat) : va_W := (q, .inr (1, [.ref u.1, .int 9, .int 1, .int 2, .int 0, .int 0, .int (-1), .int 0, .int 0, .int 0, .int 0, .int 0, .int 0, .int 0, .int 0])) :: bBoard E u.1 u.2
theorem yi_X0 : zYI yX0_init cX0_init 1 := ⟨zw_71, zw_50, zw_72, by decide +kernel⟩
theorem yi_X1 : zYI yX1_init cX1_init 1 := ⟨zw_65, zw_49, zw_66, by decide +kernel⟩
theorem yi_X2 : zYI yX2_init cX2_init 2 := ⟨zw_57, zw_48, zw_58, by decide +kernel⟩
set_option maxRecDepth 100000 in
set_option maxHeartbeats 4000000 in
theorem i_Board (E : yD) (q : Nat) : zI yX0_init cX0_init 1 1 12 4 144 E q [(q, .inr (0, [.null, .null, .null, .null]))] (fun _ : Nat × Nat × Nat × Nat => True) (bBoard E q) := by
  refine zI_of (by decide +kernel) rfl (by decide) (fun k ok hin hE hO hI => ?_)
  refine y_aload_n ok dX0_init_0 0 rfl ?_
  refine y_objinit ok zw_73 dX0_init_1 (by decide) ?_
  refine y_aload_n ok dX0_init_4 0 rfl ?_
  refine y_bipush ok dX0_init_5 (x := 36) (by decide) ?_
  refine y_newi ok dX0_init_7 36 rfl (by decide) (by decide) (fun a1 => ?_)
  refine y_ws (ws' := (q, .inr (0, [.null, .null, .null, .null])) :: [(a1, bArr E 36)]) rfl ?_
  refine y_putF ok hin dX0_init_9 (ci := 0) (C := RX0) (T := TX0) (n := 4) rfl zu_X0 tyX0 tyX0_ok nmX0 0 (by decide) zw_74 ⟨rfl, rfl, rfl⟩ (tyX0_ok 0 (by decide)) rfl rfl (Nat.le_of_ble_eq_true rfl) ?_
  refine y_ws (ws' := (q, .inr (0, [.ref a1, .null, .null, .null])) :: [(a1, bArr E 36)]) rfl ?_
  refine y_aload_n ok dX0_init_12 0 rfl ?_
  refine y_bipush ok dX0_init_13 (x := 36) (by decide) ?_
  refine y_newi ok dX0_init_15 36 rfl (by decide) (by decide) (fun a2 => ?_)
  refine y_ws (ws' := (q, .inr (0, [.ref a1, .null, .null, .null])) :: [(a1, bArr E 36), (a2, bArr E 36)]) rfl ?_
  refine y_putF ok hin dX0_init_17 (ci := 0) (C := RX0) (T := TX0) (n := 4) rfl zu_X0 tyX0 tyX0_ok nmX0 1 (by decide) zw_75 ⟨rfl, rfl, rfl⟩ (tyX0_ok 1 (by decide)) rfl rfl (Nat.le_of_ble_eq_true rfl) ?_
  refine y_ws (ws' := (q, .inr (0, [.ref a1, .ref a2, .null, .null])) :: [(a1, bArr E 36), (a2, bArr E 36)]) rfl ?_
  refine y_aload_n ok dX0_init_20 0 rfl ?_
  refine y_bipush ok dX0_init_21 (x := 36) (by decide) ?_
  refine y_newi ok dX0_init_23 36 rfl (by decide) (by decide) (fun a3 => ?_)
  refine y_ws (ws' := (q, .inr (0, [.ref a1, .ref a2, .null, .null])) :: [(a1, bArr E 36), (a2, bArr E 36), (a3, bArr E 36)]) rfl ?_
  refine y_putF ok hin dX0_init_25 (ci := 0) (C := RX0) (T := TX0) (n := 4) rfl zu_X0 tyX0 tyX0_ok nmX0 2 (by decide) zw_76 ⟨rfl, rfl, rfl⟩ (tyX0_ok 2 (by decide)) rfl rfl (Nat.le_of_ble_eq_true rfl) ?_
  refine y_ws (ws' := (q, .inr (0, [.ref a1, .ref a2, .ref a3, .null])) :: [(a1, bArr E 36), (a2, bArr E 36), (a3, bArr E 36)]) rfl ?_
  refine y_aload_n ok dX0_init_28 0 rfl ?_
  refine y_bipush ok dX0_init_29 (x := 36) (by decide) ?_
  refine y_newi ok dX0_init_31 36 rfl (by decide) (by decide) (fun a4 => ?_)
  refine y_ws (ws' := (q, .inr (0, [.ref a1, .ref a2, .ref a3, .null])) :: [(a1, bArr E 36), (a2, bArr E 36), (a3, bArr E 36), (a4, bArr E 36)]) rfl ?_
  refine y_putF ok hin dX0_init_33 (ci := 0) (C := RX0) (T := TX0) (n := 4) rfl zu_X0 tyX0 tyX0_ok nmX0 3 (by decide) zw_77 ⟨rfl, rfl, rfl⟩ (tyX0_ok 3 (by decide)) rfl rfl (Nat.le_of_ble_eq_true rfl) ?_
  refine y_ws (ws' := (q, .inr (0, [.ref a1, .ref a2, .ref a3, .ref a4])) :: [(a1, bArr E 36), (a2, bArr E 36), (a3, bArr E 36), (a4, bArr E 36)]) rfl ?_
  exact y_vret ok hE dX0_init_36 (a1, a2, a3, a4) trivial rfl
set_option maxRecDepth 100000 in
set_option maxHeartbeats 4000000 in
theorem i_Game (E : yD) (q : Nat) : zI yX1_init cX1_init 1 2 32 5 148 E q [(q, .inr (1, [.null, .int 0, .int 0, .int 0, .int 0, .int 0, .int 0, .int 0, .int 0, .int 0, .int 0, .int 0, .int 0, .int 0, .int 0]))] (fun _ : Nat × Nat × Nat × Nat × Nat => True) (bGame E q) := by
  refine zI_of (by decide +kernel) rfl (by decide) (fun k ok hin hE hO hI => ?_)
  refine y_aload_n ok dX1_init_0 0 rfl ?_
  refine y_objinit ok zw_67 dX1_init_1 (by decide) ?_
  refine y_aload_n ok dX1_init_4 0 rfl ?_
  refine y_new ok dX1_init_5 (ci := 0) (fs := [.null, .null, .null, .null]) (C := RX0) (T := TX0) (n := 4) zu_X0 tyX0 tyX0_ok zw_68 zw_69 zw_50 rfl (fun j hj => by rcases (show j = 0 ∨ j = 1 ∨ j = 2 ∨ j = 3 by omega) with rfl | rfl | rfl | rfl <;> rfl) (by decide) (fun b => ?_)
  refine y_dup ok dX1_init_8 rfl ?_
  refine y_ctorN ok dX1_init_9 (i_Board E b) yi_X0 zw_70 (by decide) (Nat.le_of_ble_eq_true rfl) (by decide) (fun u _ => ?_)
  refine y_ws (ws' := (q, .inr (1, [.null, .int 0, .int 0, .int 0, .int 0, .int 0, .int 0, .int 0, .int 0, .int 0, .int 0, .int 0, .int 0, .int 0, .int 0])) :: bBoard E b u) rfl ?_
  refine y_putF ok hin dX1_init_12 (ci := 1) (C := RX1) (T := TX1) (n := 15) rfl zu_X1 tyX1 tyX1_ok nmX1 0 (by decide) zw_88 ⟨rfl, rfl, rfl⟩ (tyX1_ok 0 (by decide)) rfl rfl (Nat.le_of_ble_eq_true rfl) ?_
  refine y_ws (ws' := (q, .inr (1, [.ref b, .int 0, .int 0, .int 0, .int 0, .int 0, .int 0, .int 0, .int 0, .int 0, .int 0, .int 0, .int 0, .int 0, .int 0])) :: bBoard E b u) rfl ?_
  refine y_aload_n ok dX1_init_15 0 rfl ?_
  refine y_bipush ok dX1_init_16 (x := 9) (by decide) ?_
  refine y_put ok dX1_init_18 (ci := 1) (C := RX1) (T := TX1) (n := 15) rfl zu_X1 tyX1 tyX1_ok nmX1 1 (by decide) zw_90 ⟨rfl, rfl⟩ (tyX1_ok 1 (by decide)) rfl rfl (Nat.le_of_ble_eq_true rfl) ?_
  refine y_ws (ws' := (q, .inr (1, [.ref b, .int 9, .int 0, .int 0, .int 0, .int 0, .int 0, .int 0, .int 0, .int 0, .int 0, .int 0, .int 0, .int 0, .int 0])) :: bBoard E b u) rfl ?_
  refine y_aload_n ok dX1_init_21 0 rfl ?_
  refine y_iconst ok dX1_init_22 (x := 1) (by decide) ?_
  refine y_put ok dX1_init_23 (ci := 1) (C := RX1) (T := TX1) (n := 15) rfl zu_X1 tyX1 tyX1_ok nmX1 2 (by decide) zw_92 ⟨rfl, rfl⟩ (tyX1_ok 2 (by decide)) rfl rfl (Nat.le_of_ble_eq_true rfl) ?_
  refine y_ws (ws' := (q, .inr (1, [.ref b, .int 9, .int 1, .int 0, .int 0, .int 0, .int 0, .int 0, .int 0, .int 0, .int 0, .int 0, .int 0, .int 0, .int 0])) :: bBoard E b u) rfl ?_
  refine y_aload_n ok dX1_init_26 0 rfl ?_
  refine y_iconst ok dX1_init_27 (x := 2) (by decide) ?_
  refine y_put ok dX1_init_28 (ci := 1) (C := RX1) (T := TX1) (n := 15) rfl zu_X1 tyX1 tyX1_ok nmX1 3 (by decide) zw_93 ⟨rfl, rfl⟩ (tyX1_ok 3 (by decide)) rfl rfl (Nat.le_of_ble_eq_true rfl) ?_
  refine y_ws (ws' := (q, .inr (1, [.ref b, .int 9, .int 1, .int 2, .int 0, .int 0, .int 0, .int 0, .int 0, .int 0, .int 0, .int 0, .int 0, .int 0, .int 0])) :: bBoard E b u) rfl ?_
  refine y_aload_n ok dX1_init_31 0 rfl ?_
  refine y_iconst ok dX1_init_32 (x := -1) (by decide) ?_
  refine y_put ok dX1_init_33 (ci := 1) (C := RX1) (T := TX1) (n := 15) rfl zu_X1 tyX1 tyX1_ok nmX1 6 (by decide) zw_98 ⟨rfl, rfl⟩ (tyX1_ok 6 (by decide)) rfl rfl (Nat.le_of_ble_eq_true rfl) ?_
  refine y_ws (ws' := (q, .inr (1, [.ref b, .int 9, .int 1, .int 2, .int 0, .int 0, .int (-1), .int 0, .int 0, .int 0, .int 0, .int 0, .int 0, .int 0, .int 0])) :: bBoard E b u) rfl ?_
  exact y_vret ok hE dX1_init_36 (b, u) trivial rfl
