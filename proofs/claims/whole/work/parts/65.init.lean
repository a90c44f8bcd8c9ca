/-! the model's maker, beside the class's world -/
theorem zE_ad {G G' : zG} (h1 : G'.1 = G.1) (h2 : G'.2.1 = G.2.1) (h3 : G'.2.2.1 = G.2.2.1) (h4 : G'.2.2.2.1 = G.2.2.2.1) (h : ∀ i, i < 47 → zad G' i = zad G i) (w : xW) {i : Nat} (hi : i < 47) : zE G' w i = zE G w i := by
  have hr : ∀ j, zad G' (zpr w j) = zad G (zpr w j) := fun j => h _ (by have := zpr_lt w j; omega)
  by_cases i0 : i = 0
  · subst i0
    rw [zE_0, zE_0, zOuter, zOuter, h 5 (by decide), h 11 (by decide), h 1 (by decide), h 2 (by decide), hr, hr]
  by_cases i1 : i = 1
  · subst i1
    rw [zE_1, zE_1, zRefs, zRefs, h4]
    have : (fun j => if j < 5 then some (zad G' (5 + 6 * zpg w j)) else none) = (fun j => if j < 5 then some (zad G (5 + 6 * zpg w j)) else none) := by
      funext j
      rw [h _ (by have := zpg_lt w j; omega)]
    rw [this]
  by_cases i2 : i = 2
  · subst i2; rw [zE_2, zE_2, h3]
  by_cases i3 : i = 3
  · subst i3; rw [zE_3, zE_3, h2]
  by_cases i4 : i = 4
  · subst i4; rw [zE_4, zE_4, h2]
  obtain ⟨g, r, hg, hr6, e⟩ : ∃ g r, g < 7 ∧ r < 6 ∧ i = 5 + r + 6 * g := ⟨(i - 5) / 6, (i - 5) % 6, by omega, by omega, by omega⟩
  subst e
  by_cases r0 : r = 0
  · subst r0
    rw [show 5 + 0 + 6 * g = 5 + 6 * g by omega, zE_game _ _ hg, zE_game _ _ hg, zGame, zGame, h _ (by omega)]
  by_cases r1 : r = 1
  · subst r1
    rw [show 5 + 1 + 6 * g = 6 + 6 * g by omega, zE_board _ _ hg, zE_board _ _ hg, zBoard, zBoard, h _ (by omega), h _ (by omega), h _ (by omega), h _ (by omega)]
  obtain ⟨r', e⟩ : ∃ r', r = r' + 2 := ⟨r - 2, by omega⟩
  subst e
  rw [show 5 + (r' + 2) + 6 * g = 7 + r' + 6 * g by omega, zE_arr _ _ hg (by omega), zE_arr _ _ hg (by omega), h2]
def adm (ad : Nat → Nat) (q : Nat) (a : Nat × Nat × Nat × Nat × Nat × Nat) : Nat → Nat := fun i => if i < 47 then ad i else [q, a.1, a.2.1, a.2.2.1, a.2.2.2.1, a.2.2.2.2.1, a.2.2.2.2.2].getD (i - 47) 0
theorem zws_47 (E : yD) (ad : Nat → Nat) (q : Nat) (a : Nat × Nat × Nat × Nat × Nat × Nat) (w : xW) : zws (Gc E (adm ad q a)) 47 w = zws (Gc E ad) 47 w := by
  have h : ∀ i, i < 47 → zad (Gc E (adm ad q a)) i = zad (Gc E ad) i := fun i hi => if_pos hi
  refine List.map_congr_left fun i hi => ?_
  have hi' := List.mem_range.mp hi
  rw [h i hi', zE_ad (G := Gc E ad) (G' := Gc E (adm ad q a)) rfl rfl rfl rfl h w hi']
/-- the model's part of the world is empty -/
def zM0 (w : xW) : Prop := ∀ v, 11 ≤ v → ∀ j, w.1 v j = 0
theorem zws_54 (E : yD) (ad : Nat → Nat) (q : Nat) (a : Nat × Nat × Nat × Nat × Nat × Nat) {w : xW} (h : zM0 w) : zws (Gc E (adm ad q a)) 54 w = zws (Gc E ad) 47 w ++ [(q, .inr (3, [.ref a.1, .ref a.2.1, .ref a.2.2.1, .int 0, .ref a.2.2.2.1, .int 0, .ref a.2.2.2.2.1, .ref a.2.2.2.2.2, .int 0, .int 0, .int 0, .int 0, .int 0])), (a.1, bArr E 159), (a.2.1, bArr E 795), (a.2.2.1, bArr E 159), (a.2.2.2.1, bArr E 80), (a.2.2.2.2.1, bArr E 36), (a.2.2.2.2.2, bArr E 36)] := by
  obtain ⟨G, hG⟩ : ∃ G, G = Gc E (adm ad q a) := ⟨_, rfl⟩
  have e47 : zE G w 47 = .inr (3, [.ref (zad G 48), .ref (zad G 49), .ref (zad G 50), .int 0, .ref (zad G 51), .int 0, .ref (zad G 52), .ref (zad G 53), .int 0, .int 0, .int 0, .int 0, .int 0]) := by
    rw [zE_47, zModel, xg_row, xg_row, xg_row, xg_row, xg_row, xg_row, xg_row, h 17 (by decide), h 17 (by decide), h 17 (by decide), h 17 (by decide), h 17 (by decide), h 17 (by decide), h 17 (by decide)]
  have e48 : zE G w 48 = .inl (G.2.1, 159, .inl (fun _ => 0)) := (zE_48 G w).trans (zArr_zero fun j _ => h 11 (by decide) _)
  have e49 : zE G w 49 = .inl (G.2.1, 795, .inl (fun _ => 0)) := (zE_49 G w).trans (zArr_zero fun j _ => h 12 (by decide) _)
  have e50 : zE G w 50 = .inl (G.2.1, 159, .inl (fun _ => 0)) := (zE_50 G w).trans (zArr_zero fun j _ => h 13 (by decide) _)
  have e51 : zE G w 51 = .inl (G.2.1, 80, .inl (fun _ => 0)) := (zE_51 G w).trans (zArr_zero fun j _ => h 14 (by decide) _)
  have e52 : zE G w 52 = .inl (G.2.1, 36, .inl (fun _ => 0)) := (zE_52 G w).trans (zArr_zero fun j _ => h 15 (by decide) _)
  have e53 : zE G w 53 = .inl (G.2.1, 36, .inl (fun _ => 0)) := (zE_53 G w).trans (zArr_zero fun j _ => h 16 (by decide) _)
  have hs : zws G 54 w = zws G 47 w ++ [(zad G 47, zE G w 47), (zad G 48, zE G w 48), (zad G 49, zE G w 49), (zad G 50, zE G w 50), (zad G 51, zE G w 51), (zad G 52, zE G w 52), (zad G 53, zE G w 53)] := by
    unfold zws
    rw [show List.range 54 = List.range 47 ++ [47, 48, 49, 50, 51, 52, 53] from rfl, List.map_append]
    rfl
  rw [← hG, hs, e47, e48, e49, e50, e51, e52, e53, hG, zws_47]
  rfl
section YF
variable {k : zC} {E : yD} {cells slots pc : Nat} {lv : List (Nat × Value)} {st : List Value}
/-- the first cell told behind those of a world -/
theorem y_front {Z Y : va_W} {c : Nat × va_E} (kk : yY k E (Z ++ c :: Y) cells slots pc lv st) : yY k E (c :: (Z ++ Y)) cells slots pc lv st := by
  obtain ⟨p, l, e, R, s, m, args, below, meth, c0, Q, A, nL, _, _⟩ := k
  intro H locs ls hP hD hS hl
  have hZ : ∀ (j : Nat) (q : Nat × va_E), Z[j]? = some q → (c :: (Z ++ Y))[j + 1]? = some q ∧ j < Z.length := by
    intro j q hj
    have := (List.getElem?_eq_some_iff.mp hj).1
    exact ⟨by rw [List.getElem?_cons_succ, List.getElem?_append_left this]; exact hj, this⟩
  have hY : ∀ (j : Nat) (q : Nat × va_E), Y[j]? = some q → (c :: (Z ++ Y))[Z.length + j + 1]? = some q := by
    intro j q hj
    rw [List.getElem?_cons_succ, List.getElem?_append_right (by omega), show Z.length + j - Z.length = j by omega]; exact hj
  have hcY : ∀ (j : Nat) (q : Nat × va_E), (c :: Y)[j]? = some q → (j = 0 ∧ q = c) ∨ (∃ i, j = i + 1 ∧ Y[i]? = some q) := by
    intro j q hj
    cases j with
    | zero => exact Or.inl ⟨rfl, (Option.some.inj hj).symm⟩
    | succ i => exact Or.inr ⟨i, rfl, hj⟩
  have hcp : ∀ (j : Nat) (q : Nat × va_E), (c :: Y)[j]? = some q → ∃ i, (c :: (Z ++ Y))[i]? = some q ∧ (i = 0 ∨ Z.length + 1 ≤ i) ∧ (i = 0 → j = 0) ∧ (¬ i = 0 → i = Z.length + j) := by
    intro j q hj
    rcases hcY j q hj with ⟨e1, e2⟩ | ⟨i, e1, e2⟩
    · exact ⟨0, by rw [e2]; rfl, Or.inl rfl, fun _ => e1, fun h => absurd rfl h⟩
    · exact ⟨Z.length + i + 1, hY i q e2, Or.inr (by omega), fun h => by omega, fun _ => by omega⟩
  have hPZ : va_P E.1 vwCl Z H := fun j q hj => hP _ q (hZ j q hj).1
  have hDZ : va_D A Z := ⟨fun i j p q hi hj e => by have := hD.1 _ _ p q (hZ i p hi).1 (hZ j q hj).1 e; omega, fun j q hj => hD.2 _ q (hZ j q hj).1⟩
  have hPc : va_P E.1 vwCl (c :: Y) H := fun j q hj => by
    obtain ⟨i, h1, -⟩ := hcp j q hj
    exact hP i q h1
  have hDc : va_D A (c :: Y) := ⟨fun i j p q hi hj e => by
    obtain ⟨a, a1, a2, a3, a4⟩ := hcp i p hi
    obtain ⟨b, b1, b2, b3, b4⟩ := hcp j q hj
    have := hD.1 a b p q a1 b1 e
    by_cases z : a = 0
    · rw [a3 z, b3 (by omega)]
    · have := a4 z
      have := b4 (by omega)
      omega, fun j q hj => by
    obtain ⟨i, h1, -⟩ := hcp j q hj
    exact hD.2 i q h1⟩
  refine kk H locs ls (hPZ.app hPc) (hDZ.app hDc (fun i j p q hi hj e => ?_)) hS hl
  obtain ⟨b, b1, b2, -⟩ := hcp j q hj
  have := hD.1 _ _ p q (hZ i p hi).1 b1 e
  have := (hZ i p hi).2
  omega
end YF
/-- the world as both makers leave it -/
def w02 : xW := d_X3_begins (xs (xs (xs w01 11 149 9) 11 150 1) 11 151 2)

set_option maxRecDepth 100000 in
set_option maxHeartbeats 4000000 in
theorem i_Model (E : yD) (q : Nat) (ad : Nat → Nat) (h0 : zM0 w01) : zI yX3_init cX3_init 1 3 66 6 1265 E q (zws (Gc E ad) 47 w01 ++ [(q, .inr (3, [.null, .null, .null, .int 0, .null, .int 0, .null, .null, .int 0, .int 0, .int 0, .int 0, .int 0]))]) (fun ad2 : Nat → Nat => (∀ i, i < 47 → ad2 i = ad i) ∧ ad2 47 = q) (fun ad2 => zws (Gc E ad2) 54 w02) := by
  refine zI_of (by decide +kernel) rfl (by decide) (fun k ok hin hE hO hI => ?_)
  refine y_rot ?_
  obtain ⟨Z, hZ⟩ : ∃ Z, Z = zws (Gc E ad) 47 w01 := ⟨_, rfl⟩
  rw [← hZ]
  refine y_aload_n ok dX3_init_0 0 rfl ?_
  refine y_objinit ok zw_532 dX3_init_1 (by decide) ?_
  refine y_aload_n ok dX3_init_4 0 rfl ?_
  refine y_sipush ok dX3_init_5 (x := 159) (by decide +kernel) ?_
  refine y_newi ok dX3_init_8 159 rfl (by decide) ⟨Nat.le_of_ble_eq_true rfl, Nat.le_of_ble_eq_true rfl⟩ (fun a1 => ?_)
  refine y_ws (ws' := (q, .inr (3, [.null, .null, .null, .int 0, .null, .int 0, .null, .null, .int 0, .int 0, .int 0, .int 0, .int 0])) :: (Z ++ [(a1, bArr E 159)])) rfl ?_
  refine y_putF ok hin dX3_init_10 (ci := 3) (C := RX3) (T := TX3) (n := 13) rfl zu_X3 tyX3 tyX3_ok nmX3 0 (by decide) zw_549 ⟨rfl, rfl, rfl⟩ (tyX3_ok 0 (by decide)) rfl rfl (Nat.le_of_ble_eq_true rfl) ?_
  refine y_ws (ws' := (q, .inr (3, [.ref a1, .null, .null, .int 0, .null, .int 0, .null, .null, .int 0, .int 0, .int 0, .int 0, .int 0])) :: (Z ++ [(a1, bArr E 159)])) rfl ?_
  refine y_aload_n ok dX3_init_13 0 rfl ?_
  refine y_sipush ok dX3_init_14 (x := 795) (by decide +kernel) ?_
  refine y_newi ok dX3_init_17 795 rfl (by decide) ⟨Nat.le_of_ble_eq_true rfl, Nat.le_of_ble_eq_true rfl⟩ (fun a2 => ?_)
  refine y_ws (ws' := (q, .inr (3, [.ref a1, .null, .null, .int 0, .null, .int 0, .null, .null, .int 0, .int 0, .int 0, .int 0, .int 0])) :: (Z ++ [(a1, bArr E 159), (a2, bArr E 795)])) (by rw [List.cons_append, List.append_assoc]; rfl) ?_
  refine y_putF ok hin dX3_init_19 (ci := 3) (C := RX3) (T := TX3) (n := 13) rfl zu_X3 tyX3 tyX3_ok nmX3 1 (by decide) zw_550 ⟨rfl, rfl, rfl⟩ (tyX3_ok 1 (by decide)) rfl rfl (Nat.le_of_ble_eq_true rfl) ?_
  refine y_ws (ws' := (q, .inr (3, [.ref a1, .ref a2, .null, .int 0, .null, .int 0, .null, .null, .int 0, .int 0, .int 0, .int 0, .int 0])) :: (Z ++ [(a1, bArr E 159), (a2, bArr E 795)])) rfl ?_
  refine y_aload_n ok dX3_init_22 0 rfl ?_
  refine y_sipush ok dX3_init_23 (x := 159) (by decide +kernel) ?_
  refine y_newi ok dX3_init_26 159 rfl (by decide) ⟨Nat.le_of_ble_eq_true rfl, Nat.le_of_ble_eq_true rfl⟩ (fun a3 => ?_)
  refine y_ws (ws' := (q, .inr (3, [.ref a1, .ref a2, .null, .int 0, .null, .int 0, .null, .null, .int 0, .int 0, .int 0, .int 0, .int 0])) :: (Z ++ [(a1, bArr E 159), (a2, bArr E 795), (a3, bArr E 159)])) (by rw [List.cons_append, List.append_assoc]; rfl) ?_
  refine y_putF ok hin dX3_init_28 (ci := 3) (C := RX3) (T := TX3) (n := 13) rfl zu_X3 tyX3 tyX3_ok nmX3 2 (by decide) zw_551 ⟨rfl, rfl, rfl⟩ (tyX3_ok 2 (by decide)) rfl rfl (Nat.le_of_ble_eq_true rfl) ?_
  refine y_ws (ws' := (q, .inr (3, [.ref a1, .ref a2, .ref a3, .int 0, .null, .int 0, .null, .null, .int 0, .int 0, .int 0, .int 0, .int 0])) :: (Z ++ [(a1, bArr E 159), (a2, bArr E 795), (a3, bArr E 159)])) rfl ?_
  refine y_aload_n ok dX3_init_31 0 rfl ?_
  refine y_bipush ok dX3_init_32 (x := 80) (by decide +kernel) ?_
  refine y_newi ok dX3_init_34 80 rfl (by decide) ⟨Nat.le_of_ble_eq_true rfl, Nat.le_of_ble_eq_true rfl⟩ (fun a4 => ?_)
  refine y_ws (ws' := (q, .inr (3, [.ref a1, .ref a2, .ref a3, .int 0, .null, .int 0, .null, .null, .int 0, .int 0, .int 0, .int 0, .int 0])) :: (Z ++ [(a1, bArr E 159), (a2, bArr E 795), (a3, bArr E 159), (a4, bArr E 80)])) (by rw [List.cons_append, List.append_assoc]; rfl) ?_
  refine y_putF ok hin dX3_init_36 (ci := 3) (C := RX3) (T := TX3) (n := 13) rfl zu_X3 tyX3 tyX3_ok nmX3 4 (by decide) zw_553 ⟨rfl, rfl, rfl⟩ (tyX3_ok 4 (by decide)) rfl rfl (Nat.le_of_ble_eq_true rfl) ?_
  refine y_ws (ws' := (q, .inr (3, [.ref a1, .ref a2, .ref a3, .int 0, .ref a4, .int 0, .null, .null, .int 0, .int 0, .int 0, .int 0, .int 0])) :: (Z ++ [(a1, bArr E 159), (a2, bArr E 795), (a3, bArr E 159), (a4, bArr E 80)])) rfl ?_
  refine y_aload_n ok dX3_init_39 0 rfl ?_
  refine y_bipush ok dX3_init_40 (x := 36) (by decide +kernel) ?_
  refine y_newi ok dX3_init_42 36 rfl (by decide) ⟨Nat.le_of_ble_eq_true rfl, Nat.le_of_ble_eq_true rfl⟩ (fun a5 => ?_)
  refine y_ws (ws' := (q, .inr (3, [.ref a1, .ref a2, .ref a3, .int 0, .ref a4, .int 0, .null, .null, .int 0, .int 0, .int 0, .int 0, .int 0])) :: (Z ++ [(a1, bArr E 159), (a2, bArr E 795), (a3, bArr E 159), (a4, bArr E 80), (a5, bArr E 36)])) (by rw [List.cons_append, List.append_assoc]; rfl) ?_
  refine y_putF ok hin dX3_init_44 (ci := 3) (C := RX3) (T := TX3) (n := 13) rfl zu_X3 tyX3 tyX3_ok nmX3 6 (by decide) zw_555 ⟨rfl, rfl, rfl⟩ (tyX3_ok 6 (by decide)) rfl rfl (Nat.le_of_ble_eq_true rfl) ?_
  refine y_ws (ws' := (q, .inr (3, [.ref a1, .ref a2, .ref a3, .int 0, .ref a4, .int 0, .ref a5, .null, .int 0, .int 0, .int 0, .int 0, .int 0])) :: (Z ++ [(a1, bArr E 159), (a2, bArr E 795), (a3, bArr E 159), (a4, bArr E 80), (a5, bArr E 36)])) rfl ?_
  refine y_aload_n ok dX3_init_47 0 rfl ?_
  refine y_bipush ok dX3_init_48 (x := 36) (by decide +kernel) ?_
  refine y_newi ok dX3_init_50 36 rfl (by decide) ⟨Nat.le_of_ble_eq_true rfl, Nat.le_of_ble_eq_true rfl⟩ (fun a6 => ?_)
  refine y_ws (ws' := (q, .inr (3, [.ref a1, .ref a2, .ref a3, .int 0, .ref a4, .int 0, .ref a5, .null, .int 0, .int 0, .int 0, .int 0, .int 0])) :: (Z ++ [(a1, bArr E 159), (a2, bArr E 795), (a3, bArr E 159), (a4, bArr E 80), (a5, bArr E 36), (a6, bArr E 36)])) (by rw [List.cons_append, List.append_assoc]; rfl) ?_
  refine y_putF ok hin dX3_init_52 (ci := 3) (C := RX3) (T := TX3) (n := 13) rfl zu_X3 tyX3 tyX3_ok nmX3 7 (by decide) zw_556 ⟨rfl, rfl, rfl⟩ (tyX3_ok 7 (by decide)) rfl rfl (Nat.le_of_ble_eq_true rfl) ?_
  refine y_ws (ws' := (q, .inr (3, [.ref a1, .ref a2, .ref a3, .int 0, .ref a4, .int 0, .ref a5, .ref a6, .int 0, .int 0, .int 0, .int 0, .int 0])) :: (Z ++ [(a1, bArr E 159), (a2, bArr E 795), (a3, bArr E 159), (a4, bArr E 80), (a5, bArr E 36), (a6, bArr E 36)])) rfl ?_
  refine y_front ?_
  refine y_z ok ⟨Nat.le_of_ble_eq_true rfl, Nat.le_of_ble_eq_true rfl⟩ (adm ad q (a1, a2, a3, a4, a5, a6)) 54 (by decide) w01 (y_nl hO) (y_old hO (fun j c hj => ?_)) (by rw [hZ]; exact (zws_54 E ad q (a1, a2, a3, a4, a5, a6) h0).symm) (fun hg k' hk ok' old' => ?_)
  · by_cases hlt : j < (zws (Gc E ad) 47 w01).length
    · have hl : (zws (Gc E ad) 47 w01).length = 47 := by simp [zws]
      rw [← hZ, List.getElem?_append_left (by rw [hZ]; exact hlt), hZ, zws_get w01 (by omega)] at hj
      cases hj
      exact ⟨j, by omega, (if_pos (show j < 47 by omega)).symm⟩
    · rw [← hZ, List.getElem?_append_right (by rw [hZ]; omega)] at hj
      have hj1 := (List.getElem?_eq_some_iff.mp hj).1
      have hj2 : j - Z.length < 1 := hj1
      rw [show j - Z.length = 0 by omega] at hj
      cases hj
      exact ⟨47, by decide, rfl⟩
  · obtain ⟨G, hG⟩ : ∃ G, G = Gc E (adm ad q (a1, a2, a3, a4, a5, a6)) := ⟨_, rfl⟩
    have hq : q = zad G 47 := by rw [hG]; rfl
    have hG1 : G.1 = E.1 := by rw [hG]; rfl
    have hGp : (fun ad2 => zws (Gc E ad2) 54 w02) (adm ad q (a1, a2, a3, a4, a5, a6)) = zws G 54 w02 := by rw [hG]
    have ad1 : (∀ i, i < 47 → adm ad q (a1, a2, a3, a4, a5, a6) i = ad i) ∧ adm ad q (a1, a2, a3, a4, a5, a6) 47 = q := ⟨fun i hi => if_pos hi, rfl⟩
    change zGeo (Gc E (adm ad q (a1, a2, a3, a4, a5, a6))) 54 at hg
    change zOk k' (Gc E (adm ad q (a1, a2, a3, a4, a5, a6))) 54 _ _ _ _ at ok'
    change zOld k' (Gc E (adm ad q (a1, a2, a3, a4, a5, a6))) 54 at old'
    change zZ k' (Gc E (adm ad q (a1, a2, a3, a4, a5, a6))) 54 w01 55 [(0, .ref q)] []
    rw [← hG] at hg ok' old' ⊢
    have hlv : ([(0, .ref q)] : List (Nat × Value)) = [(0, .ref (zad G 47))] := by rw [← hq]
    rw [hlv]
    refine z_aload_n ok' dX3_init_55 0 rfl ?_
    refine z_get_X3_st ok' dX3_init_56 (by decide) zw_549 ?_
    refine z_sipush ok' dX3_init_59 (x := 149) (by decide +kernel) ?_
    refine z_bipush ok' dX3_init_62 (x := 9) (by decide) ?_
    refine z_mst48 ok' dX3_init_64 (by decide) 149 rfl (by decide) ?_
    refine z_aload_n ok' dX3_init_65 0 rfl ?_
    refine z_get_X3_st ok' dX3_init_66 (by decide) zw_549 ?_
    refine z_sipush ok' dX3_init_69 (x := 150) (by decide +kernel) ?_
    refine z_iconst ok' dX3_init_72 (x := 1) (by decide) ?_
    refine z_mst48 ok' dX3_init_73 (by decide) 150 rfl (by decide) ?_
    refine z_aload_n ok' dX3_init_74 0 rfl ?_
    refine z_get_X3_st ok' dX3_init_75 (by decide) zw_549 ?_
    refine z_sipush ok' dX3_init_78 (x := 151) (by decide +kernel) ?_
    refine z_iconst ok' dX3_init_81 (x := 2) (by decide) ?_
    refine z_mst48 ok' dX3_init_82 (by decide) 151 rfl (by decide) ?_
    refine z_aload_n ok' dX3_init_83 0 rfl ?_
    refine z_callVv ok' old' dX3_init_84 [] (c_X3_begins G 54 (by decide) hg (xs (xs (xs w01 11 149 9) 11 150 1) 11 151 2)) zy_X3_begins zw_533 47 (by decide) (zE_47 G (xs (xs (xs w01 11 149 9) 11 150 1) 11 151 2)) rfl rfl rfl rfl rfl (by decide) (Nat.le_of_ble_eq_true rfl) ?_
    exact z_vretI hE hk ok' hG1 dX3_init_87 (adm ad q (a1, a2, a3, a4, a5, a6)) ad1 hGp
