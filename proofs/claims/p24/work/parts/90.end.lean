/-! THE CLAIM OUT OF ONE WALK OF THE LAW'S BODY. Your part is whole_start (and what it stands on); all else here is the same for every law, but numbers. -/
def R_law : String := "ClockworkChessLaw"
def lw_P (b : Addr) (xs : List Int32) (args : Array Value) (s : State) : Prop := args = #[.ref b] ∧ s.IntsAt b xs ∧ xs.length ≤ 260 ∧ (Jvm.Cond.and given_1 narrow_1).before args s = true
def lw_Q (_ : Array Value) (s : State) (o : Outcome) (t : State) : Prop := o = .returned (some (.int 1)) ∧ Framed s o t [] 600000 7302250
def lw_Z (below : List Frame) (a : Array Value) (s : State) : State → Prop := fun t => ∃ o, t.status = .running ∧ Ended t below o ∧ lw_Q a s o t
/-- the law's own end, with 1 on the stack, nothing written that was there before, its room as the claim has it -/
theorem lw_ret {p : Program} {l : Launch} {e : Env} {s : State} {m : MethodId} {below : List Frame} {meth : Method} {c : Code} {b : Nat} (hx : p.tables.exec = Jvm.exec) (hb : c.code = code) (hr : meth.sig.returnType = ret) (hlocks : meth.locks = false) {pc : Nat} {H : Heap} {ls : Array Slot} (hdg : decode code pc = .ok (.ireturn, 1)) : W p l e room_1 s m #[Value.ref b] below meth c H [] 600000 7302250 (lw_Z below #[Value.ref b] s) (F0 m pc ls [.int 1]) := by
  intro T hT X
  obtain ⟨fs, hret, hrun, hended, hW, hframe⟩ := X.leave (v := some (.int 1)) (hlocks := hlocks) (fun h => by rw [hr] at h; cases h)
  have hmeth' : T.vm.method? m = some meth := X.method'
  refine ⟨T.setFrames fs, ?_, .returned (some (.int 1)), hrun, hended, rfl, ⟨_, rfl⟩, hW, hframe⟩
  jvm_step X.here [X.here.top, hx, hb, hdg, hmeth', hr, ret, narrow_b1]
  (try refine ⟨rfl, ?_⟩); (try refine ⟨rfl, ?_⟩)
  first | (intro acts; rw [hret _ acts rfl rfl rfl]) | rw [hret _ _ rfl rfl rfl]
  exact Steps.refl _
/-- what holds at the law's entry: the machine, the code, the tables' words (any of lw_tbl by 'hts w (by decide +kernel)'), the script of L ints xs at the cell b, what the Statement gives of the start (any of its parts by flat_of_before) -/
def lw_At (p : Program) (s : State) (m : MethodId) (meth : Method) (c : Code) (b L : Nat) (xs : Nat → Int32) : Prop :=
  p.tables.exec = Jvm.exec ∧ c.code = code ∧ meth.sig.returnType = ret ∧ c.maxLocals = 10 ∧ s.vm.findClass R_law = some m.cls ∧ (∀ w ∈ lw_tbl, w.before #[Value.ref b] s = true) ∧ va_X b L xs s s.heap ∧ b < s.heap.size ∧ meth.locks = false ∧ (Jvm.Cond.and given_1 narrow_1).before #[Value.ref b] s = true
-- ===== YOUR PART BEGINS =====
theorem lw_in {w : Cond} (h : w ∈ zTab) : w ∈ lw_tbl := (List.mem_filter.mp h).1
/-- what the makers ask, out of the law's start -/
theorem lw_yK {p : Program} {s : State} {m : MethodId} {meth : Method} {c : Code} {b L : Nat} {xs : Nat → Int32} (C0 : lw_At p s m meth c b L xs) : ∃ E : yD, yK E (fun q : Nat => s.heap.size ≤ q) s s.heap := by
  obtain ⟨hx, hb, hr, hml, hown, hts, hX, hbl, hlocks, hgv⟩ := id C0
  have hw : zWs s := zWs_of hts
  obtain ⟨c0, i0, k0⟩ := u_known (C := RX0) (T := TX0) (N := 4) (n := 4) hts (fun w h => lw_in (zu_X0 w h)) (hts _ (lw_in zw_69))
  obtain ⟨c1, i1, k1⟩ := u_known (C := RX1) (T := TX1) (N := 15) (n := 15) hts (fun w h => lw_in (zu_X1 w h)) (hts _ (lw_in zw_63))
  obtain ⟨c2, i2, k2⟩ := u_known (C := RX2) (T := TX2) (N := 8) (n := 8) hts (fun w h => lw_in (zu_X2 w h)) (hts _ (lw_in zw_55))
  obtain ⟨cI, kI, oI, f1, f2, f3⟩ := Cond.arrayClass_spec (hts _ (lw_in zw_87))
  obtain ⟨cC, kC, oC, g1, g2, g3⟩ := Cond.arrayClass_spec (hts _ (lw_in zw_201))
  obtain ⟨cL, kL, oL, n1, n2, n3⟩ := Cond.arrayClass_spec (hts _ (lw_in zw_559))
  have hao : (Cond.arrayOver (.object RX1)).before #[Value.ref b] s = true := hts _ (List.mem_of_getElem? (i := 140) (by decide +kernel))
  have hAO : va_AO RX1 s := va_AO.of hao
  obtain ⟨oR, cR, kR, r1, r2, r3, r4, r5⟩ := Cond.arrayOver_spec hAO
  have hs := flat_of_before _ hgv
  have hA : ∀ a : Nat, a < s.heap.size → ¬ (fun q : Nat => s.heap.size ≤ q) a := fun a h => Nat.not_le.mpr h
  have t0 : ∃ t, va_Z RX2 "FIRST_ROW" "[I" (.ref t) (fun q : Nat => s.heap.size ≤ q) s s.heap ∧ va_T .int t 6 (fun j => .int (zRow0 j)) (fun q : Nat => s.heap.size ≤ q) s s.heap := by
    obtain ⟨t, ht, hT⟩ := va_Tof (tm := .static RX2 "FIRST_ROW" "[I") (ty := .int) (N := 6) (f := fun j => .int (zRow0 j)) (by decide) (hs _ (by decide +kernel)) (va_eqt (z := 6) (hs _ (by decide +kernel))) (fun j hj => by
      rcases (by omega : j = 0 ∨ j = 1 ∨ j = 2 ∨ j = 3 ∨ j = 4 ∨ j = 5) with e | e | e | e | e | e <;> subst e
      · exact va_eqt (z := 1) (hs _ (by decide +kernel))
      · exact va_eqt (z := 3) (hs _ (by decide +kernel))
      · exact va_eqt (z := 0) (hs _ (by decide +kernel))
      · exact va_eqt (z := 2) (hs _ (by decide +kernel))
      · exact va_eqt (z := 3) (hs _ (by decide +kernel))
      · exact va_eqt (z := 1) (hs _ (by decide +kernel))) hA
    exact ⟨t, va_Zref (hts _ (List.mem_of_getElem? (i := 165) (by decide +kernel))) (hts _ (lw_in zw_48)) ht hA, hT⟩
  have t1 : ∃ t, va_Z RX2 "FIRST_TOWERS" "[I" (.ref t) (fun q : Nat => s.heap.size ≤ q) s s.heap ∧ va_T .int t 6 (fun j => .int (zRow1 j)) (fun q : Nat => s.heap.size ≤ q) s s.heap := by
    obtain ⟨t, ht, hT⟩ := va_Tof (tm := .static RX2 "FIRST_TOWERS" "[I") (ty := .int) (N := 6) (f := fun j => .int (zRow1 j)) (by decide) (hs _ (by decide +kernel)) (va_eqt (z := 6) (hs _ (by decide +kernel))) (fun j hj => by
      rcases (by omega : j = 0 ∨ j = 1 ∨ j = 2 ∨ j = 3 ∨ j = 4 ∨ j = 5) with e | e | e | e | e | e <;> subst e
      · exact va_eqt (z := 0) (hs _ (by decide +kernel))
      · exact va_eqt (z := 5) (hs _ (by decide +kernel))
      · exact va_eqt (z := 14) (hs _ (by decide +kernel))
      · exact va_eqt (z := 21) (hs _ (by decide +kernel))
      · exact va_eqt (z := 30) (hs _ (by decide +kernel))
      · exact va_eqt (z := 35) (hs _ (by decide +kernel))) hA
    exact ⟨t, va_Zref (hts _ (List.mem_of_getElem? (i := 167) (by decide +kernel))) (hts _ (lw_in zw_48)) ht hA, hT⟩
  refine ⟨((fun k => if k = 0 then c0 else if k = 1 then c1 else c2, fun k => if k = 0 then i0 else if k = 1 then i1 else i2), cI, cC, cR, cL), ⟨fun k q hq => ?_, fun k q hq => ?_⟩, hw, hAO, t0, t1⟩
  · match k, hq with
    | 0, hq => cases hq; exact k0
    | 1, hq => cases hq; exact k1
    | 2, hq => cases hq; exact k2
    | k + 3, hq => simp [vwCl] at hq
  · match k, hq with
    | 0, hq => cases hq; exact ⟨fun n z => ⟨fun k h => (by cases h), kI, f2, oI, f3⟩, f1⟩
    | 1, hq => cases hq; exact ⟨fun n z => ⟨fun k h => (by cases h), kC, g2, oC, g3⟩, g1⟩
    | 2, hq => cases hq; exact ⟨fun n z => ⟨fun k h => (by cases h), kR, r3, oR, r4⟩, kR, oR, r3, r4, r1, r5⟩
    | 3, hq => cases hq; exact ⟨fun n z => ⟨fun k h => (by cases h), kL, n2, oL, n3⟩, n1⟩
    | k + 4, hq => simp [yT] at hq
theorem zE_ad {E : yD} {ad ad2 : Nat → Nat} (h : ∀ i, i < 47 → ad i = ad2 i) (w : xW) {i : Nat} (hi : i < 47) : zE (Gc E ad) w i = zE (Gc E ad2) w i := by
  have z : ∀ i, i < 47 → zad (Gc E ad) i = zad (Gc E ad2) i := h
  have p5 := zpr_lt w 5
  have p6 := zpr_lt w 6
  unfold zE
  by_cases h0 : i = 0
  · rw [if_pos h0, if_pos h0, zOuter, zOuter, z 5 (by omega), z 11 (by omega), z 1 (by omega), z 2 (by omega), z (zpr w 5) (by omega), z (zpr w 6) (by omega)]
  rw [if_neg h0, if_neg h0]
  by_cases h1 : i = 1
  · rw [if_pos h1, if_pos h1, zRefs, zRefs]
    have : (fun j => if j < 5 then some (zad (Gc E ad) (5 + 6 * zpg w j)) else none) = (fun j => if j < 5 then some (zad (Gc E ad2) (5 + 6 * zpg w j)) else none) := by
      funext j
      rw [z _ (by have := zpg_lt w j; omega)]
    rw [this]
    rfl
  rw [if_neg h1, if_neg h1]
  by_cases h2 : i = 2
  · rw [if_pos h2, if_pos h2]; rfl
  rw [if_neg h2, if_neg h2]
  by_cases h3 : i = 3
  · rw [if_pos h3, if_pos h3]; rfl
  rw [if_neg h3, if_neg h3]
  by_cases h4 : i = 4
  · rw [if_pos h4, if_pos h4]; rfl
  rw [if_neg h4, if_neg h4, if_neg (show ¬ i = 47 by omega), if_neg (show ¬ i = 47 by omega)]
  by_cases h5 : (i - 5) % 6 = 0
  · rw [if_pos h5, if_pos h5, zGame, zGame, z _ (by omega)]
  rw [if_neg h5, if_neg h5]
  by_cases h6 : (i - 5) % 6 = 1
  · rw [if_pos h6, if_pos h6, zBoard, zBoard, z (7 + 6 * ((i - 5) / 6)) (by omega), z (8 + 6 * ((i - 5) / 6)) (by omega), z (9 + 6 * ((i - 5) / 6)) (by omega), z (10 + 6 * ((i - 5) / 6)) (by omega)]
  rw [if_neg h6, if_neg h6]
  rfl
theorem w01_long : zLf w01 = fun _ => 0 := by
  funext j
  unfold zLf
  by_cases h : j < 48
  · rw [if_pos h, w01_2 (by omega)]; rfl
  · rw [if_neg h]
/-- the object's cells and the row of long numbers behind them -/
theorem zws_48 (E : yD) (ad : Nat → Nat) (q : Nat) : zws (Gc E ad) 47 w01 ++ [(q, .inl (E.2.2.2.2, 48, .inr (.inl (fun _ => 0))))] = zws (Gc E (fun i => if i = 47 then q else ad i)) 48 w01 := by
  have hz : ∀ i, i < 47 → ad i = (fun i => if i = 47 then q else ad i) i := fun i hi => (if_neg (show ¬ i = 47 by omega)).symm
  have er : List.range 48 = List.range 47 ++ [47] := List.range_succ (n := 47)
  unfold zws
  rw [er, List.map_append (l₁ := List.range 47) (l₂ := [47])]
  congr 1
  · refine List.map_congr_left (fun i hi => ?_)
    have hi' := List.mem_range.mp hi
    rw [zE_ad hz w01 hi']
    exact congrArg (fun a => (a, zE (Gc E (fun i => if i = 47 then q else ad i)) w01 i)) (hz i hi')
  · show _ = [(zad (Gc E (fun i => if i = 47 then q else ad i)) 47, zE (Gc E (fun i => if i = 47 then q else ad i)) w01 47)]
    rw [zE_47, zLong, w01_long]
    rfl
theorem w01_lp : zLp w01 (zS0, fun _ _ => 0, 0, fun _ => 0, 0) 0 := by
  have ha : zAcc zS0 := acc_begins (S := zR0) zS0_inv
  have h := w01_sim
  generalize zS0 = S0 at ha h ⊢
  exact ⟨h, ha, rfl, fun i hi => absurd hi (Nat.not_lt_zero i)⟩
set_option maxRecDepth 100000 in
set_option maxHeartbeats 4000000 in
/-- the law's walk from its entry, over its three first calls and the makers, into its loop -/
theorem law_start {k : zC} {E : yD} {b L : Nat} {xs : Nat → Int32} (hL : L ≤ 260) (ok : yOk k E cL_law RL 12 482 600000 7302250) (hI : ∀ i, i < 10 → zIn k i) (hnl : k.2.2.2.2.2.2.2.2.2.2.2.2.1 < 1000) (old : ∀ G N, zOld k G N) (sc : zScr k b L xs)
    (fin : ∀ G (w : xW) (lv : List (Nat × Value)) (k' : zC), k' = (k.1, k.2.1, k.2.2.1, k.2.2.2.1, k.2.2.2.2.1, k.2.2.2.2.2.1, k.2.2.2.2.2.2.1, k.2.2.2.2.2.2.2.1, k.2.2.2.2.2.2.2.2.1, k.2.2.2.2.2.2.2.2.2.1, k.2.2.2.2.2.2.2.2.2.2.1, k.2.2.2.2.2.2.2.2.2.2.2.1, k.2.2.2.2.2.2.2.2.2.2.2.2.1, 0 + (0 + 1 + 46) + (0 + 1 + 46) + (0 + 1 + 46) + 1 + 46 + 1, 0 + (0 + 8 + 1298) + (0 + 8 + 1298) + (0 + 8 + 1298) + 8 + 1298 + 48) → zZ k' G 48 w 442 lv [.int (nI 1)]) : yY k E [] 0 0 0 [(0, .ref b)] [] := by
  refine y_callT ok dL_law_0 (t_L_texts E) zy_L_texts zw_486 (by decide) (Nat.le_of_ble_eq_true rfl) ⟨Nat.le_of_ble_eq_true rfl, Nat.le_of_ble_eq_true rfl⟩ ?_
  refine y_if_eq ok dL_law_3 18 (by decide) (fun q => absurd q (by decide)) (fun _ => ?_)
  refine y_callT ok dL_law_6 (t_L_begins E) zy_L_begins zw_533 (by decide) (Nat.le_of_ble_eq_true rfl) ⟨Nat.le_of_ble_eq_true rfl, Nat.le_of_ble_eq_true rfl⟩ ?_
  refine y_if_eq ok dL_law_9 18 (by decide) (fun q => absurd q (by decide)) (fun _ => ?_)
  refine y_callT ok dL_law_12 (t_L_known E) zy_L_known zw_553 (by decide) (Nat.le_of_ble_eq_true rfl) ⟨Nat.le_of_ble_eq_true rfl, Nat.le_of_ble_eq_true rfl⟩ ?_
  refine y_if_ne ok dL_law_15 20 (by decide) (fun _ => ?_) (fun q => absurd q (by decide))
  refine y_new ok dL_law_20 (ci := 2) (fs := [.null, .null, .null, .int 0, .null, .int 0, .null, .null]) (C := RX2) (T := TX2) (n := 8) zu_X2 tyX2 tyX2_ok zw_54 zw_55 zw_48 rfl (fun j hj => by rcases (show j = 0 ∨ j = 1 ∨ j = 2 ∨ j = 3 ∨ j = 4 ∨ j = 5 ∨ j = 6 ∨ j = 7 by omega) with rfl | rfl | rfl | rfl | rfl | rfl | rfl | rfl <;> rfl) ⟨Nat.le_of_ble_eq_true rfl, Nat.le_of_ble_eq_true rfl⟩ (fun q0 => ?_)
  refine y_dup ok dL_law_23 rfl ?_
  refine y_ctor ok dL_law_24 (i_Class E q0) yi_X2 zw_56 (by decide) (Nat.le_of_ble_eq_true rfl) ⟨Nat.le_of_ble_eq_true rfl, Nat.le_of_ble_eq_true rfl⟩ (fun ad h0 => ?_)
  refine y_astore_n ok dL_law_27 (hI 1 (by decide)) (lv' := [(1, .ref q0), (0, .ref b)]) rfl ?_
  refine y_bipush ok dL_law_28 (x := nI 48) (by decide) ?_
  refine y_ws (ws' := zws (Gc E ad) 47 w01) (List.nil_append _) ?_
  refine y_newl ok dL_law_30 48 rfl (by decide) ⟨Nat.le_of_ble_eq_true rfl, Nat.le_of_ble_eq_true rfl⟩ (fun q1 => ?_)
  refine y_astore_n ok dL_law_32 (hI 2 (by decide)) (lv' := [(2, .ref q1), (1, .ref q0), (0, .ref b)]) rfl ?_
  refine y_iconst ok dL_law_33 (x := nI 0) (by decide) ?_
  refine y_istore_n ok dL_law_34 (hI 3 (by decide)) (lv' := [(3, .int (nI 0)), (2, .ref q1), (1, .ref q0), (0, .ref b)]) rfl ?_
  refine y_iconst ok dL_law_35 (x := nI 0) (by decide) ?_
  refine y_istore ok dL_law_36 (hI 4 (by decide)) (lv' := [(4, .int (nI 0)), (3, .int (nI 0)), (2, .ref q1), (1, .ref q0), (0, .ref b)]) rfl ?_
  refine y_ws (ws' := zws (Gc E (fun i => if i = 47 then q1 else ad i)) 48 w01) (zws_48 E ad q1) ?_
  refine y_z ok ⟨Nat.le_of_ble_eq_true rfl, Nat.le_of_ble_eq_true rfl⟩ (fun i => if i = 47 then q1 else ad i) 48 (by decide) w01 hnl (old _ _) rfl (fun hg k' hk ok' old' => ?_)
  obtain ⟨G, hG⟩ : ∃ G, G = Gc E (fun i => if i = 47 then q1 else ad i) := ⟨_, rfl⟩
  change zGeo (Gc E (fun i => if i = 47 then q1 else ad i)) 48 at hg
  change zOk k' (Gc E (fun i => if i = 47 then q1 else ad i)) 48 _ _ _ _ at ok'
  change zOld k' (Gc E (fun i => if i = 47 then q1 else ad i)) 48 at old'
  change zZ k' (Gc E (fun i => if i = 47 then q1 else ad i)) 48 w01 38 [(4, .int (nI 0)), (3, .int (nI 0)), (2, .ref q1), (1, .ref q0), (0, .ref b)] []
  have e0 : q0 = zad G 0 := by rw [hG]; exact h0.symm
  have e1 : q1 = zad G 47 := by rw [hG]; rfl
  rw [← hG] at hg ok' old' ⊢
  rw [e0, e1]
  refine z_locs [4, 3, 2, 1, 0] (lv' := [(0, .ref b), (1, .ref (zad G 0)), (2, .ref (zad G 47)), (3, .int (nI 0)), (4, .int (nI 0))]) rfl ?_
  have sc' : zScr k' b L xs := by
    subst hk
    obtain ⟨p, l, e, R, s, m, args, below, meth, c0, Q, A, nL, c1, s1⟩ := k
    exact sc
  have hI' : ∀ i, i < 10 → zIn k' i := by
    subst hk
    obtain ⟨p, l, e, R, s, m, args, below, meth, c0, Q, A, nL, c1, s1⟩ := k
    exact hI
  exact law_loop hg ok' old' sc' hL hI' (fun w A c kk hc h => law_fin hg ok' old' hI' (fun w lv => fin G w lv k' hk) w A c kk hc h) 40 0 0 w01 _ (by omega) (Nat.le_refl 0) w01_lp
set_option maxRecDepth 100000 in
set_option maxHeartbeats 4000000 in
/-- from the entry, for every script of at most 260 ints, the law comes to its end with true -/
theorem whole_start {p : Program} {e : Env} {s : State} {m : MethodId} {below : List Frame} {meth : Method} {c : Code} (l : Launch) (hflags : l.flags = flags0) {b L : Nat} {xs : Nat → Int32} (hL : L ≤ 260) (C0 : lw_At p s m meth c b L xs) : W p l e room_1 s m #[Value.ref b] below meth c s.heap [] 0 0 (lw_Z below #[Value.ref b] s) (entryFrame m ([Value.ref b] : List Value).toArray 10) := by
  obtain ⟨E, hK⟩ := lw_yK C0
  obtain ⟨hx, hb, hr, hml, hown, hts, hX, hbl, hlocks, hgv⟩ := id C0
  have hl := lv_entry ([.ref b]) (n := 10) (Nat.le_of_ble_eq_true rfl)
  rw [lg_entry_eq]
  generalize (lg_sl ([.ref b]) ++ List.replicate (10 - (lg_sl ([.ref b])).length) Slot.unset).toArray = ls at hl ⊢
  have hl : lv_has ls 10 [(0, .ref b)] := hl
  have main : yY (p, l, e, room_1, s, m, #[Value.ref b], below, meth, c, lw_Z below #[Value.ref b] s, fun q : Nat => s.heap.size ≤ q, 10, 0, 0) E [] 0 0 0 [(0, .ref b)] [] := by
    refine law_start hL ⟨hx, hb, hown, hml, hK, hlocks, rfl, rfl, rfl, rfl, fun q h => h⟩ (fun i h => h) (by show 10 < 1000; decide) (fun G N q h1 h2 => absurd h2 (Nat.not_le.mpr h1)) (show zScr _ b L xs from ⟨hX, hbl, Nat.not_le.mpr hbl⟩) (fun G w lv k' hk => ?_)
    subst hk
    intro H locs ls2 hP hS hl2
    refine va_forget hS.2.2 ?_
    refine W.widen (k := 600000) (n := 7302250) (Nat.le_of_ble_eq_true rfl) (Nat.le_of_ble_eq_true rfl) ?_
    exact lw_ret hx hb hr hlocks dL_law_442
  exact main s.heap [] ls (fun k q h => by simp at h) ⟨fun i j p q h => by simp at h, fun k q h => by simp at h⟩ va_S.rf hl
-- ===== YOUR PART ENDS =====
set_option maxHeartbeats 4000000 in
theorem lw_walk (l : Launch) (hflags : l.flags = flags0) (b : Addr) (xs : List Int32) : MetFree l x (headSpec (Jvm.Cond.code x code maxLocals ret :: tables_1) room_1) (lw_P b xs) (fun _ _ _ _ _ => True) lw_Q := by
  refine MetFree.of_bodyS (code := code) (maxLocals := maxLocals) (ret := ret) (by decide) ?_ ?_
  · intro args s m h hn
    obtain ⟨meth, c, h1, h2, h3, h4, h5, h6, -, -⟩ := Cond.code_spec hn (atoms_spec (ws := Jvm.Cond.code x code maxLocals ret :: tables_1) h _ List.mem_cons_self)
    exact ⟨meth, c, h1, h2, h3, h4, h5, h6⟩
  · intro p e s m args below meth c s₁ B hml0 hP _
    obtain ⟨rfl, hx, hbd, hgv⟩ := hP
    obtain ⟨scr, harrAt, hlist, hof, hsmall⟩ := hx
    obtain ⟨hcb, hkn, -, -⟩ := State.arrayAt?_spec harrAt
    have hown : s.vm.findClass R_law = some m.cls := findClass_of_methodNamed B.named
    have hts0 : ∀ c ∈ (Jvm.Cond.code x code maxLocals ret :: tables_1), c.before #[Value.ref b] s = true := atoms_spec (ws := Jvm.Cond.code x code maxLocals ret :: tables_1) B.pre
    have hts : ∀ w ∈ lw_tbl, w.before #[Value.ref b] s = true := k2_hts_sels lw_privs (fun w hw => hts0 w (List.mem_cons_of_mem _ hw)) lw_privs_ok
    have hml : c.maxLocals = 10 := B.maxLocals_eq (hts0 _ List.mem_cons_self)
    have X₀ : Stand p l e room_1 s m #[Value.ref b] below meth c s₁ [] 0 0 := Stand.of_body B
    have hh0 : s₁.heap = s.heap := by rw [B.state]; rfl
    have hsz : scr.slots.size = xs.length := by rw [← Array.length_toList, hlist, List.length_map]
    have hval : ∀ j : Nat, j < xs.length → scr.slots[j]? = some (.int (xs.getD j 0)) := fun j hj => by
      rw [← Array.getElem?_toList, hlist]
      simp [hj]
    have hbl : b < s.heap.size := (Array.getElem?_eq_some_iff.mp hcb).1
    have hX : va_X b xs.length (fun j => xs.getD j 0) s s.heap := ⟨scr, hcb, hof, hkn, hsz, hval⟩
    have K : W p l e room_1 s m #[Value.ref b] below meth c s₁.heap [] 0 0 (lw_Z below #[Value.ref b] s) (entryFrame m ([Value.ref b] : List Value).toArray 10) := by
      rw [hh0]
      exact whole_start l hflags hbd ⟨B.exec, B.bytes, B.returns, hml, hown, hts, hX, hbl, B.notSynchronized, hgv⟩
    obtain ⟨t, a1, o, b1, b2, b3⟩ := K s₁ rfl X₀
    exact ⟨t, o, a1, b1, b2, b3⟩
theorem lw_pre_spec {args : Array Value} {s : State} (h : (Jvm.Cond.and given_1 narrow_1).before args s = true) (hr : rest_1_c.before args s = true) : ∃ (b : Addr) (xs : List Int32), lw_P b xs args s := by
  have hs := flat_of_before _ h
  have hq := flat_of_before _ hr
  have hc : (Cond.count 1).before args s = true := hs _ (by decide +kernel)
  have harr : (Cond.arrayOf (.arg 0) .int).before args s = true := hs _ (by decide +kernel)
  have hle : (Cond.le (.length (.arg 0)) (.int 260)).before args s = true := hs _ (by decide +kernel)
  have hlen : (Cond.isInt (.length (.arg 0))).before args s = true := hq _ (by decide +kernel)
  have hall : (Cond.all (.arg 0) (.isInt (.elem (.arg 0) (.index 0)))).before args s = true := hq _ (by decide +kernel)
  obtain ⟨b, xs, hb, hx⟩ := State.ints_of_pre rfl harr hlen hall
  have hsm : xs.length < 2 ^ 31 := hx.choose_spec.2.2.2
  have hev : (Term.length (.arg 0)).eval args s none [] s = some (.int xs.length.toInt32) := hx.length_eval hb
  have hv := Cond.le_ints hev (show (Term.int 260).eval args s none [] s = some (.int 260) from rfl)
  have hd : xs.length.toInt32 ≤ 260 := by
    simpa [Cond.before, Cond.holds, hv] using hle
  have hN : xs.length ≤ 260 := (Int32.ofNat_le_ofNat hsm (by decide)).mp (show Int32.ofNat xs.length ≤ Int32.ofNat 260 from hd)
  exact ⟨b, xs, Cond.one_arg hc (show args[0]? = some (.ref b) from hb), hx, hN, h⟩
theorem lw_comes (l : Launch) (hflags : l.flags = flags0) : Comes l x (Jvm.Cond.code x code maxLocals ret :: tables_1) room_1 (fun tb e args s => Calls_1 tb e args s ∧ rest_1 tb e args s ∧ Pre_1 tb e args s)
    (fun _ _ args s o t => lw_Q args s o t) := by
  intro p e ha hc hk s m args below hf hfit hheap happ hpre
  obtain ⟨b, xs, hP⟩ := lw_pre_spec hpre.2.2 hpre.2.1
  obtain ⟨k, o, h1, h2, h3, hQ⟩ := lw_walk l hflags b xs p e ha hc hk s m args below hf ((Spec.applies_iff_loose hf).mp happ).1 hP trivial
  exact ⟨k, o, h1, h2, h3, hQ⟩
theorem lw_frame {s t : State} {o : Outcome} {args : Array Value} (h : Framed s o t [] 600000 7302250) :
    Framed s o t (fieldLocs frame_1_writes args s ++ arrayLocs frame_1_arrays args s ++ staticLocs frame_1_statics s) 600000 7302250 := h
theorem lw_limb (L : Cond) (hL : ∀ (args : Array Value) (s t : State), L.after args s (.returned (some (.int 1))) t = true) :
    ArmFor flags0 classFile x code maxLocals ret World_1 tables_1 room_1 Calls_1 rest_1 Pre_1
      (fun tb e a s o t => postC L tb e a s o t ∧ Framed s o t (fieldLocs frame_1_writes a s ++ arrayLocs frame_1_arrays a s ++ staticLocs frame_1_statics s) 600000 7302250) := by
  intro l hflags _ _ p e ha hc hk s m args below hf hfit hheap happ hpre
  obtain ⟨k, o, h1, h2, h3, rfl, hF⟩ := lw_comes l hflags p e ha hc hk s m args below hf hfit hheap happ hpre
  exact ⟨k, _, h1, h2, h3, hL args s _, lw_frame hF⟩
theorem i_vc : Claimed_1_1 ∧ Claimed_1_2 := ⟨lw_limb limb_1_1 (fun args s t => by simp [limb_1_1, Cond.after, Cond.holds, Cond.value]), lw_limb limb_1_2 (fun args s t => Cond.after_iff.mpr (by
  first | (rw [show limb_1_2 = Cond.eq .result (.int 1) from rfl, Cond.eq_ints (x := 1) (y := 1) rfl rfl]; simp; done) | (simp [limb_1_2, Cond.value, Term.eval]; done)))⟩
