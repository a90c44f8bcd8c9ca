/-! methods of the law that make an object of their own -/
def zT (y : MethodName) (cc : ByteArray) (maxL fr lo mc ms : Nat) (E : yD) : Prop :=
  ∀ (l : Launch) (sz : Nat), Met l y [.code y cc maxL (some .boolean)] { frames := fr, cells := mc, slots := ms, locals := lo } (va_Pc [] (fun U => U.heap.size = sz ∧ yK E (va_A [] sz) U U.heap)) (va_Qi (fun x (_ : Unit) => x = 1) (fun _ _ => True) (va_A [] sz)) mc ms (va_A [] sz)
def yEndT (k : zC) (mc ms : Nat) : Prop := match k with
  | (_, _, _, _, s, _, args, below, meth, _, Q, A, _, _, _) => meth.sig.returnType = some .boolean ∧ Q = MQ below (va_Qi (fun x (_ : Unit) => x = 1) (fun _ _ => True) A) args s mc ms A
theorem zT_of {y : MethodName} {cc : ByteArray} {maxL fr lo mc ms : Nat} {E : yD} (hy : plainName y.cls = true) (hn : maxL < 1000)
    (body : ∀ k : zC, yOk k E cc y.cls fr lo mc ms → yEndT k mc ms → yAo k [] → (∀ i, i < maxL → zIn k i) → yY k E [] 0 0 0 [] []) : zT y cc maxL fr lo mc ms E := by
  intro l sz
  refine Met.ofW (cc := cc) (maxL := maxL) (ret := some .boolean) hy rfl ?_
  intro p e s m args' below meth c s₁ B hml hv
  obtain ⟨rfl, hsz, hK⟩ := hv
  subst hsz
  have hx := B.exec
  have hb := B.bytes
  have hr := B.returns
  have hown : s.vm.findClass y.cls = some m.cls := findClass_of_methodNamed B.named
  have hlocks := B.notSynchronized
  have hl := lv_entry [] (n := maxL) (Nat.zero_le _)
  rw [lg_entry_eq]
  exact body (p, l, e, (headSpec [.code y cc maxL (some .boolean)] { frames := fr, cells := mc, slots := ms, locals := lo }).room, s, m, ([] : List Value).toArray, below, meth, c, _, va_A [] s.heap.size, maxL, 0, 0) ⟨hx, hb, hown, hml, hK, hlocks, rfl, rfl, rfl, rfl, fun q hq => Or.inr hq⟩ ⟨hr, rfl⟩ ⟨fun q h1 h2 => h2.resolve_right (Nat.not_le.mpr h1), hn⟩ (fun _ h => h) s.heap [] _ (fun k q h => by simp at h) ⟨fun i j p q h => by simp at h, fun k q h => by simp at h⟩ va_S.rf hl
section YT
variable {k : zC} {E : yD} {cc : ByteArray} {own : String} {fr lo mc ms : Nat} {ws ws' : va_W} {cells slots pc tgt : Nat} {lv lv' : List (Nat × Value)} {st : List Value} {x y : Int32} {i a : Nat} {off : Int}
theorem y_if_eq (ok : yOk k E cc own fr lo mc ms) (d : decode cc pc = .ok (.ifCond .eq off, 3)) (tgt : Nat) (ht : (pc : Int) + off = (tgt : Int)) (kt : x = 0 → yY k E ws cells slots tgt lv st) (kf : ¬ x = 0 → yY k E ws cells slots (pc + 3) lv st) : yY k E ws cells slots pc lv (.int x :: st) := by
  obtain ⟨p, l, e, R, s, m, args, below, meth, c0, Q, A, nL, _, _⟩ := k
  exact fun H locs ls hP hD hS hl => lv_if_eq ok.1 ok.2.1 d ht (fun q => kt q H locs ls hP hD hS hl) (fun q => kf q H locs ls hP hD hS hl)
theorem y_if_ne (ok : yOk k E cc own fr lo mc ms) (d : decode cc pc = .ok (.ifCond .ne off, 3)) (tgt : Nat) (ht : (pc : Int) + off = (tgt : Int)) (kt : ¬ x = 0 → yY k E ws cells slots tgt lv st) (kf : x = 0 → yY k E ws cells slots (pc + 3) lv st) : yY k E ws cells slots pc lv (.int x :: st) := by
  obtain ⟨p, l, e, R, s, m, args, below, meth, c0, Q, A, nL, _, _⟩ := k
  exact fun H locs ls hP hD hS hl => lv_if_ne ok.1 ok.2.1 d ht (fun q => kt q H locs ls hP hD hS hl) (fun q => kf q H locs ls hP hD hS hl)
theorem y_istore (ok : yOk k E cc own fr lo mc ms) (d : decode cc pc = .ok (.istore i, 2)) (hi : zIn k i) (h : (i, Value.int x) :: lv.filter (fun z => !(z.1 == i) && !(z.1 + 1 == i && z.2.category == 2)) = lv') (kk : yY k E ws cells slots (pc + 2) lv' st) : yY k E ws cells slots pc lv (.int x :: st) := by
  obtain ⟨p, l, e, R, s, m, args, below, meth, c0, Q, A, nL, _, _⟩ := k
  exact fun H locs ls hP hD hS hl => lv_istore ok.1 ok.2.1 d hl hi h (fun ls' hl' => kk H locs ls' hP hD hS hl')
theorem yT_l {E : yD} {cA : ClassId} {U : State} (h : va_K E.1 vwCl (yT E ++ [(cA, .long)]) U) : cA = E.2.2.2.2 := by
  have h0 := (h.2 3 (E.2.2.2.2, .long) rfl).2
  have h1 := (h.2 4 (cA, .long) rfl).2
  exact Option.some.inj (h1.symm.trans h0)
theorem y_newl (ok : yOk k E cc own fr lo mc ms) (d : decode cc pc = .ok (.newarray .long, 2)) (n : Nat) (hx0 : x = nI n) (hn : n < 10000) (hcells : cells + 1 ≤ mc ∧ slots + n ≤ ms) (kk : ∀ q, yY k E (ws ++ [(q, .inl (E.2.2.2.2, n, .inr (.inl (fun _ => 0))))]) (cells + 1) (slots + n) (pc + 2) lv (.ref q :: st)) : yY k E ws cells slots pc lv (.int x :: st) := by
  subst hx0
  have w1 := ok.word zw_559
  obtain ⟨p, l, e, R, s, m, args, below, meth, c0, Q, A, nL, _, _⟩ := k
  obtain ⟨hx, hb, hown, hml, hK, hlk, hfr, hlo, rfl, rfl, hA⟩ := id ok
  refine fun H locs ls hP hD hS hl => va_newa (atype := .long) (ty := .long) (a0 := (n, .inr (.inl (fun _ => 0)))) hx hb w1 rfl hK.1 hP hD hS hA (fun _ => rfl) (nI_pos (by omega)) (nI_clamp (by omega)) (by show n * 8 ≤ 536870912; omega) hcells.1 hcells.2 d (fun q cA H1 hK1 hP1 hD1 hS1 => ?_)
  have e := yT_l hK1
  subst e
  exact kk q H1 locs ls hP1 hD1 hS1 hl
theorem y_callT (ok : yOk k E cc own fr lo mc ms) {yy : MethodName} {cy : ByteArray} {maxL fy ly mcy msy index : Nat} {rest : List Value} (d : decode cc pc = .ok (.invokestatic index, 3)) (hM : zT yy cy maxL fy ly mcy msy E) (hY : zYS yy cy maxL (some .boolean) 0) (hw : Cond.methodLink own index yy ∈ zTab) (hroom : fy + 1 ≤ fr ∧ 8 + (maxL + 11) + ly ≤ lo) (hrest : (rest.map fun v => v.category).sum ≤ 8) (hcells : cells + mcy ≤ mc ∧ slots + msy ≤ ms) (kk : yY k E [] (cells + mcy) (slots + msy) (pc + 3) lv (.int 1 :: rest)) : yY k E [] cells slots pc lv rest := by
  obtain ⟨p, l, e, R, s, m, args, below, meth, c0, Q, A, nL, _, _⟩ := k
  intro H locs ls hP hD hS hl
  obtain ⟨y1, y3, y4, y5, y6, y7, -⟩ := hY
  obtain ⟨hx, hb, hown, hml, hK, hlk, rfl, rfl, rfl, rfl, hA⟩ := id ok
  have hFc : ∀ q, va_A [] H.size q → A q := by
    intro q h
    rcases h with ⟨i, e, hi⟩ | h
    · simp at hi
    · exact hA q (Nat.le_trans hS.1 h)
  refine va_calli (va_runS (nL := nL) (Ts := zTab) (own := own) (As := []) (rest := rest) (n := 0) ⟨hx, hb, hml, hown, fun _ h => ok.word h⟩ (hM l H.size) ⟨callB_of 0 (Ts := zTab) (fun _ h => ok.word h) (fun w hw => ?_) rfl rfl rfl (ok.word y3) (ok.word hw) ⟨y5, y6, y7⟩ hroom, ok.word y1⟩ ⟨fun a U g mk q => ⟨q.1, q.2.1, yK.moved (State.WarmedH.refl U) (fun _ _ _ => rfl) (fun _ h => h) q.2.2⟩, fun U hU hW => ⟨rfl, by rw [hU], ?_⟩⟩ rfl rfl hl.1 rfl (lv_room hrest) d hcells) hS (fun q _ h => hFc q h) hFc (fun r u t H1 locs1 ht hvm hr2 hB hz1 hk1 hS1 => ?_)
  · rw [List.mem_singleton.mp hw]
    exact ⟨y4, Or.inl rfl⟩
  · subst hU
    exact yK.moved hW (fun a h1 h2 => hS.2.1 a h1 h2) hFc hK
  · subst ht
    subst hr2
    exact kk t.heap locs1 ls (fun k q h => by simp at h) ⟨fun i j p q h => by simp at h, fun k q h => by simp at h⟩ hS1 hl
end YT
theorem z_iretT {k k' : zC} {G : zG} {N : Nat} {cc : ByteArray} {own : String} {fr lo mc ms : Nat} {w : xW} {pc : Nat} {lv : List (Nat × Value)} {x : Int32} (hE : yEndT k mc ms) (hk : k' = (k.1, k.2.1, k.2.2.1, k.2.2.2.1, k.2.2.2.2.1, k.2.2.2.2.2.1, k.2.2.2.2.2.2.1, k.2.2.2.2.2.2.2.1, k.2.2.2.2.2.2.2.2.1, k.2.2.2.2.2.2.2.2.2.1, k.2.2.2.2.2.2.2.2.2.2.1, k.2.2.2.2.2.2.2.2.2.2.2.1, k.2.2.2.2.2.2.2.2.2.2.2.2.1, mc, ms)) (ok : zOk k' G N cc own fr lo) (d : decode cc pc = .ok (.ireturn, 1)) (hx1 : x = 1) : zZ k' G N w pc lv [.int x] := by
  subst hk
  subst hx1
  obtain ⟨p, l, e, R, s, m, args, below, meth, c0, Q, A, nL, c1, s1⟩ := k
  obtain ⟨h1, rfl⟩ := hE
  obtain ⟨hx, hb, hown, hml, hK, hg, hlk, hfr, hlo, hcc, hss, hA, hnl⟩ := id ok
  exact fun H locs ls hP hS hl => W.zret hx hb h1 rfl (fun t ht _ => ⟨⟨1, (), rfl, rfl, trivial⟩, hS.F ht⟩) hS.2.2 d hlk
/-- the object that such a method makes first, and the world behind it -/
theorem y_made {k : zC} {E : yD} {cc : ByteArray} {own : String} {fr lo : Nat} {ic inew : Nat} (ok : yOk k E cc own fr lo (0 + 1 + 46) (0 + 8 + 1298)) (hO : yAo k []) (hI : ∀ i, i < 1 → zIn k i) (d0 : decode cc 0 = .ok (.new inew, 3)) (hw0 : Cond.classLink own inew RX2 ∈ zTab) (d3 : decode cc 3 = .ok (.dup, 1)) (d4 : decode cc 4 = .ok (.invokespecial ic, 3)) (hw4 : Cond.methodLink own ic yX2_init ∈ zTab) (d7 : decode cc 7 = .ok (.astore_n 0, 1)) (hroom : 6 ≤ fr ∧ 8 + (2 + 11) + 107 ≤ lo)
    (kk : ∀ (G : zG) (k' : zC), zGeo G 47 → k' = (k.1, k.2.1, k.2.2.1, k.2.2.2.1, k.2.2.2.2.1, k.2.2.2.2.2.1, k.2.2.2.2.2.2.1, k.2.2.2.2.2.2.2.1, k.2.2.2.2.2.2.2.2.1, k.2.2.2.2.2.2.2.2.2.1, k.2.2.2.2.2.2.2.2.2.2.1, k.2.2.2.2.2.2.2.2.2.2.2.1, k.2.2.2.2.2.2.2.2.2.2.2.2.1, 0 + 1 + 46, 0 + 8 + 1298) → zOk k' G 47 cc own fr lo → zOld k' G 47 → zZ k' G 47 w01 8 [(0, .ref (zad G 0))] []) : yY k E [] 0 0 0 [] [] := by
  refine y_new ok d0 (ci := 2) (fs := [.null, .null, .null, .int 0, .null, .int 0, .null, .null]) (C := RX2) (T := TX2) (n := 8) zu_X2 tyX2 tyX2_ok hw0 zw_55 zw_48 rfl (fun j hj => by rcases (show j = 0 ∨ j = 1 ∨ j = 2 ∨ j = 3 ∨ j = 4 ∨ j = 5 ∨ j = 6 ∨ j = 7 by omega) with rfl | rfl | rfl | rfl | rfl | rfl | rfl | rfl <;> rfl) ⟨by omega, by omega⟩ (fun q0 => ?_)
  refine y_dup ok d3 rfl ?_
  refine y_ctor ok d4 (i_Class E q0) yi_X2 hw4 ⟨by omega, by omega⟩ (Nat.le_of_ble_eq_true rfl) ⟨by omega, by omega⟩ (fun ad h0 => ?_)
  refine y_astore_n ok d7 (hI 0 (by decide)) (lv' := [(0, .ref q0)]) rfl ?_
  refine y_ws (ws' := zws (Gc E ad) 47 w01) (List.nil_append _) ?_
  refine y_z ok ⟨Nat.le_refl _, Nat.le_refl _⟩ ad 47 (by decide) w01 (y_nl hO) (y_old hO (fun j q h => by simp at h)) rfl (fun hg k' hk ok' old' => ?_)
  have e0 : q0 = zad (Gc E ad) 0 := h0.symm
  rw [e0]
  exact kk (Gc E ad) k' hg hk ok' old'
