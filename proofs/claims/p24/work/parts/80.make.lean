/-! making the objects: cells in the order in which they come -/
abbrev yD : Type := va_G × ClassId × ClassId × ClassId × ClassId
def yT (E : yD) : List (ClassId × FieldType) := [(E.2.1, .int), (E.2.2.1, .char), (E.2.2.2.1, .object RX1), (E.2.2.2.2, .long)]
/-- what a maker asks of the machine: classes, words, the static rows, which lie outside A -/
def yK (E : yD) (A : Nat → Prop) (U : State) (H : Heap) : Prop := va_K E.1 vwCl (yT E) U ∧ zWs U ∧ va_AO RX1 U ∧ zStat A U H
theorem zStat.narrow {A B : Nat → Prop} {U : State} {H : Heap} (h : zStat A U H) (hB : ∀ q, B q → A q) : zStat B U H := by
  obtain ⟨⟨t, h1, h2⟩, ⟨r, h3, h4⟩⟩ := h
  exact ⟨⟨t, h1.narrow hB, h2.narrow hB⟩, ⟨r, h3.narrow hB, h4.narrow hB⟩⟩
theorem yK.moved {E : yD} {A B : Nat → Prop} {u U : State} {H H1 : Heap} (hW : u.WarmedH U.vm) (hq : ∀ a : Nat, a < H.size → ¬ A a → H1[a]? = H[a]?) (hB : ∀ q, B q → A q) (h : yK E A u H) : yK E B U H1 :=
  ⟨va_K.moved hW.alike h.1, zWs_move hW h.2.1, va_AO.moved hW.alike h.2.2.1, (h.2.2.2.moved hW.alike hq).narrow hB⟩
def yY (k : zC) (E : yD) (ws : va_W) (cells slots pc : Nat) (lv : List (Nat × Value)) (st : List Value) : Prop := match k with
  | (p, l, e, R, s, m, args, below, meth, c, Q, A, nL, _, _) => ∀ (H : Heap) (locs : List Loc) (ls : Array Slot), va_P E.1 vwCl ws H → va_D A ws → va_S A s.heap H locs → lv_has ls nL lv → W p l e R s m args below meth c H locs cells slots Q (F0 m pc ls st)
def yOk (k : zC) (E : yD) (cc : ByteArray) (own : String) (fr lo mc ms : Nat) : Prop := match k with
  | (p, _, _, R, s, m, _, _, meth, c, _, A, nL, _, _) => p.tables.exec = Jvm.exec ∧ c.code = cc ∧ s.vm.findClass own = some m.cls ∧ c.maxLocals = nL ∧ yK E A s s.heap ∧ meth.locks = false ∧ R.frames = fr ∧ R.locals = lo ∧ R.cells = mc ∧ R.slots = ms ∧ (∀ q, s.heap.size ≤ q → A q)
/-- the setting is a maker's -/
def yIn (k : zC) : Prop := match k with
  | (_, _, _, _, _, _, _, _, meth, _, _, _, _, _, _) => meth.name = "<init>"
def yEnd {S : Type} (k : zC) (E : yD) (X : S → Prop) (post : S → va_W) (mc ms : Nat) : Prop := match k with
  | (_, _, _, _, s, _, args, below, meth, _, Q, A, _, _, _) => meth.sig.returnType = none ∧ Q = MQ below (va_Qv X (fun u t => va_P E.1 vwCl (post u) t.heap ∧ va_D A (post u)) A) args s mc ms A
/-- a maker's contract: h0 is what is made, pre the cells before -/
def zI (y : MethodName) (cc : ByteArray) (maxL fr lo mc ms : Nat) (E : yD) {S : Type} (h0 : Nat) (pre : va_W) (X : S → Prop) (post : S → va_W) : Prop :=
  ∀ (l : Launch) (sz : Nat), Met l y [.code y cc maxL none] { frames := fr, cells := mc, slots := ms, locals := lo } (va_Pc [.ref h0] (fun U => U.heap.size = sz ∧ va_P E.1 vwCl pre U.heap ∧ yK E (va_A pre sz) U U.heap ∧ va_D (fun _ => True) pre)) (va_Qv X (fun u t => va_P E.1 vwCl (post u) t.heap ∧ va_D (va_A pre sz) (post u)) (va_A pre sz)) mc ms (va_A pre sz)
/-- of the old cells it may change only those of pre; few locals -/
def yAo (k : zC) (pre : va_W) : Prop := match k with
  | (_, _, _, _, s, _, _, _, _, _, _, A, nL, _, _) => (∀ q, q < s.heap.size → A q → ∃ (j : Nat) (e : va_E), pre[j]? = some (q, e)) ∧ nL < 1000
theorem zI_of {y : MethodName} {cc : ByteArray} {maxL fr lo mc ms : Nat} {E : yD} {S : Type} {h0 : Nat} {pre : va_W} {X : S → Prop} {post : S → va_W} (hy : plainName y.cls = true) (hnm : y.name = "<init>") (hn : 1 ≤ maxL ∧ maxL < 1000)
    (body : ∀ k : zC, yOk k E cc y.cls fr lo mc ms → yIn k → yEnd k E X post mc ms → yAo k pre → (∀ i, i < maxL → zIn k i) → yY k E pre 0 0 0 [(0, .ref h0)] []) : zI y cc maxL fr lo mc ms E h0 pre X post := by
  intro l sz
  refine Met.ofW (cc := cc) (maxL := maxL) (ret := none) hy rfl ?_
  intro p e s m args' below meth c s₁ B hml hv
  obtain ⟨rfl, hsz, hP, hK, hD0⟩ := hv
  subst hsz
  have hx := B.exec
  have hb := B.bytes
  have hr := B.returns
  have hown : s.vm.findClass y.cls = some m.cls := findClass_of_methodNamed B.named
  have hlocks := B.notSynchronized
  have hin : meth.name = "<init>" := (name_of_methodNamed B.named B.method).1.trans hnm
  have hl := lv_entry [.ref h0] (n := maxL) hn.1
  rw [lg_entry_eq]
  exact body (p, l, e, (headSpec [.code y cc maxL none] { frames := fr, cells := mc, slots := ms, locals := lo }).room, s, m, [Value.ref h0].toArray, below, meth, c, _, va_A pre s.heap.size, maxL, 0, 0) ⟨hx, hb, hown, hml, hK, hlocks, rfl, rfl, rfl, rfl, fun q hq => Or.inr hq⟩ hin ⟨hr, rfl⟩ ⟨fun q h1 h2 => h2.resolve_right (Nat.not_le.mpr h1), hn.2⟩ (fun _ h => h) s.heap [] _ hP hD0.self va_S.rf hl
section YR
variable {k : zC} {E : yD} {cc : ByteArray} {own : String} {fr lo mc ms : Nat} {ws ws' : va_W} {cells slots pc tgt : Nat} {lv lv' : List (Nat × Value)} {st : List Value} {x y : Int32} {i a : Nat} {off : Int}
theorem yOk.word (ok : yOk k E cc own fr lo mc ms) {c : Cond} (h : c ∈ zTab) : c.before (k.2.2.2.2.2.2.1) (k.2.2.2.2.1) = true := by
  obtain ⟨p, l, e, R, s, m, args, below, meth, c0, Q, A, nL, cells, slots⟩ := k
  exact ok.2.2.2.2.1.2.1 _ h _
theorem y_ws (h : ws = ws') (kk : yY k E ws' cells slots pc lv st) : yY k E ws cells slots pc lv st := by subst h; exact kk
theorem y_locs (ks : List Nat) (h : lv_pick lv ks = lv') (kk : yY k E ws cells slots pc lv' st) : yY k E ws cells slots pc lv st := by
  obtain ⟨p, l, e, R, s, m, args, below, meth, c0, Q, A, nL, _, _⟩ := k
  exact fun H locs ls hP hD hS hl => kk H locs ls hP hD hS (lv_sub hl ks h)
theorem y_iload_n (ok : yOk k E cc own fr lo mc ms) {q : Fin 4} (d : decode cc pc = .ok (.iload_n q, 1)) (t : Nat) (h : lv[t]? = some (q.val, .int x)) (kk : yY k E ws cells slots (pc + 1) lv (.int x :: st)) : yY k E ws cells slots pc lv st := by
  obtain ⟨p, l, e, R, s, m, args, below, meth, c0, Q, A, nL, _, _⟩ := k
  exact fun H locs ls hP hD hS hl => lv_iload_n ok.1 ok.2.1 d rfl (lv_at hl t h) (kk H locs ls hP hD hS hl)
theorem y_aload_n (ok : yOk k E cc own fr lo mc ms) {q : Fin 4} (d : decode cc pc = .ok (.aload_n q, 1)) (t : Nat) (h : lv[t]? = some (q.val, .ref a)) (kk : yY k E ws cells slots (pc + 1) lv (.ref a :: st)) : yY k E ws cells slots pc lv st := by
  obtain ⟨p, l, e, R, s, m, args, below, meth, c0, Q, A, nL, _, _⟩ := k
  exact fun H locs ls hP hD hS hl => lv_aload_n ok.1 ok.2.1 d rfl (lv_at hl t h) (kk H locs ls hP hD hS hl)
theorem y_istore_n (ok : yOk k E cc own fr lo mc ms) {q : Fin 4} (d : decode cc pc = .ok (.istore_n q, 1)) (hi : zIn k q.val) (h : (q.val, Value.int x) :: lv.filter (fun z => !(z.1 == q.val) && !(z.1 + 1 == q.val && z.2.category == 2)) = lv') (kk : yY k E ws cells slots (pc + 1) lv' st) : yY k E ws cells slots pc lv (.int x :: st) := by
  obtain ⟨p, l, e, R, s, m, args, below, meth, c0, Q, A, nL, _, _⟩ := k
  exact fun H locs ls hP hD hS hl => lv_istore_n ok.1 ok.2.1 d rfl hl hi h (fun ls' hl' => kk H locs ls' hP hD hS hl')
theorem y_astore_n (ok : yOk k E cc own fr lo mc ms) {q : Fin 4} (d : decode cc pc = .ok (.astore_n q, 1)) (hi : zIn k q.val) (h : (q.val, Value.ref a) :: lv.filter (fun z => !(z.1 == q.val) && !(z.1 + 1 == q.val && z.2.category == 2)) = lv') (kk : yY k E ws cells slots (pc + 1) lv' st) : yY k E ws cells slots pc lv (.ref a :: st) := by
  obtain ⟨p, l, e, R, s, m, args, below, meth, c0, Q, A, nL, _, _⟩ := k
  exact fun H locs ls hP hD hS hl => lv_astore_n ok.1 ok.2.1 d rfl hl hi h (fun ls' hl' => kk H locs ls' hP hD hS hl')
theorem y_iinc (ok : yOk k E cc own fr lo mc ms) {z : Int} (d : decode cc pc = .ok (.iinc i z, 3)) (hi : zIn k i) (t : Nat) (h1 : lv[t]? = some (i, .int x)) (hv : x + Int32.ofInt z = y) (h : (i, Value.int y) :: lv.filter (fun z => !(z.1 == i) && !(z.1 + 1 == i && z.2.category == 2)) = lv') (kk : yY k E ws cells slots (pc + 3) lv' st) : yY k E ws cells slots pc lv st := by
  obtain ⟨p, l, e, R, s, m, args, below, meth, c0, Q, A, nL, _, _⟩ := k
  exact fun H locs ls hP hD hS hl => lv_iinc ok.1 ok.2.1 d hl h1 hv hi h (fun ls' hl' => kk H locs ls' hP hD hS hl')
theorem y_iconst (ok : yOk k E cc own fr lo mc ms) {z : Int} (d : decode cc pc = .ok (.iconst z, 1)) (hv : Int32.ofInt z = x) (kk : yY k E ws cells slots (pc + 1) lv (.int x :: st)) : yY k E ws cells slots pc lv st := by
  obtain ⟨p, l, e, R, s, m, args, below, meth, c0, Q, A, nL, _, _⟩ := k
  exact fun H locs ls hP hD hS hl => lv_iconst ok.1 ok.2.1 d hv (kk H locs ls hP hD hS hl)
theorem y_bipush (ok : yOk k E cc own fr lo mc ms) {z : Int} (d : decode cc pc = .ok (.bipush z, 2)) (hv : (Int8.ofInt z).toInt32 = x) (kk : yY k E ws cells slots (pc + 2) lv (.int x :: st)) : yY k E ws cells slots pc lv st := by
  obtain ⟨p, l, e, R, s, m, args, below, meth, c0, Q, A, nL, _, _⟩ := k
  exact fun H locs ls hP hD hS hl => lv_bipush ok.1 ok.2.1 d hv (kk H locs ls hP hD hS hl)
theorem y_sipush (ok : yOk k E cc own fr lo mc ms) {z : Int} (d : decode cc pc = .ok (.sipush z, 3)) (hv : (Int16.ofInt z).toInt32 = x) (kk : yY k E ws cells slots (pc + 3) lv (.int x :: st)) : yY k E ws cells slots pc lv st := by
  obtain ⟨p, l, e, R, s, m, args, below, meth, c0, Q, A, nL, _, _⟩ := k
  exact fun H locs ls hP hD hS hl => lv_sipush ok.1 ok.2.1 d hv (kk H locs ls hP hD hS hl)
theorem y_dup (ok : yOk k E cc own fr lo mc ms) {va : Value} (d : decode cc pc = .ok (.dup, 1)) (h : va.category = 1) (kk : yY k E ws cells slots (pc + 1) lv (va :: va :: st)) : yY k E ws cells slots pc lv (va :: st) := by
  obtain ⟨p, l, e, R, s, m, args, below, meth, c0, Q, A, nL, _, _⟩ := k
  exact fun H locs ls hP hD hS hl => lv_dup ok.1 ok.2.1 d h (kk H locs ls hP hD hS hl)
theorem y_goto (ok : yOk k E cc own fr lo mc ms) (d : decode cc pc = .ok (.goto off, 3)) (tgt : Nat) (ht : (pc : Int) + off = (tgt : Int)) (kk : yY k E ws cells slots tgt lv st) : yY k E ws cells slots pc lv st := by
  obtain ⟨p, l, e, R, s, m, args, below, meth, c0, Q, A, nL, _, _⟩ := k
  exact fun H locs ls hP hD hS hl => lv_goto ok.1 ok.2.1 d ht (kk H locs ls hP hD hS hl)
theorem y_icmp_ge (ok : yOk k E cc own fr lo mc ms) (d : decode cc pc = .ok (.if_icmp .ge off, 3)) (tgt : Nat) (ht : (pc : Int) + off = (tgt : Int)) (kt : y ≤ x → yY k E ws cells slots tgt lv st) (kf : ¬ y ≤ x → yY k E ws cells slots (pc + 3) lv st) : yY k E ws cells slots pc lv (.int y :: .int x :: st) := by
  obtain ⟨p, l, e, R, s, m, args, below, meth, c0, Q, A, nL, _, _⟩ := k
  exact fun H locs ls hP hD hS hl => lv_icmp_ge ok.1 ok.2.1 d ht (fun q => kt q H locs ls hP hD hS hl) (fun q => kf q H locs ls hP hD hS hl)
theorem y_objinit (ok : yOk k E cc own fr lo mc ms) {idx : Nat} (hw : Cond.methodLink own idx objectInit ∈ zTab) (d : decode cc pc = .ok (.invokespecial idx, 3)) (hroom : 1 ≤ fr ∧ (st.map fun v => v.category).sum + 12 ≤ lo) (kk : yY k E ws cells slots (pc + 3) lv st) : yY k E ws cells slots pc lv (.ref a :: st) := by
  have w1 := ok.word hw
  have w2 := ok.word zw_60
  have w3 := ok.word zw_61
  obtain ⟨p, l, e, R, s, m, args, below, meth, c0, Q, A, nL, _, _⟩ := k
  obtain ⟨hx, hb, hown, hml, hK, hlk, rfl, rfl, hc1, hs1, hA⟩ := id ok
  refine fun H locs ls hP hD hS hl => W.objInit hx hb hown w1 w2 w3 rfl (by rw [hml]; exact hl.1) rfl d hroom.1 ?_ ?_
  · show 2 * 0 + (st.map fun v => v.category).sum + 12 ≤ R.locals
    have := hroom.2
    omega
  · exact W.eq (g2 := F0 m (pc + 3) ls st) rfl (kk H locs ls hP hD hS hl)
theorem y_new (ok : yOk k E cc own fr lo mc ms) {C : String} {T : u_T} {n ci index : Nat} {fs : List Value} (d : decode cc pc = .ok (.new index, 3)) (hin : ∀ w ∈ u_ws C T n, w ∈ zTab) (ty : Nat → FieldType) (hty : ∀ k, k < n → parseFieldDescriptor (T k).2.2.1 = some (ty k)) (h1 : Cond.classLink own index C ∈ zTab) (h2 : Cond.instantiable C n ∈ zTab) (h3 : Cond.initialized C ∈ zTab) (hc : vwCl[ci]? = some (C, T, n)) (hfs : ∀ j, j < n → defaultValue (ty j) = vp_V fs j) (hcells : cells + 1 ≤ mc ∧ slots + n ≤ ms) (kk : ∀ q, yY k E (ws ++ [(q, .inr (ci, fs))]) (cells + 1) (slots + n) (pc + 3) lv (.ref q :: st)) : yY k E ws cells slots pc lv st := by
  have w1 := ok.word h1
  have w2 := ok.word h2
  have w3 := ok.word h3
  obtain ⟨p, l, e, R, s, m, args, below, meth, c0, Q, A, nL, _, _⟩ := k
  obtain ⟨hx, hb, hown, hml, hK, hlk, hfr, hlo, rfl, rfl, hA⟩ := id ok
  exact fun H locs ls hP hD hS hl => va_new (ci := ci) (fs := fs) (C := C) (T := T) (N := n) hx hb (Ts := zTab) (fun _ h => ok.word h) hin ty hty hown w1 w2 w3 hK.1 hP hD hS hA hc hfs hcells.1 hcells.2 d (fun q H1 hP1 hD1 hS1 => kk q H1 locs ls hP1 hD1 hS1 hl)
theorem yT_i {E : yD} {cA : ClassId} {U : State} (h : va_K E.1 vwCl (yT E ++ [(cA, .int)]) U) : cA = E.2.1 := by
  have h0 := (h.2 0 (E.2.1, .int) rfl).2
  have h1 := (h.2 4 (cA, .int) rfl).2
  exact Option.some.inj (h1.symm.trans h0)
theorem yT_c {E : yD} {cA : ClassId} {U : State} (h : va_K E.1 vwCl (yT E ++ [(cA, .char)]) U) : cA = E.2.2.1 := by
  have h0 := (h.2 1 (E.2.2.1, .char) rfl).2
  have h1 := (h.2 4 (cA, .char) rfl).2
  exact Option.some.inj (h1.symm.trans h0)
theorem yT_q {E : yD} {cA : ClassId} {U : State} (h : va_K E.1 vwCl (yT E ++ [(cA, .object RX1)]) U) : cA = E.2.2.2.1 := by
  obtain ⟨k0, c0, -, -, -, h0⟩ := (h.2 2 (E.2.2.2.1, .object RX1) rfl).2
  obtain ⟨k1, c1, -, -, -, h1⟩ := (h.2 4 (cA, .object RX1) rfl).2
  exact Option.some.inj (h1.symm.trans h0)
theorem y_newi (ok : yOk k E cc own fr lo mc ms) (d : decode cc pc = .ok (.newarray .int, 2)) (n : Nat) (hx0 : x = nI n) (hn : n < 10000) (hcells : cells + 1 ≤ mc ∧ slots + n ≤ ms) (kk : ∀ q, yY k E (ws ++ [(q, .inl (E.2.1, n, .inl (fun _ => 0)))]) (cells + 1) (slots + n) (pc + 2) lv (.ref q :: st)) : yY k E ws cells slots pc lv (.int x :: st) := by
  subst hx0
  have w1 := ok.word zw_87
  obtain ⟨p, l, e, R, s, m, args, below, meth, c0, Q, A, nL, _, _⟩ := k
  obtain ⟨hx, hb, hown, hml, hK, hlk, hfr, hlo, rfl, rfl, hA⟩ := id ok
  refine fun H locs ls hP hD hS hl => va_newa (atype := .int) (ty := .int) (a0 := (n, .inl (fun _ => 0))) hx hb w1 rfl hK.1 hP hD hS hA (fun _ => rfl) (nI_pos (by omega)) (nI_clamp (by omega)) (by show n * 4 ≤ 536870912; omega) hcells.1 hcells.2 d (fun q cA H1 hK1 hP1 hD1 hS1 => ?_)
  have e := yT_i hK1
  subst e
  exact kk q H1 locs ls hP1 hD1 hS1 hl
theorem y_newc (ok : yOk k E cc own fr lo mc ms) (d : decode cc pc = .ok (.newarray .char, 2)) (n : Nat) (hx0 : x = nI n) (hn : n < 10000) (hcells : cells + 1 ≤ mc ∧ slots + n ≤ ms) (kk : ∀ q, yY k E (ws ++ [(q, .inl (E.2.2.1, n, .inl (fun _ => 0)))]) (cells + 1) (slots + n) (pc + 2) lv (.ref q :: st)) : yY k E ws cells slots pc lv (.int x :: st) := by
  subst hx0
  have w1 := ok.word zw_201
  obtain ⟨p, l, e, R, s, m, args, below, meth, c0, Q, A, nL, _, _⟩ := k
  obtain ⟨hx, hb, hown, hml, hK, hlk, hfr, hlo, rfl, rfl, hA⟩ := id ok
  refine fun H locs ls hP hD hS hl => va_newa (atype := .char) (ty := .char) (a0 := (n, .inl (fun _ => 0))) hx hb w1 rfl hK.1 hP hD hS hA (fun _ => rfl) (nI_pos (by omega)) (nI_clamp (by omega)) (by show n * 2 ≤ 536870912; omega) hcells.1 hcells.2 d (fun q cA H1 hK1 hP1 hD1 hS1 => ?_)
  have e := yT_c hK1
  subst e
  exact kk q H1 locs ls hP1 hD1 hS1 hl
theorem y_newq (ok : yOk k E cc own fr lo mc ms) {index : Nat} (d : decode cc pc = .ok (.anewarray index, 3)) (hw : Cond.classLink own index RX1 ∈ zTab) (n : Nat) (hx0 : x = nI n) (hn : n < 10000) (hcells : cells + 1 ≤ mc ∧ slots + n ≤ ms) (kk : ∀ q, yY k E (ws ++ [(q, .inl (E.2.2.2.1, n, .inr (.inr (.inr (.inr (fun _ => none))))))]) (cells + 1) (slots + n) (pc + 3) lv (.ref q :: st)) : yY k E ws cells slots pc lv (.int x :: st) := by
  subst hx0
  have w1 := ok.word hw
  obtain ⟨p, l, e, R, s, m, args, below, meth, c0, Q, A, nL, _, _⟩ := k
  obtain ⟨hx, hb, hown, hml, hK, hlk, hfr, hlo, rfl, rfl, hA⟩ := id ok
  refine fun H locs ls hP hD hS hl => va_newq (C := RX1) hx hb hown w1 hK.2.2.1 hK.1 hP hD hS hA (nI_pos (by omega)) (nI_clamp (by omega)) (by omega) hcells.1 hcells.2 d (fun q cA H1 hK1 hP1 hD1 hS1 => ?_)
  have e := yT_q hK1
  subst e
  exact kk q H1 locs ls hP1 hD1 hS1 hl
theorem y_putF (ok : yOk k E cc own fr lo mc ms) (hm : yIn k) {ref C : String} {T : u_T} {n ci index : Nat} {fs : List Value} {v : Value} {ty : FieldType} (d : decode cc pc = .ok (.putfield index, 3)) (hc : vwCl[ci]? = some (C, T, n)) (hin : ∀ w ∈ u_ws C T n, w ∈ zTab) (ty0 : Nat → FieldType) (hty : ∀ k, k < n → parseFieldDescriptor (T k).2.2.1 = some (ty0 k)) (hnm : ∀ a, a < n → ∀ b, b < n → a ≠ b → (T a).2.1 ≠ (T b).2.1) (j : Nat) (hj : j < n) (hw : Cond.fieldLink own index ref (T j).2.1 (T j).2.2.1 ∈ zTab) (hs : ref = (T j).1 ∧ (T j).2.2.2 = true ∧ (T j).1 = own) (hd : parseFieldDescriptor (T j).2.2.1 = some ty) (hn : narrow ty v = v) (hf : fits ty v = true) (hlen : j < fs.length) (kk : yY k E ((a, .inr (ci, fs.set j v)) :: ws) cells slots (pc + 3) lv st) : yY k E ((a, .inr (ci, fs)) :: ws) cells slots pc lv (v :: .ref a :: st) := by
  obtain ⟨hs, hfin, hdecl⟩ := hs
  subst hs
  have w1 := ok.word hw
  obtain ⟨p, l, e, R, s, m, args, below, meth, c0, Q, A, nL, _, _⟩ := k
  exact fun H locs ls hP hD hS hl => va_putF ok.1 ok.2.1 (Ts := zTab) (fun _ h => ok.word h) hin ty0 hty hnm ok.2.2.1 ok.2.2.2.2.1.1 hP hD hS 0 rfl hc j hj w1 (fun _ h => h) hfin hm hdecl hd hn hf hlen d (fun H1 locs1 hP1 hD1 hS1 => kk H1 locs1 ls hP1 hD1 hS1 hl)
theorem y_put (ok : yOk k E cc own fr lo mc ms) {ref C : String} {T : u_T} {n ci index : Nat} {fs : List Value} {v : Value} {ty : FieldType} (d : decode cc pc = .ok (.putfield index, 3)) (hc : vwCl[ci]? = some (C, T, n)) (hin : ∀ w ∈ u_ws C T n, w ∈ zTab) (ty0 : Nat → FieldType) (hty : ∀ k, k < n → parseFieldDescriptor (T k).2.2.1 = some (ty0 k)) (hnm : ∀ a, a < n → ∀ b, b < n → a ≠ b → (T a).2.1 ≠ (T b).2.1) (j : Nat) (hj : j < n) (hw : Cond.fieldLink own index ref (T j).2.1 (T j).2.2.1 ∈ zTab) (hs : ref = (T j).1 ∧ (T j).2.2.2 = false) (hd : parseFieldDescriptor (T j).2.2.1 = some ty) (hn : narrow ty v = v) (hf : fits ty v = true) (hlen : j < fs.length) (kk : yY k E ((a, .inr (ci, fs.set j v)) :: ws) cells slots (pc + 3) lv st) : yY k E ((a, .inr (ci, fs)) :: ws) cells slots pc lv (v :: .ref a :: st) := by
  obtain ⟨hs, hfin⟩ := hs
  subst hs
  have w1 := ok.word hw
  obtain ⟨p, l, e, R, s, m, args, below, meth, c0, Q, A, nL, _, _⟩ := k
  exact fun H locs ls hP hD hS hl => va_put ok.1 ok.2.1 (Ts := zTab) (fun _ h => ok.word h) hin ty0 hty hnm ok.2.2.1 ok.2.2.2.2.1.1 hP hD hS 0 rfl hc j hj w1 (fun _ h => h) hfin hd hn hf hlen d (fun H1 locs1 hP1 hD1 hS1 => kk H1 locs1 ls hP1 hD1 hS1 hl)
theorem y_get (ok : yOk k E cc own fr lo mc ms) {ref C : String} {T : u_T} {n ci index : Nat} {fs : List Value} {v : Value} (d : decode cc pc = .ok (.getfield index, 3)) (hc : vwCl[ci]? = some (C, T, n)) (hin : ∀ w ∈ u_ws C T n, w ∈ zTab) (j : Nat) (hj : j < n) (hw : Cond.fieldLink own index ref (T j).2.1 (T j).2.2.1 ∈ zTab) (hs : ref = (T j).1) (hv : fs[j]? = some v) (kk : yY k E ((a, .inr (ci, fs)) :: ws) cells slots (pc + 3) lv (v :: st)) : yY k E ((a, .inr (ci, fs)) :: ws) cells slots pc lv (.ref a :: st) := by
  subst hs
  have w1 := ok.word hw
  obtain ⟨p, l, e, R, s, m, args, below, meth, c0, Q, A, nL, _, _⟩ := k
  exact fun H locs ls hP hD hS hl => va_get ok.1 ok.2.1 (Ts := zTab) (fun _ h => ok.word h) hin ok.2.2.1 ok.2.2.2.2.1.1 hP 0 rfl hc j hj w1 (fun _ h => h) hv d (kk H locs ls hP hD hS hl)
theorem y_alenq (ok : yOk k E cc own fr lo mc ms) (d : decode cc pc = .ok (.arraylength, 1)) (q0 : Nat) {n : Nat} {f : Nat → Option Nat} (ha : ws[q0]? = some (a, .inl (E.2.2.2.1, n, .inr (.inr (.inr (.inr f)))))) (kk : yY k E ws cells slots (pc + 1) lv (.int (nI n) :: st)) : yY k E ws cells slots pc lv (.ref a :: st) := by
  obtain ⟨p, l, e, R, s, m, args, below, meth, c0, Q, A, nL, _, _⟩ := k
  exact fun H locs ls hP hD hS hl => va_alen ok.1 ok.2.1 ok.2.2.2.2.1.1 hP q0 2 ha rfl rfl d (kk H locs ls hP hD hS hl)
theorem y_aast (ok : yOk k E cc own fr lo mc ms) (d : decode cc pc = .ok (.aastore, 1)) (q0 qk : Nat) {n v : Nat} {f : Nat → Option Nat} {vs : List Value} (ha : ws[q0]? = some (a, .inl (E.2.2.2.1, n, .inr (.inr (.inr (.inr f)))))) (hv : ws[qk]? = some (v, .inr (1, vs))) (c : Nat) (hx : x = nI c) (hcn : c < n) (hn : n < 10000) (kk : yY k E (ws.set q0 (a, .inl (E.2.2.2.1, n, .inr (.inr (.inr (.inr (va_up f c (some v)))))))) cells slots (pc + 1) lv st) : yY k E ws cells slots pc lv (.ref v :: .int x :: .ref a :: st) := by
  subst hx
  obtain ⟨p, l, e, R, s, m, args, below, meth, c0, Q, A, nL, _, _⟩ := k
  intro H locs ls hP hD hS hl
  refine va_astq (r := (RX1, TX1, 15)) ok.1 ok.2.1 ok.2.2.2.2.1.1 hP hD hS q0 2 qk 1 ha rfl hv rfl (zin hcn (by omega)) d (fun H1 locs1 hP1 hD1 hS1 => ?_)
  rw [zcl (by omega)] at hP1 hD1
  exact kk H1 locs1 ls hP1 hD1 hS1 hl
theorem y_vret {S : Type} {X : S → Prop} {post : S → va_W} (ok : yOk k E cc own fr lo mc ms) (hE : yEnd k E X post mc ms) (d : decode cc pc = .ok (.return_, 1)) (u : S) (hX : X u) (hw : ws = post u) : yY k E ws mc ms pc lv [] := by
  subst hw
  obtain ⟨p, l, e, R, s, m, args, below, meth, c0, Q, A, nL, _, _⟩ := k
  obtain ⟨h1, rfl⟩ := hE
  exact fun H locs ls hP hD hS hl => W.vret ok.1 ok.2.1 h1 (fun t ht _ => ⟨⟨u, rfl, hX, by rw [ht]; exact hP, hD⟩, hS.F ht⟩) hS.2.2 d ok.2.2.2.2.2.1
theorem y_join {A0 : Nat → Prop} {D : va_G} {cl : List vw_C} {wr pre w1 : va_W} {H H1 : Heap} (hP : va_P D cl (wr ++ pre) H) (hD : va_D A0 (wr ++ pre)) (hk : ∀ q : Nat, q < H.size → ¬ va_A pre H.size q → H1[q]? = H[q]?) (hF : ∀ q, va_A pre H.size q → A0 q) (hP1 : va_P D cl w1 H1) (hD1 : va_D (va_A pre H.size) w1) : va_P D cl (wr ++ w1) H1 ∧ va_D A0 (wr ++ w1) := by
  have hl : ∀ (j : Nat) (q : Nat × va_E), wr[j]? = some q → (wr ++ pre)[j]? = some q ∧ j < wr.length := by
    intro j q hj
    have := (List.getElem?_eq_some_iff.mp hj).1
    exact ⟨by rw [List.getElem?_append_left this]; exact hj, this⟩
  have hno : ∀ (j : Nat) (q : Nat × va_E), wr[j]? = some q → ¬ va_A pre H.size q.1 := by
    intro j q hj hA
    rcases hA with ⟨i, e, hi⟩ | hA
    · have h2 : (wr ++ pre)[wr.length + i]? = some (q.1, e) := by
        rw [List.getElem?_append_right (by omega), show wr.length + i - wr.length = i by omega]; exact hi
      have := hD.1 j (wr.length + i) q (q.1, e) (hl j q hj).1 h2 rfl
      have := (hl j q hj).2
      omega
    · exact absurd (hP j q (hl j q hj).1).lt (Nat.not_lt.mpr hA)
  have hPr : va_P D cl wr H := fun j q hj => hP j q (hl j q hj).1
  have hDr : va_D A0 wr := ⟨fun i j p q hi hj e => hD.1 i j p q (hl i p hi).1 (hl j q hj).1 e, fun j q hj => hD.2 j q (hl j q hj).1⟩
  refine ⟨(hPr.kept fun j q hj => hk q.1 (hPr j q hj).lt (hno j q hj)).app hP1, hDr.app (hD1.weaken fun _ _ _ h => hF _ h) (fun i j p q hi hj e => hno i p hi (by rw [e]; exact hD1.2 j q hj))⟩
theorem y_cut {D : va_G} {cl : List vw_C} {A0 : Nat → Prop} {wr pre : va_W} {H : Heap} (hP : va_P D cl (wr ++ pre) H) (hD : va_D A0 (wr ++ pre)) : va_P D cl pre H ∧ va_D A0 pre := by
  have hl : ∀ (j : Nat) (q : Nat × va_E), pre[j]? = some q → (wr ++ pre)[wr.length + j]? = some q := by
    intro j q hj
    rw [List.getElem?_append_right (by omega), show wr.length + j - wr.length = j by omega]; exact hj
  refine ⟨fun j q hj => hP _ q (hl j q hj), fun i j p q hi hj e => ?_, fun j q hj => hD.2 _ q (hl j q hj)⟩
  have := hD.1 _ _ p q (hl i p hi) (hl j q hj) e
  omega
theorem y_freeA {A0 : Nat → Prop} {wr pre : va_W} {H0 H : Heap} {locs : List Loc} (hD : va_D A0 (wr ++ pre)) (hS : va_S A0 H0 H locs) (hA : ∀ q, H0.size ≤ q → A0 q) : ∀ q, va_A pre H.size q → A0 q := by
  intro q h
  rcases h with ⟨i, e, hi⟩ | h
  · have h2 : (wr ++ pre)[wr.length + i]? = some (q, e) := by
      rw [List.getElem?_append_right (by omega), show wr.length + i - wr.length = i by omega]; exact hi
    exact hD.2 _ _ h2
  · exact hA q (Nat.le_trans hS.1 h)
/-- what a maker is called by -/
def zYI (y : MethodName) (cc : ByteArray) (maxL : Nat) : Prop := Cond.instanceMethod y ∈ zTab ∧ Cond.initialized y.cls ∈ zTab ∧ Cond.code y cc maxL none ∈ zTab ∧ y.cls ≠ "java/lang/invoke/MethodHandle" ∧ y.cls ≠ "java/lang/invoke/VarHandle" ∧ (parseMethodDescriptor y.desc).map (fun d => d.parameters.length) = some 0 ∧ y.name = "<init>"
theorem y_ctorN (ok : yOk k E cc own fr lo mc ms) {yy : MethodName} {cy : ByteArray} {maxL fy ly mcy msy index q : Nat} {host : String} {S : Type} {wr pre : va_W} {X : S → Prop} {post : S → va_W} {rest : List Value} (d : decode cc pc = .ok (.invokespecial index, 3)) (hM : zI yy cy maxL fy ly mcy msy E q pre X post) (hY : zYI yy cy maxL) (hw : Cond.methodLinkNest own index yy host ∈ zTab) (hroom : fy + 1 ≤ fr ∧ 8 + (maxL + 11) + ly ≤ lo) (hrest : (rest.map fun v => v.category).sum ≤ 8) (hcells : cells + mcy ≤ mc ∧ slots + msy ≤ ms) (kk : ∀ u : S, X u → yY k E (wr ++ post u) (cells + mcy) (slots + msy) (pc + 3) lv rest) : yY k E (wr ++ pre) cells slots pc lv (.ref q :: rest) := by
  obtain ⟨p, l, e, R, s, m, args, below, meth, c0, Q, A, nL, _, _⟩ := k
  intro H locs ls hP hD hS hl
  obtain ⟨y1, y2, y3, y4, y5, y6, y7⟩ := hY
  obtain ⟨hx, hb, hown, hml, hK, hlk, rfl, rfl, rfl, rfl, hA⟩ := id ok
  have hFc := y_freeA hD hS hA
  refine va_callv (va_runIN (nL := nL) (Ts := zTab) (own := own) (host := host) (As := []) (rest := rest) (n := 0) ⟨hx, hb, hml, hown, fun _ h => ok.word h⟩ (hM l H.size) ⟨va_cnB 0 (Ts := zTab) (fun _ h => ok.word h) (fun w hw => ?_) rfl rfl rfl (va_Nw.of rfl (ok.word hw)) (ok.word y2) ⟨y4, y5, y6⟩ hroom, y7, ok.word y1⟩ ⟨fun a U g mk q => ⟨q.1, q.2.1, q.2.2.1, yK.moved (State.WarmedH.refl U) (fun _ _ _ => rfl) (fun _ h => h) q.2.2.2.1, q.2.2.2.2⟩, fun U hU hW => ⟨rfl, by rw [hU], by rw [hU]; exact (y_cut hP hD).1, ?_, (y_cut hP hD).2.weaken (fun _ _ _ _ => trivial)⟩⟩ rfl rfl hl.1 rfl (lv_room hrest) d hcells) hS (fun q _ h => hFc q h) hFc (fun u t H1 locs1 ht hvm hw2 hB hz1 hk1 hS1 => ?_)
  · rw [List.mem_singleton.mp hw]
    exact ⟨y3, Or.inl rfl⟩
  · subst hU
    exact yK.moved hW (fun a h1 h2 => hS.2.1 a h1 h2) hFc hK
  · subst ht
    obtain ⟨hP1, hD1⟩ := y_join hP hD hk1 hFc hB.1 hB.2
    exact kk u hw2 t.heap locs1 ls hP1 hD1 hS1 hl
theorem y_ctor (ok : yOk k E cc own fr lo mc ms) {yy : MethodName} {cy : ByteArray} {maxL fy ly mcy msy index q : Nat} {S : Type} {wr pre : va_W} {X : S → Prop} {post : S → va_W} {rest : List Value} (d : decode cc pc = .ok (.invokespecial index, 3)) (hM : zI yy cy maxL fy ly mcy msy E q pre X post) (hY : zYI yy cy maxL) (hw : Cond.methodLink own index yy ∈ zTab) (hroom : fy + 1 ≤ fr ∧ 8 + (maxL + 11) + ly ≤ lo) (hrest : (rest.map fun v => v.category).sum ≤ 8) (hcells : cells + mcy ≤ mc ∧ slots + msy ≤ ms) (kk : ∀ u : S, X u → yY k E (wr ++ post u) (cells + mcy) (slots + msy) (pc + 3) lv rest) : yY k E (wr ++ pre) cells slots pc lv (.ref q :: rest) := by
  obtain ⟨p, l, e, R, s, m, args, below, meth, c0, Q, A, nL, _, _⟩ := k
  intro H locs ls hP hD hS hl
  obtain ⟨y1, y2, y3, y4, y5, y6, y7⟩ := hY
  obtain ⟨hx, hb, hown, hml, hK, hlk, rfl, rfl, rfl, rfl, hA⟩ := id ok
  have hFc := y_freeA hD hS hA
  refine va_callv (va_runI (nL := nL) (Ts := zTab) (own := own) (As := []) (rest := rest) (n := 0) ⟨hx, hb, hml, hown, fun _ h => ok.word h⟩ (hM l H.size) (cwI 0 (Ts := zTab) (fun _ h => ok.word h) (fun w hw => ?_) rfl rfl rfl (ok.word y2) (ok.word hw) (ok.word y1) y7 ⟨y4, y5, y6⟩ hroom) ⟨fun a U g mk q => ⟨q.1, q.2.1, q.2.2.1, yK.moved (State.WarmedH.refl U) (fun _ _ _ => rfl) (fun _ h => h) q.2.2.2.1, q.2.2.2.2⟩, fun U hU hW => ⟨rfl, by rw [hU], by rw [hU]; exact (y_cut hP hD).1, ?_, (y_cut hP hD).2.weaken (fun _ _ _ _ => trivial)⟩⟩ rfl rfl hl.1 rfl (lv_room hrest) d hcells) hS (fun q _ h => hFc q h) hFc (fun u t H1 locs1 ht hvm hw2 hB hz1 hk1 hS1 => ?_)
  · rw [List.mem_singleton.mp hw]
    exact ⟨y3, Or.inl rfl⟩
  · subst hU
    exact yK.moved hW (fun a h1 h2 => hS.2.1 a h1 h2) hFc hK
  · subst ht
    obtain ⟨hP1, hD1⟩ := y_join hP hD hk1 hFc hB.1 hB.2
    exact kk u hw2 t.heap locs1 ls hP1 hD1 hS1 hl
/-- the cells told in another order -/
theorem y_perm (is : List Nat) (hn : va_nd is = true) (hs : is.map (fun i => ws[i]?) = ws'.map some) (kk : yY k E ws' cells slots pc lv st) : yY k E ws cells slots pc lv st := by
  obtain ⟨p, l, e, R, s, m, args, below, meth, c0, Q, A, nL, _, _⟩ := k
  intro H locs ls hP hD hS hl
  refine kk H locs ls (hP.sub is ?_) (hD.sub is hn hs) hS hl
  have h2 : ∀ (L : List Nat) (w : va_W), L.map (fun i => ws[i]?) = w.map some → L.filterMap (fun i => ws[i]?) = w := by
    intro L
    induction L with
    | nil => intro w h; cases w with
      | nil => rfl
      | cons b w => simp at h
    | cons b L ih =>
      intro w h
      cases w with
      | nil => simp at h
      | cons x w =>
        simp only [List.map_cons, List.cons.injEq] at h
        rw [List.filterMap_cons_some h.1, ih w h.2]
  exact h2 is ws' hs
/-- the first cell told last -/
theorem y_rot {c : Nat × va_E} (kk : yY k E (c :: ws) cells slots pc lv st) : yY k E (ws ++ [c]) cells slots pc lv st := by
  obtain ⟨p, l, e, R, s, m, args, below, meth, c0, Q, A, nL, _, _⟩ := k
  intro H locs ls hP hD hS hl
  have hr := y_cut hP hD
  have hl' : ∀ (j : Nat) (q : Nat × va_E), ws[j]? = some q → (ws ++ [c])[j]? = some q ∧ j < ws.length := by
    intro j q hj
    have := (List.getElem?_eq_some_iff.mp hj).1
    exact ⟨by rw [List.getElem?_append_left this]; exact hj, this⟩
  have hPl : va_P E.1 vwCl ws H := fun j q hj => hP j q (hl' j q hj).1
  have hDl : va_D A ws := ⟨fun i j p q hi hj e => hD.1 i j p q (hl' i p hi).1 (hl' j q hj).1 e, fun j q hj => hD.2 j q (hl' j q hj).1⟩
  refine kk H locs ls (hr.1.app hPl) (hr.2.app hDl (fun i j p q hi hj e => ?_)) hS hl
  have hi0 : i < 1 := (List.getElem?_eq_some_iff.mp hi).1
  have h1 : (ws ++ [c])[ws.length + i]? = some p := by
    rw [List.getElem?_append_right (by omega), show ws.length + i - ws.length = i by omega]; exact hi
  have := hD.1 _ _ p q h1 (hl' j q hj).1 e
  have := (hl' j q hj).2
  omega
end YR
