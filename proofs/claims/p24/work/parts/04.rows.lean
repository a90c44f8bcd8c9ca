/-! walking over worlds: a method's setting k, and 'from this world, place, locals and stack the machine comes to its end' -/
/-- the static rows of the class: what FIRST_ROW and FIRST_TOWERS hold -/
def zRow0 : Nat → Int32 := fun j => [1, 3, 0, 2, 3, 1].getD j 0
def zRow1n : Nat → Nat := fun j => [0, 5, 14, 21, 30, 35].getD j 0
def zRow1 : Nat → Int32 := fun j => nI (zRow1n j)
theorem zRow1_lt (j : Nat) : zRow1n j < 36 := by
  by_cases h : j < 6
  · rcases (by omega : j = 0 ∨ j = 1 ∨ j = 2 ∨ j = 3 ∨ j = 4 ∨ j = 5) with rfl | rfl | rfl | rfl | rfl | rfl <;> decide
  · have : zRow1n j = 0 := by unfold zRow1n; simp [List.getD, List.getElem?_eq_none (show [0, 5, 14, 21, 30, 35].length ≤ j by simp; omega)]
    omega
def zStat (A : Nat → Prop) (U : State) (H : Heap) : Prop :=
  (∃ t, va_Z RX2 "FIRST_ROW" "[I" (.ref t) A U H ∧ va_T .int t 6 (fun j => .int (zRow0 j)) A U H) ∧ (∃ t, va_Z RX2 "FIRST_TOWERS" "[I" (.ref t) A U H ∧ va_T .int t 6 (fun j => .int (zRow1 j)) A U H)
theorem zStat.moved {A : Nat → Prop} {u U : State} {H H1 : Heap} (hvm : u.vm.Alike U.vm) (hq : ∀ a : Nat, a < H.size → ¬ A a → H1[a]? = H[a]?) (h : zStat A u H) : zStat A U H1 := by
  obtain ⟨⟨t, h1, h2⟩, ⟨r, h3, h4⟩⟩ := h
  exact ⟨⟨t, (h1.moved hvm).kept hq, (h2.moved hvm).kept hq⟩, ⟨r, (h3.moved hvm).kept hq, (h4.moved hvm).kept hq⟩⟩
def zA (G : zG) (N : Nat) : Nat → Prop := fun q => ∃ i, i < N ∧ q = zad G i
def zTys (G : zG) : List (ClassId × FieldType) := [(G.2.1, .int), (G.2.2.1, .char), (G.2.2.2.1, .object RX1), (G.2.2.2.2.1, .long)]
def zK (G : zG) (N : Nat) (U : State) (H : Heap) : Prop := va_K G.1 vwCl (zTys G) U ∧ zWs U ∧ zStat (zA G N) U H
theorem zK.moved {G : zG} {N : Nat} {u U : State} {H H1 : Heap} (hW : u.WarmedH U.vm) (hq : ∀ a : Nat, a < H.size → ¬ zA G N a → H1[a]? = H[a]?) (h : zK G N u H) : zK G N U H1 :=
  ⟨va_K.moved hW.alike h.1, zWs_move hW h.2.1, h.2.2.moved hW.alike hq⟩
def zGeo (G : zG) (N : Nat) : Prop := N ≤ 48 ∧ ∀ i j, i < N → j < N → zad G i = zad G j → i = j
theorem zGeo.D {G : zG} {N : Nat} {A : Nat → Prop} (h : zGeo G N) (hA : ∀ i, i < N → A (zad G i)) (w : xW) : va_D A (zws G N w) := by
  have key : ∀ (i : Nat) (p : Nat × va_E), (zws G N w)[i]? = some p → i < N ∧ p.1 = zad G i := by
    intro i p hp
    by_cases hi : i < N
    · rw [zws_get w hi] at hp
      cases hp
      exact ⟨hi, rfl⟩
    · rw [List.getElem?_eq_none (by simp [zws]; omega)] at hp
      cases hp
  refine ⟨fun i j p q hi hj e => ?_, fun i q hi => ?_⟩
  · obtain ⟨h1, h2⟩ := key i p hi
    obtain ⟨h3, h4⟩ := key j q hj
    exact h.2 i j h1 h3 (by rw [← h2, ← h4, e])
  · obtain ⟨h1, h2⟩ := key i q hi
    rw [h2]
    exact hA i h1
abbrev zC : Type := Program × Launch × Env × Room × State × MethodId × Array Value × List Frame × Method × Code × (State → Prop) × (Nat → Prop) × Nat × Nat × Nat
/-- the slot is one of the frame's: it was asked of the method's locals -/
def zIn (k : zC) (i : Nat) : Prop := i < k.2.2.2.2.2.2.2.2.2.2.2.2.1
def zZ (k : zC) (G : zG) (N : Nat) (w : xW) (pc : Nat) (lv : List (Nat × Value)) (st : List Value) : Prop := match k with
  | (p, l, e, R, s, m, args, below, meth, c, Q, A, nL, cells, slots) => ∀ (H : Heap) (locs : List Loc) (ls : Array Slot), va_P G.1 vwCl (zws G N w) H → va_S A s.heap H locs → lv_has ls nL lv → W p l e R s m args below meth c H locs cells slots Q (F0 m pc ls st)
/-- the setting: its code, its class, the frames and words that it has left -/
def zOk (k : zC) (G : zG) (N : Nat) (cc : ByteArray) (own : String) (fr lo : Nat) : Prop := match k with
  | (p, _, _, R, s, m, _, _, meth, c, _, A, nL, cells, slots) => p.tables.exec = Jvm.exec ∧ c.code = cc ∧ s.vm.findClass own = some m.cls ∧ c.maxLocals = nL ∧ zK G N s s.heap ∧ zGeo G N ∧ meth.locks = false ∧ R.frames = fr ∧ R.locals = lo ∧ cells ≤ R.cells ∧ slots ≤ R.slots ∧ (∀ i, i < N → A (zad G i)) ∧ nL < 1000
/-- how the setting ends: it answers r and leaves the world u -/
def zEnd (k : zC) (G : zG) (N : Nat) (ret : Option FieldType) (r : Option Int32) (u : xW) : Prop := match k with
  | (_, _, _, _, s, _, args, below, meth, _, Q, A, _, cells, slots) => meth.sig.returnType = ret ∧ A = zA G N ∧ cells = 0 ∧ slots = 0 ∧ Q = MQ below (fun _ st o t => (o = .returned (r.map Value.int) ∧ va_P G.1 vwCl (zws G N u) t.heap) ∧ va_F (zA G N) st t) args s 0 0 (zA G N)
def zPc (G : zG) (N : Nat) (w : xW) (args : List Value) : Array Value → State → Prop := va_Pc args (fun U => va_P G.1 vwCl (zws G N w) U.heap ∧ zK G N U U.heap)
/-- a method's contract: from the world w it answers r (or nothing) and leaves the world u -/
def zM (y : MethodName) (cc : ByteArray) (maxL : Nat) (ret : Option FieldType) (fr lo : Nat) (G : zG) (N : Nat) (args : List Value) (w : xW) (r : Option Int32) (u : xW) : Prop :=
  ∀ l : Launch, Met l y [.code y cc maxL ret] { frames := fr, cells := 0, slots := 0, locals := lo } (zPc G N w args) (fun _ st o t => (o = .returned (r.map Value.int) ∧ va_P G.1 vwCl (zws G N u) t.heap) ∧ va_F (zA G N) st t) 0 0 (zA G N)
theorem zM_of {y : MethodName} {cc : ByteArray} {maxL : Nat} {ret : Option FieldType} {fr lo : Nat} {G : zG} {N : Nat} {args : List Value} {w : xW} {r : Option Int32} {u : xW} {lv : List (Nat × Value)} (hy : plainName y.cls = true) (hg : zGeo G N) (hn : (lg_sl args).length ≤ maxL ∧ maxL < 1000) (hlv : lv_args 0 args = lv)
    (body : ∀ k : zC, zOk k G N cc y.cls fr lo → zEnd k G N ret r u → (∀ i, i < maxL → zIn k i) → zZ k G N w 0 lv []) : zM y cc maxL ret fr lo G N args w r u := by
  intro l
  refine Met.ofW (cc := cc) (maxL := maxL) (ret := ret) hy rfl ?_
  intro p e s m args' below meth c s₁ B hml hv
  obtain ⟨rfl, hP, hK⟩ := hv
  have hx := B.exec
  have hb := B.bytes
  have hr := B.returns
  have hown : s.vm.findClass y.cls = some m.cls := findClass_of_methodNamed B.named
  have hlocks := B.notSynchronized
  have hl := lv_entry args (n := maxL) hn.1
  rw [hlv] at hl
  rw [lg_entry_eq]
  exact body (p, l, e, (headSpec [.code y cc maxL ret] { frames := fr, cells := 0, slots := 0, locals := lo }).room, s, m, args.toArray, below, meth, c, _, zA G N, maxL, 0, 0) ⟨hx, hb, hown, hml, hK, hg, hlocks, rfl, rfl, Nat.zero_le _, Nat.zero_le _, fun i hi => ⟨i, hi, rfl⟩, hn.2⟩ ⟨hr, rfl, rfl, rfl, rfl⟩ (fun _ h => h) s.heap [] _ hP va_S.rf hl
section ZR
variable {k : zC} {G : zG} {N : Nat} {cc : ByteArray} {own : String} {fr lo : Nat} {w u : xW} {pc tgt : Nat} {lv lv' : List (Nat × Value)} {st : List Value} {x y : Int32} {i j c n a b : Nat} {off : Int}
theorem zOk.word (ok : zOk k G N cc own fr lo) {c : Cond} (h : c ∈ zTab) : c.before (k.2.2.2.2.2.2.1) (k.2.2.2.2.1) = true := by
  obtain ⟨p, l, e, R, s, m, args, below, meth, c0, Q, A, nL, cells, slots⟩ := k
  exact ok.2.2.2.2.1.2.1 _ h _
theorem z_locs (ks : List Nat) (h : lv_pick lv ks = lv') (kk : zZ k G N w pc lv' st) : zZ k G N w pc lv st := by
  obtain ⟨p, l, e, R, s, m, args, below, meth, c0, Q, A, nL, cells, slots⟩ := k
  exact fun H locs ls hP hS hl => kk H locs ls hP hS (lv_sub hl ks h)
theorem z_eq {w' : xW} {lv' : List (Nat × Value)} {st' : List Value} (kk : zZ k G N w' pc lv' st') (hw : w = w') (hl : lv = lv') (hs : st = st') : zZ k G N w pc lv st := by subst hw; subst hl; subst hs; exact kk
theorem z_iload_n (ok : zOk k G N cc own fr lo) {q : Fin 4} (d : decode cc pc = .ok (.iload_n q, 1)) (t : Nat) (h : lv[t]? = some (q.val, .int x)) (kk : zZ k G N w (pc + 1) lv (.int x :: st)) : zZ k G N w pc lv st := by
  obtain ⟨p, l, e, R, s, m, args, below, meth, c0, Q, A, nL, cells, slots⟩ := k
  exact fun H locs ls hP hS hl => lv_iload_n ok.1 ok.2.1 d rfl (lv_at hl t h) (kk H locs ls hP hS hl)
theorem z_iload (ok : zOk k G N cc own fr lo) (d : decode cc pc = .ok (.iload i, 2)) (t : Nat) (h : lv[t]? = some (i, .int x)) (kk : zZ k G N w (pc + 2) lv (.int x :: st)) : zZ k G N w pc lv st := by
  obtain ⟨p, l, e, R, s, m, args, below, meth, c0, Q, A, nL, cells, slots⟩ := k
  exact fun H locs ls hP hS hl => lv_iload ok.1 ok.2.1 d (lv_at hl t h) (kk H locs ls hP hS hl)
theorem z_aload_n (ok : zOk k G N cc own fr lo) {q : Fin 4} (d : decode cc pc = .ok (.aload_n q, 1)) (t : Nat) (h : lv[t]? = some (q.val, .ref a)) (kk : zZ k G N w (pc + 1) lv (.ref a :: st)) : zZ k G N w pc lv st := by
  obtain ⟨p, l, e, R, s, m, args, below, meth, c0, Q, A, nL, cells, slots⟩ := k
  exact fun H locs ls hP hS hl => lv_aload_n ok.1 ok.2.1 d rfl (lv_at hl t h) (kk H locs ls hP hS hl)
theorem z_aload (ok : zOk k G N cc own fr lo) (d : decode cc pc = .ok (.aload i, 2)) (t : Nat) (h : lv[t]? = some (i, .ref a)) (kk : zZ k G N w (pc + 2) lv (.ref a :: st)) : zZ k G N w pc lv st := by
  obtain ⟨p, l, e, R, s, m, args, below, meth, c0, Q, A, nL, cells, slots⟩ := k
  exact fun H locs ls hP hS hl => lv_aload ok.1 ok.2.1 d (lv_at hl t h) (kk H locs ls hP hS hl)
theorem z_istore_n (ok : zOk k G N cc own fr lo) {q : Fin 4} (d : decode cc pc = .ok (.istore_n q, 1)) (hi : zIn k q.val) (h : (q.val, Value.int x) :: lv.filter (fun z => !(z.1 == q.val) && !(z.1 + 1 == q.val && z.2.category == 2)) = lv') (kk : zZ k G N w (pc + 1) lv' st) : zZ k G N w pc lv (.int x :: st) := by
  obtain ⟨p, l, e, R, s, m, args, below, meth, c0, Q, A, nL, cells, slots⟩ := k
  exact fun H locs ls hP hS hl => lv_istore_n ok.1 ok.2.1 d rfl hl hi h (fun ls' hl' => kk H locs ls' hP hS hl')
theorem z_istore (ok : zOk k G N cc own fr lo) (d : decode cc pc = .ok (.istore i, 2)) (hi : zIn k i) (h : (i, Value.int x) :: lv.filter (fun z => !(z.1 == i) && !(z.1 + 1 == i && z.2.category == 2)) = lv') (kk : zZ k G N w (pc + 2) lv' st) : zZ k G N w pc lv (.int x :: st) := by
  obtain ⟨p, l, e, R, s, m, args, below, meth, c0, Q, A, nL, cells, slots⟩ := k
  exact fun H locs ls hP hS hl => lv_istore ok.1 ok.2.1 d hl hi h (fun ls' hl' => kk H locs ls' hP hS hl')
theorem z_astore_n (ok : zOk k G N cc own fr lo) {q : Fin 4} (d : decode cc pc = .ok (.astore_n q, 1)) (hi : zIn k q.val) (h : (q.val, Value.ref a) :: lv.filter (fun z => !(z.1 == q.val) && !(z.1 + 1 == q.val && z.2.category == 2)) = lv') (kk : zZ k G N w (pc + 1) lv' st) : zZ k G N w pc lv (.ref a :: st) := by
  obtain ⟨p, l, e, R, s, m, args, below, meth, c0, Q, A, nL, cells, slots⟩ := k
  exact fun H locs ls hP hS hl => lv_astore_n ok.1 ok.2.1 d rfl hl hi h (fun ls' hl' => kk H locs ls' hP hS hl')
theorem z_astore (ok : zOk k G N cc own fr lo) (d : decode cc pc = .ok (.astore i, 2)) (hi : zIn k i) (h : (i, Value.ref a) :: lv.filter (fun z => !(z.1 == i) && !(z.1 + 1 == i && z.2.category == 2)) = lv') (kk : zZ k G N w (pc + 2) lv' st) : zZ k G N w pc lv (.ref a :: st) := by
  obtain ⟨p, l, e, R, s, m, args, below, meth, c0, Q, A, nL, cells, slots⟩ := k
  exact fun H locs ls hP hS hl => lv_astore ok.1 ok.2.1 d hl hi h (fun ls' hl' => kk H locs ls' hP hS hl')
theorem z_iinc (ok : zOk k G N cc own fr lo) {z : Int} (d : decode cc pc = .ok (.iinc i z, 3)) (hi : zIn k i) (t : Nat) (h1 : lv[t]? = some (i, .int x)) (hv : x + Int32.ofInt z = y) (h : (i, Value.int y) :: lv.filter (fun z => !(z.1 == i) && !(z.1 + 1 == i && z.2.category == 2)) = lv') (kk : zZ k G N w (pc + 3) lv' st) : zZ k G N w pc lv st := by
  obtain ⟨p, l, e, R, s, m, args, below, meth, c0, Q, A, nL, cells, slots⟩ := k
  exact fun H locs ls hP hS hl => lv_iinc ok.1 ok.2.1 d hl h1 hv hi h (fun ls' hl' => kk H locs ls' hP hS hl')
theorem z_iconst (ok : zOk k G N cc own fr lo) {z : Int} (d : decode cc pc = .ok (.iconst z, 1)) (hv : Int32.ofInt z = x) (kk : zZ k G N w (pc + 1) lv (.int x :: st)) : zZ k G N w pc lv st := by
  obtain ⟨p, l, e, R, s, m, args, below, meth, c0, Q, A, nL, cells, slots⟩ := k
  exact fun H locs ls hP hS hl => lv_iconst ok.1 ok.2.1 d hv (kk H locs ls hP hS hl)
theorem z_bipush (ok : zOk k G N cc own fr lo) {z : Int} (d : decode cc pc = .ok (.bipush z, 2)) (hv : (Int8.ofInt z).toInt32 = x) (kk : zZ k G N w (pc + 2) lv (.int x :: st)) : zZ k G N w pc lv st := by
  obtain ⟨p, l, e, R, s, m, args, below, meth, c0, Q, A, nL, cells, slots⟩ := k
  exact fun H locs ls hP hS hl => lv_bipush ok.1 ok.2.1 d hv (kk H locs ls hP hS hl)
theorem z_sipush (ok : zOk k G N cc own fr lo) {z : Int} (d : decode cc pc = .ok (.sipush z, 3)) (hv : (Int16.ofInt z).toInt32 = x) (kk : zZ k G N w (pc + 3) lv (.int x :: st)) : zZ k G N w pc lv st := by
  obtain ⟨p, l, e, R, s, m, args, below, meth, c0, Q, A, nL, cells, slots⟩ := k
  exact fun H locs ls hP hS hl => lv_sipush ok.1 ok.2.1 d hv (kk H locs ls hP hS hl)
theorem z_iadd (ok : zOk k G N cc own fr lo) (d : decode cc pc = .ok (.iadd, 1)) (kk : zZ k G N w (pc + 1) lv (.int (x + y) :: st)) : zZ k G N w pc lv (.int y :: .int x :: st) := by
  obtain ⟨p, l, e, R, s, m, args, below, meth, c0, Q, A, nL, cells, slots⟩ := k
  exact fun H locs ls hP hS hl => lv_iadd ok.1 ok.2.1 d (kk H locs ls hP hS hl)
theorem z_iadd_n (ok : zOk k G N cc own fr lo) (d : decode cc pc = .ok (.iadd, 1)) (a b : Nat) (hx : x = nI a) (hy : y = nI b) (kk : zZ k G N w (pc + 1) lv (.int (nI (a + b)) :: st)) : zZ k G N w pc lv (.int y :: .int x :: st) := by
  subst hx; subst hy
  exact z_iadd ok d (by rw [nI_add]; exact kk)
theorem z_isub (ok : zOk k G N cc own fr lo) (d : decode cc pc = .ok (.isub, 1)) (kk : zZ k G N w (pc + 1) lv (.int (x - y) :: st)) : zZ k G N w pc lv (.int y :: .int x :: st) := by
  obtain ⟨p, l, e, R, s, m, args, below, meth, c0, Q, A, nL, cells, slots⟩ := k
  exact fun H locs ls hP hS hl => lv_isub ok.1 ok.2.1 d (kk H locs ls hP hS hl)
theorem z_isub_n (ok : zOk k G N cc own fr lo) (d : decode cc pc = .ok (.isub, 1)) (a b : Nat) (hx : x = nI a) (hy : y = nI b) (h : b ≤ a) (kk : zZ k G N w (pc + 1) lv (.int (nI (a - b)) :: st)) : zZ k G N w pc lv (.int y :: .int x :: st) := by
  subst hx; subst hy
  exact z_isub ok d (by rw [pk_sub h]; exact kk)
theorem z_imul (ok : zOk k G N cc own fr lo) (d : decode cc pc = .ok (.imul, 1)) (kk : zZ k G N w (pc + 1) lv (.int (x * y) :: st)) : zZ k G N w pc lv (.int y :: .int x :: st) := by
  obtain ⟨p, l, e, R, s, m, args, below, meth, c0, Q, A, nL, cells, slots⟩ := k
  exact fun H locs ls hP hS hl => lv_imul ok.1 ok.2.1 d (kk H locs ls hP hS hl)
theorem z_imul_n (ok : zOk k G N cc own fr lo) (d : decode cc pc = .ok (.imul, 1)) (a b : Nat) (hx : x = nI a) (hy : y = nI b) (kk : zZ k G N w (pc + 1) lv (.int (nI (a * b)) :: st)) : zZ k G N w pc lv (.int y :: .int x :: st) := by
  subst hx; subst hy
  exact z_imul ok d (by rw [pk_mul]; exact kk)
theorem z_iand (ok : zOk k G N cc own fr lo) (d : decode cc pc = .ok (.iand, 1)) (kk : zZ k G N w (pc + 1) lv (.int (x &&& y) :: st)) : zZ k G N w pc lv (.int y :: .int x :: st) := by
  obtain ⟨p, l, e, R, s, m, args, below, meth, c0, Q, A, nL, cells, slots⟩ := k
  exact fun H locs ls hP hS hl => lv_iand ok.1 ok.2.1 d (kk H locs ls hP hS hl)
theorem z_ineg (ok : zOk k G N cc own fr lo) (d : decode cc pc = .ok (.ineg, 1)) (kk : zZ k G N w (pc + 1) lv (.int (-x) :: st)) : zZ k G N w pc lv (.int x :: st) := by
  obtain ⟨p, l, e, R, s, m, args, below, meth, c0, Q, A, nL, cells, slots⟩ := k
  exact fun H locs ls hP hS hl => lv_ineg ok.1 ok.2.1 d (kk H locs ls hP hS hl)
theorem z_idiv (ok : zOk k G N cc own fr lo) (d : decode cc pc = .ok (.idiv, 1)) (h : ¬ y = 0) (kk : zZ k G N w (pc + 1) lv (.int (x / y) :: st)) : zZ k G N w pc lv (.int y :: .int x :: st) := by
  obtain ⟨p, l, e, R, s, m, args, below, meth, c0, Q, A, nL, cells, slots⟩ := k
  exact fun H locs ls hP hS hl => lv_idiv ok.1 ok.2.1 d h (kk H locs ls hP hS hl)
theorem z_idiv_n (ok : zOk k G N cc own fr lo) (d : decode cc pc = .ok (.idiv, 1)) (a b : Nat) (hx : x = nI a) (hy : y = nI b) (ha : a < 2147483648) (h0 : 0 < b) (hb : b < 2147483648) (kk : zZ k G N w (pc + 1) lv (.int (nI (a / b)) :: st)) : zZ k G N w pc lv (.int y :: .int x :: st) := by
  subst hx; subst hy
  exact z_idiv ok d (nI_ne0 h0 hb) (by rw [pk_div ha h0 hb]; exact kk)
theorem z_irem_n (ok : zOk k G N cc own fr lo) (d : decode cc pc = .ok (.irem, 1)) (a b : Nat) (hx : x = nI a) (hy : y = nI b) (ha : a < 2147483648) (h0 : 0 < b) (hb : b < 2147483648) (kk : zZ k G N w (pc + 1) lv (.int (nI (a % b)) :: st)) : zZ k G N w pc lv (.int y :: .int x :: st) := by
  subst hx; subst hy
  rw [← pk_rem ha h0 hb] at kk
  obtain ⟨p, l, e, R, s, m, args, below, meth, c0, Q, A, nL, cells, slots⟩ := k
  exact fun H locs ls hP hS hl => lv_irem ok.1 ok.2.1 d (nI_ne0 h0 hb) (kk H locs ls hP hS hl)
theorem z_irem (ok : zOk k G N cc own fr lo) (d : decode cc pc = .ok (.irem, 1)) (h : ¬ y = 0) (kk : zZ k G N w (pc + 1) lv (.int (x - x / y * y) :: st)) : zZ k G N w pc lv (.int y :: .int x :: st) := by
  obtain ⟨p, l, e, R, s, m, args, below, meth, c0, Q, A, nL, cells, slots⟩ := k
  exact fun H locs ls hP hS hl => lv_irem ok.1 ok.2.1 d h (kk H locs ls hP hS hl)
theorem z_i2c (ok : zOk k G N cc own fr lo) (d : decode cc pc = .ok (.i2c, 1)) (kk : zZ k G N w (pc + 1) lv (.int (zc x) :: st)) : zZ k G N w pc lv (.int x :: st) := by
  obtain ⟨p, l, e, R, s, m, args, below, meth, c0, Q, A, nL, cells, slots⟩ := k
  exact fun H locs ls hP hS hl => lv_i2c ok.1 ok.2.1 d (zc_eq x).symm (kk H locs ls hP hS hl)
theorem z_dup (ok : zOk k G N cc own fr lo) {va : Value} (d : decode cc pc = .ok (.dup, 1)) (h : va.category = 1) (kk : zZ k G N w (pc + 1) lv (va :: va :: st)) : zZ k G N w pc lv (va :: st) := by
  obtain ⟨p, l, e, R, s, m, args, below, meth, c0, Q, A, nL, cells, slots⟩ := k
  exact fun H locs ls hP hS hl => lv_dup ok.1 ok.2.1 d h (kk H locs ls hP hS hl)
theorem z_dup2 (ok : zOk k G N cc own fr lo) {va vb : Value} (d : decode cc pc = .ok (.dup2, 1)) (h : va.category = 1) (h2 : vb.category = 1) (kk : zZ k G N w (pc + 1) lv (va :: vb :: va :: vb :: st)) : zZ k G N w pc lv (va :: vb :: st) := by
  obtain ⟨p, l, e, R, s, m, args, below, meth, c0, Q, A, nL, cells, slots⟩ := k
  exact fun H locs ls hP hS hl => lv_dup2_11 ok.1 ok.2.1 d h h2 (kk H locs ls hP hS hl)
theorem z_pop (ok : zOk k G N cc own fr lo) {va : Value} (d : decode cc pc = .ok (.pop, 1)) (h : va.category = 1) (kk : zZ k G N w (pc + 1) lv st) : zZ k G N w pc lv (va :: st) := by
  obtain ⟨p, l, e, R, s, m, args, below, meth, c0, Q, A, nL, cells, slots⟩ := k
  exact fun H locs ls hP hS hl => lv_pop ok.1 ok.2.1 d h (kk H locs ls hP hS hl)
theorem z_goto (ok : zOk k G N cc own fr lo) (d : decode cc pc = .ok (.goto off, 3)) (tgt : Nat) (ht : (pc : Int) + off = (tgt : Int)) (kk : zZ k G N w tgt lv st) : zZ k G N w pc lv st := by
  obtain ⟨p, l, e, R, s, m, args, below, meth, c0, Q, A, nL, cells, slots⟩ := k
  exact fun H locs ls hP hS hl => lv_goto ok.1 ok.2.1 d ht (kk H locs ls hP hS hl)
theorem z_if_eq (ok : zOk k G N cc own fr lo) (d : decode cc pc = .ok (.ifCond .eq off, 3)) (tgt : Nat) (ht : (pc : Int) + off = (tgt : Int)) (kt : x = 0 → zZ k G N w tgt lv st) (kf : ¬ x = 0 → zZ k G N w (pc + 3) lv st) : zZ k G N w pc lv (.int x :: st) := by
  obtain ⟨p, l, e, R, s, m, args, below, meth, c0, Q, A, nL, cells, slots⟩ := k
  exact fun H locs ls hP hS hl => lv_if_eq ok.1 ok.2.1 d ht (fun q => kt q H locs ls hP hS hl) (fun q => kf q H locs ls hP hS hl)
theorem z_if_ne (ok : zOk k G N cc own fr lo) (d : decode cc pc = .ok (.ifCond .ne off, 3)) (tgt : Nat) (ht : (pc : Int) + off = (tgt : Int)) (kt : ¬ x = 0 → zZ k G N w tgt lv st) (kf : x = 0 → zZ k G N w (pc + 3) lv st) : zZ k G N w pc lv (.int x :: st) := by
  obtain ⟨p, l, e, R, s, m, args, below, meth, c0, Q, A, nL, cells, slots⟩ := k
  exact fun H locs ls hP hS hl => lv_if_ne ok.1 ok.2.1 d ht (fun q => kt q H locs ls hP hS hl) (fun q => kf q H locs ls hP hS hl)
theorem z_if_lt (ok : zOk k G N cc own fr lo) (d : decode cc pc = .ok (.ifCond .lt off, 3)) (tgt : Nat) (ht : (pc : Int) + off = (tgt : Int)) (kt : x < 0 → zZ k G N w tgt lv st) (kf : ¬ x < 0 → zZ k G N w (pc + 3) lv st) : zZ k G N w pc lv (.int x :: st) := by
  obtain ⟨p, l, e, R, s, m, args, below, meth, c0, Q, A, nL, cells, slots⟩ := k
  exact fun H locs ls hP hS hl => lv_if_lt ok.1 ok.2.1 d ht (fun q => kt q H locs ls hP hS hl) (fun q => kf q H locs ls hP hS hl)
theorem z_if_ge (ok : zOk k G N cc own fr lo) (d : decode cc pc = .ok (.ifCond .ge off, 3)) (tgt : Nat) (ht : (pc : Int) + off = (tgt : Int)) (kt : 0 ≤ x → zZ k G N w tgt lv st) (kf : ¬ 0 ≤ x → zZ k G N w (pc + 3) lv st) : zZ k G N w pc lv (.int x :: st) := by
  obtain ⟨p, l, e, R, s, m, args, below, meth, c0, Q, A, nL, cells, slots⟩ := k
  exact fun H locs ls hP hS hl => lv_if_ge ok.1 ok.2.1 d ht (fun q => kt q H locs ls hP hS hl) (fun q => kf q H locs ls hP hS hl)
theorem z_if_gt (ok : zOk k G N cc own fr lo) (d : decode cc pc = .ok (.ifCond .gt off, 3)) (tgt : Nat) (ht : (pc : Int) + off = (tgt : Int)) (kt : 0 < x → zZ k G N w tgt lv st) (kf : ¬ 0 < x → zZ k G N w (pc + 3) lv st) : zZ k G N w pc lv (.int x :: st) := by
  obtain ⟨p, l, e, R, s, m, args, below, meth, c0, Q, A, nL, cells, slots⟩ := k
  exact fun H locs ls hP hS hl => lv_if_gt ok.1 ok.2.1 d ht (fun q => kt q H locs ls hP hS hl) (fun q => kf q H locs ls hP hS hl)
theorem z_if_le (ok : zOk k G N cc own fr lo) (d : decode cc pc = .ok (.ifCond .le off, 3)) (tgt : Nat) (ht : (pc : Int) + off = (tgt : Int)) (kt : x ≤ 0 → zZ k G N w tgt lv st) (kf : ¬ x ≤ 0 → zZ k G N w (pc + 3) lv st) : zZ k G N w pc lv (.int x :: st) := by
  obtain ⟨p, l, e, R, s, m, args, below, meth, c0, Q, A, nL, cells, slots⟩ := k
  exact fun H locs ls hP hS hl => lv_if_le ok.1 ok.2.1 d ht (fun q => kt q H locs ls hP hS hl) (fun q => kf q H locs ls hP hS hl)
theorem z_icmp_eq (ok : zOk k G N cc own fr lo) (d : decode cc pc = .ok (.if_icmp .eq off, 3)) (tgt : Nat) (ht : (pc : Int) + off = (tgt : Int)) (kt : x = y → zZ k G N w tgt lv st) (kf : ¬ x = y → zZ k G N w (pc + 3) lv st) : zZ k G N w pc lv (.int y :: .int x :: st) := by
  obtain ⟨p, l, e, R, s, m, args, below, meth, c0, Q, A, nL, cells, slots⟩ := k
  exact fun H locs ls hP hS hl => lv_icmp_eq ok.1 ok.2.1 d ht (fun q => kt q H locs ls hP hS hl) (fun q => kf q H locs ls hP hS hl)
theorem z_icmp_ne (ok : zOk k G N cc own fr lo) (d : decode cc pc = .ok (.if_icmp .ne off, 3)) (tgt : Nat) (ht : (pc : Int) + off = (tgt : Int)) (kt : ¬ x = y → zZ k G N w tgt lv st) (kf : x = y → zZ k G N w (pc + 3) lv st) : zZ k G N w pc lv (.int y :: .int x :: st) := by
  obtain ⟨p, l, e, R, s, m, args, below, meth, c0, Q, A, nL, cells, slots⟩ := k
  exact fun H locs ls hP hS hl => lv_icmp_ne ok.1 ok.2.1 d ht (fun q => kt q H locs ls hP hS hl) (fun q => kf q H locs ls hP hS hl)
theorem z_icmp_lt (ok : zOk k G N cc own fr lo) (d : decode cc pc = .ok (.if_icmp .lt off, 3)) (tgt : Nat) (ht : (pc : Int) + off = (tgt : Int)) (kt : x < y → zZ k G N w tgt lv st) (kf : ¬ x < y → zZ k G N w (pc + 3) lv st) : zZ k G N w pc lv (.int y :: .int x :: st) := by
  obtain ⟨p, l, e, R, s, m, args, below, meth, c0, Q, A, nL, cells, slots⟩ := k
  exact fun H locs ls hP hS hl => lv_icmp_lt ok.1 ok.2.1 d ht (fun q => kt q H locs ls hP hS hl) (fun q => kf q H locs ls hP hS hl)
theorem z_icmp_ge (ok : zOk k G N cc own fr lo) (d : decode cc pc = .ok (.if_icmp .ge off, 3)) (tgt : Nat) (ht : (pc : Int) + off = (tgt : Int)) (kt : y ≤ x → zZ k G N w tgt lv st) (kf : ¬ y ≤ x → zZ k G N w (pc + 3) lv st) : zZ k G N w pc lv (.int y :: .int x :: st) := by
  obtain ⟨p, l, e, R, s, m, args, below, meth, c0, Q, A, nL, cells, slots⟩ := k
  exact fun H locs ls hP hS hl => lv_icmp_ge ok.1 ok.2.1 d ht (fun q => kt q H locs ls hP hS hl) (fun q => kf q H locs ls hP hS hl)
theorem z_icmp_gt (ok : zOk k G N cc own fr lo) (d : decode cc pc = .ok (.if_icmp .gt off, 3)) (tgt : Nat) (ht : (pc : Int) + off = (tgt : Int)) (kt : y < x → zZ k G N w tgt lv st) (kf : ¬ y < x → zZ k G N w (pc + 3) lv st) : zZ k G N w pc lv (.int y :: .int x :: st) := by
  obtain ⟨p, l, e, R, s, m, args, below, meth, c0, Q, A, nL, cells, slots⟩ := k
  exact fun H locs ls hP hS hl => lv_icmp_gt ok.1 ok.2.1 d ht (fun q => kt q H locs ls hP hS hl) (fun q => kf q H locs ls hP hS hl)
theorem z_icmp_le (ok : zOk k G N cc own fr lo) (d : decode cc pc = .ok (.if_icmp .le off, 3)) (tgt : Nat) (ht : (pc : Int) + off = (tgt : Int)) (kt : x ≤ y → zZ k G N w tgt lv st) (kf : ¬ x ≤ y → zZ k G N w (pc + 3) lv st) : zZ k G N w pc lv (.int y :: .int x :: st) := by
  obtain ⟨p, l, e, R, s, m, args, below, meth, c0, Q, A, nL, cells, slots⟩ := k
  exact fun H locs ls hP hS hl => lv_icmp_le ok.1 ok.2.1 d ht (fun q => kt q H locs ls hP hS hl) (fun q => kf q H locs ls hP hS hl)
/-! the same of counts -/
theorem z_icmp_eq_n (ok : zOk k G N cc own fr lo) (d : decode cc pc = .ok (.if_icmp .eq off, 3)) (tgt : Nat) (ht : (pc : Int) + off = (tgt : Int)) (a b : Nat) (hx : x = nI a) (hy : y = nI b) (ha : a < 2147483648 ∧ b < 2147483648) (kt : a = b → zZ k G N w tgt lv st) (kf : ¬ a = b → zZ k G N w (pc + 3) lv st) : zZ k G N w pc lv (.int y :: .int x :: st) := by
  subst hx; subst hy
  exact z_icmp_eq ok d tgt ht (fun q => kt ((nI_eq ha.1 ha.2).mp q)) (fun q => kf (fun h => q ((nI_eq ha.1 ha.2).mpr h)))
theorem z_icmp_ne_n (ok : zOk k G N cc own fr lo) (d : decode cc pc = .ok (.if_icmp .ne off, 3)) (tgt : Nat) (ht : (pc : Int) + off = (tgt : Int)) (a b : Nat) (hx : x = nI a) (hy : y = nI b) (ha : a < 2147483648 ∧ b < 2147483648) (kt : ¬ a = b → zZ k G N w tgt lv st) (kf : a = b → zZ k G N w (pc + 3) lv st) : zZ k G N w pc lv (.int y :: .int x :: st) := by
  subst hx; subst hy
  exact z_icmp_ne ok d tgt ht (fun q => kt (fun h => q ((nI_eq ha.1 ha.2).mpr h))) (fun q => kf ((nI_eq ha.1 ha.2).mp q))
theorem z_icmp_lt_n (ok : zOk k G N cc own fr lo) (d : decode cc pc = .ok (.if_icmp .lt off, 3)) (tgt : Nat) (ht : (pc : Int) + off = (tgt : Int)) (a b : Nat) (hx : x = nI a) (hy : y = nI b) (ha : a < 2147483648 ∧ b < 2147483648) (kt : a < b → zZ k G N w tgt lv st) (kf : ¬ a < b → zZ k G N w (pc + 3) lv st) : zZ k G N w pc lv (.int y :: .int x :: st) := by
  subst hx; subst hy
  exact z_icmp_lt ok d tgt ht (fun q => kt ((nI_ltI ha.1 ha.2).mp q)) (fun q => kf (fun h => q ((nI_ltI ha.1 ha.2).mpr h)))
theorem z_icmp_ge_n (ok : zOk k G N cc own fr lo) (d : decode cc pc = .ok (.if_icmp .ge off, 3)) (tgt : Nat) (ht : (pc : Int) + off = (tgt : Int)) (a b : Nat) (hx : x = nI a) (hy : y = nI b) (ha : a < 2147483648 ∧ b < 2147483648) (kt : b ≤ a → zZ k G N w tgt lv st) (kf : ¬ b ≤ a → zZ k G N w (pc + 3) lv st) : zZ k G N w pc lv (.int y :: .int x :: st) := by
  subst hx; subst hy
  exact z_icmp_ge ok d tgt ht (fun q => kt ((nI_leI ha.2 ha.1).mp q)) (fun q => kf (fun h => q ((nI_leI ha.2 ha.1).mpr h)))
theorem z_icmp_gt_n (ok : zOk k G N cc own fr lo) (d : decode cc pc = .ok (.if_icmp .gt off, 3)) (tgt : Nat) (ht : (pc : Int) + off = (tgt : Int)) (a b : Nat) (hx : x = nI a) (hy : y = nI b) (ha : a < 2147483648 ∧ b < 2147483648) (kt : b < a → zZ k G N w tgt lv st) (kf : ¬ b < a → zZ k G N w (pc + 3) lv st) : zZ k G N w pc lv (.int y :: .int x :: st) := by
  subst hx; subst hy
  exact z_icmp_gt ok d tgt ht (fun q => kt ((nI_ltI ha.2 ha.1).mp q)) (fun q => kf (fun h => q ((nI_ltI ha.2 ha.1).mpr h)))
theorem z_icmp_le_n (ok : zOk k G N cc own fr lo) (d : decode cc pc = .ok (.if_icmp .le off, 3)) (tgt : Nat) (ht : (pc : Int) + off = (tgt : Int)) (a b : Nat) (hx : x = nI a) (hy : y = nI b) (ha : a < 2147483648 ∧ b < 2147483648) (kt : a ≤ b → zZ k G N w tgt lv st) (kf : ¬ a ≤ b → zZ k G N w (pc + 3) lv st) : zZ k G N w pc lv (.int y :: .int x :: st) := by
  subst hx; subst hy
  exact z_icmp_le ok d tgt ht (fun q => kt ((nI_leI ha.1 ha.2).mp q)) (fun q => kf (fun h => q ((nI_leI ha.1 ha.2).mpr h)))
theorem z_tableIn (ok : zOk k G N cc own fr lo) {df lo' hi : Int} {offs : Array Int} {len : Nat} (d : decode cc pc = .ok (.tableswitch df lo' hi offs, len)) (tgt : Nat) (off : Int) (h1 : ¬ x.toInt < lo' ∧ ¬ hi < x.toInt ∧ offs[(x.toInt - lo').toNat]? = some off ∧ (pc : Int) + off = (tgt : Int)) (kk : zZ k G N w tgt lv st) : zZ k G N w pc lv (.int x :: st) := by
  obtain ⟨p, l, e, R, s, m, args, below, meth, c0, Q, A, nL, cells, slots⟩ := k
  exact fun H locs ls hP hS hl => lv_tableIn ok.1 ok.2.1 d h1.1 h1.2.1 h1.2.2.1 h1.2.2.2 (kk H locs ls hP hS hl)
theorem z_tableOut (ok : zOk k G N cc own fr lo) {df lo' hi : Int} {offs : Array Int} {len : Nat} (d : decode cc pc = .ok (.tableswitch df lo' hi offs, len)) (tgt : Nat) (h1 : x.toInt < lo' ∨ hi < x.toInt) (ht : (pc : Int) + df = (tgt : Int)) (kk : zZ k G N w tgt lv st) : zZ k G N w pc lv (.int x :: st) := by
  obtain ⟨p, l, e, R, s, m, args, below, meth, c0, Q, A, nL, cells, slots⟩ := k
  exact fun H locs ls hP hS hl => lv_tableOut ok.1 ok.2.1 d h1 ht (kk H locs ls hP hS hl)
theorem z_lookup (ok : zOk k G N cc own fr lo) {df : Int} {ps : Array (Int × Int)} {len : Nat} (d : decode cc pc = .ok (.lookupswitch df ps, len)) (tgt : Nat) (off : Int) (hp : (ps.toList.zip (ps.toList.drop 1)).all (fun (a, next) => a.1 < next.1) = true) (ho : Op.lookupswitch.offset ps.toList df x.toInt = off) (ht : (pc : Int) + off = (tgt : Int)) (kk : zZ k G N w tgt lv st) : zZ k G N w pc lv (.int x :: st) := by
  obtain ⟨p, l, e, R, s, m, args, below, meth, c0, Q, A, nL, cells, slots⟩ := k
  exact fun H locs ls hP hS hl => lv_lookup ok.1 ok.2.1 d hp ho ht (kk H locs ls hP hS hl)
/-! cells -/
theorem z_get (ok : zOk k G N cc own fr lo) {ref C : String} {T : u_T} {n ci index : Nat} {fs : List Value} {v : Value} (d : decode cc pc = .ok (.getfield index, 3)) (i : Nat) (hi : i < N) (he : zE G w i = .inr (ci, fs)) (hc : vwCl[ci]? = some (C, T, n)) (hin : ∀ w ∈ u_ws C T n, w ∈ zTab) (j : Nat) (hj : j < n) (hw : Cond.fieldLink own index ref (T j).2.1 (T j).2.2.1 ∈ zTab) (hs : ref = (T j).1) (hv : fs[j]? = some v) (kk : zZ k G N w (pc + 3) lv (v :: st)) : zZ k G N w pc lv (.ref (zad G i) :: st) := by
  subst hs
  have hl := ok.word hw
  obtain ⟨p, l, e, R, s, m, args, below, meth, c0, Q, A, nL, cells, slots⟩ := k
  exact fun H locs ls hP hS hl' => va_get ok.1 ok.2.1 (Ts := zTab) (fun _ h => ok.word h) hin ok.2.2.1 ok.2.2.2.2.1.1 hP i (by rw [zws_get w hi, he]) hc j hj hl (fun _ h => h) hv d (kk H locs ls hP hS hl')
theorem z_getN (ok : zOk k G N cc own fr lo) {ref C host : String} {T : u_T} {n ci index : Nat} {fs : List Value} {v : Value} (d : decode cc pc = .ok (.getfield index, 3)) (i : Nat) (hi : i < N) (he : zE G w i = .inr (ci, fs)) (hc : vwCl[ci]? = some (C, T, n)) (hin : ∀ w ∈ u_ws C T n, w ∈ zTab) (j : Nat) (hj : j < n) (hw : Cond.fieldLinkNest own index ref (T j).2.1 (T j).2.2.1 host ∈ zTab) (hs : ref = (T j).1) (hv : fs[j]? = some v) (kk : zZ k G N w (pc + 3) lv (v :: st)) : zZ k G N w pc lv (.ref (zad G i) :: st) := by
  subst hs
  have hl := ok.word hw
  obtain ⟨p, l, e, R, s, m, args, below, meth, c0, Q, A, nL, cells, slots⟩ := k
  exact fun H locs ls hP hS hl' => va_getN ok.1 ok.2.1 (Ts := zTab) (fun _ h => ok.word h) hin ok.2.2.1 ok.2.2.2.2.1.1 hP i (by rw [zws_get w hi, he]) hc j hj hl (fun _ h => h) hv d (kk H locs ls hP hS hl')
/-- a field is written: the new world u has the cell as it is then, and all others -/
theorem z_put (ok : zOk k G N cc own fr lo) {ref C : String} {T : u_T} {n ci index : Nat} {fs : List Value} {v : Value} {ty : FieldType} (d : decode cc pc = .ok (.putfield index, 3)) (u : xW) (i : Nat) (hi : i < N) (he : zE G w i = .inr (ci, fs)) (hc : vwCl[ci]? = some (C, T, n)) (hin : ∀ w ∈ u_ws C T n, w ∈ zTab) (ty0 : Nat → FieldType) (hty : ∀ k, k < n → parseFieldDescriptor (T k).2.2.1 = some (ty0 k)) (hnm : ∀ a, a < n → ∀ b, b < n → a ≠ b → (T a).2.1 ≠ (T b).2.1) (j : Nat) (hj : j < n) (hw : Cond.fieldLink own index ref (T j).2.1 (T j).2.2.1 ∈ zTab) (hs : ref = (T j).1 ∧ (T j).2.2.2 = false) (hd : parseFieldDescriptor (T j).2.2.1 = some ty) (hn : narrow ty v = v) (hf : fits ty v = true) (hlen : j < fs.length)
    (hu : zE G u i = .inr (ci, fs.set j v)) (ho : ∀ q, q < N → q ≠ i → zE G u q = zE G w q) (kk : zZ k G N u (pc + 3) lv st) : zZ k G N w pc lv (v :: .ref (zad G i) :: st) := by
  obtain ⟨hs, hfin⟩ := hs
  subst hs
  have hl := ok.word hw
  obtain ⟨p, l, e, R, s, m, args, below, meth, c0, Q, A, nL, cells, slots⟩ := k
  intro H locs ls hP hS hl'
  refine va_put ok.1 ok.2.1 (Ts := zTab) (fun _ h => ok.word h) hin ty0 hty hnm ok.2.2.1 ok.2.2.2.2.1.1 hP (ok.2.2.2.2.2.1.D ok.2.2.2.2.2.2.2.2.2.2.2.1 w) hS i (by rw [zws_get w hi, he]) hc j hj hl (fun _ h => h) hfin hd hn hf hlen d (fun H1 locs1 hP1 hD1 hS1 => ?_)
  rw [zws_set hi hu ho] at hP1
  exact kk H1 locs1 ls hP1 hS1 hl'
theorem z_iald (ok : zOk k G N cc own fr lo) {v o : Nat} (d : decode cc pc = .ok (.iaload, 1)) (i : Nat) (hi : i < N) (he : zE G w i = zArr G.2.1 n v o w) (c : Nat) (hx : x = nI c) (hc : c < n) (hn : n < 2147483648) (kk : zZ k G N w (pc + 1) lv (.int (xg w v (o + c)) :: st)) : zZ k G N w pc lv (.int x :: .ref (zad G i) :: st) := by
  subst hx
  obtain ⟨p, l, e, R, s, m, args, below, meth, c0, Q, A, nL, cells, slots⟩ := k
  refine fun H locs ls hP hS hl' => va_iald (cA := G.2.1) (n := n) (f := fun j => if j < n then xg w v (o + j) else 0) ok.1 ok.2.1 ok.2.2.2.2.1.1 hP i 0 (by rw [zws_get w hi, he]; rfl) rfl (zin hc hn) d ?_
  rw [zcl (by omega), if_pos hc]
  exact kk H locs ls hP hS hl'
theorem z_cald (ok : zOk k G N cc own fr lo) {v : Nat} (d : decode cc pc = .ok (.caload, 1)) (i : Nat) (hi : i < N) (he : zE G w i = zArc G.2.2.1 n v w) (c : Nat) (hx : x = nI c) (hc : c < n) (hn : n < 2147483648) (kk : zZ k G N w (pc + 1) lv (.int (zc (xg w v c)) :: st)) : zZ k G N w pc lv (.int x :: .ref (zad G i) :: st) := by
  subst hx
  obtain ⟨p, l, e, R, s, m, args, below, meth, c0, Q, A, nL, cells, slots⟩ := k
  refine fun H locs ls hP hS hl' => va_cald (cA := G.2.2.1) (n := n) (f := fun j => if j < n then zc (xg w v j) else 0) ok.1 ok.2.1 ok.2.2.2.2.1.1 hP i 1 (by rw [zws_get w hi, he]; rfl) rfl (zin hc hn) d ?_
  rw [zcl (by omega), if_pos hc]
  exact kk H locs ls hP hS hl'
theorem z_iast (ok : zOk k G N cc own fr lo) {v o : Nat} (d : decode cc pc = .ok (.iastore, 1)) (i : Nat) (hi : i < N) (he : ∀ u, zE G u i = zArr G.2.1 n v o u) (c : Nat) (hx : x = nI c) (hc : c < n) (hn : n < 2147483648) (hw : zown v (o + c) = i) (kk : zZ k G N (xs w v (o + c) y) (pc + 1) lv st) : zZ k G N w pc lv (.int y :: .int x :: .ref (zad G i) :: st) := by
  subst hx
  obtain ⟨p, l, e, R, s, m, args, below, meth, c0, Q, A, nL, cells, slots⟩ := k
  intro H locs ls hP hS hl'
  refine va_iast (cA := G.2.1) (n := n) (f := fun j => if j < n then xg w v (o + j) else 0) ok.1 ok.2.1 ok.2.2.2.2.1.1 hP (ok.2.2.2.2.2.1.D ok.2.2.2.2.2.2.2.2.2.2.2.1 w) hS i 0 (by rw [zws_get w hi, he]; rfl) rfl (zin hc hn) d (fun H1 locs1 hP1 hD1 hS1 => ?_)
  rw [zcl (by omega), zws_set (u := xs w v (o + c) y) hi ((he _).trans (zArr_set hc)) (fun q hq hne => zE_xs (by have := ok.2.2.2.2.2.1.1; omega) (by rw [hw]; exact hne))] at hP1
  exact kk H1 locs1 ls hP1 hS1 hl'
theorem z_cast (ok : zOk k G N cc own fr lo) {v : Nat} (d : decode cc pc = .ok (.castore, 1)) (i : Nat) (hi : i < N) (he : ∀ u, zE G u i = zArc G.2.2.1 n v u) (c : Nat) (hx : x = nI c) (hc : c < n) (hn : n < 2147483648) (hw : zown v c = i) (kk : zZ k G N (xs w v c y) (pc + 1) lv st) : zZ k G N w pc lv (.int y :: .int x :: .ref (zad G i) :: st) := by
  subst hx
  obtain ⟨p, l, e, R, s, m, args, below, meth, c0, Q, A, nL, cells, slots⟩ := k
  intro H locs ls hP hS hl'
  refine va_cast (cA := G.2.2.1) (n := n) (f := fun j => if j < n then zc (xg w v j) else 0) ok.1 ok.2.1 ok.2.2.2.2.1.1 hP (ok.2.2.2.2.2.1.D ok.2.2.2.2.2.2.2.2.2.2.2.1 w) hS i 1 (by rw [zws_get w hi, he]; rfl) rfl (zin hc hn) d (fun H1 locs1 hP1 hD1 hS1 => ?_)
  rw [zcl (by omega)] at hP1
  have e1 := zws_set (G := G) (N := N) (u := xs w v c y) hi ((he _).trans (zArc_set hc)) (fun q hq hne => zE_xs (by have := ok.2.2.2.2.2.1.1; omega) (by rw [hw]; exact hne))
  rw [show (vp_nar .char y) = zc y from rfl, e1] at hP1
  exact kk H1 locs1 ls hP1 hS1 hl'
theorem z_alen (ok : zOk k G N cc own fr lo) {cA : ClassId} {t : Nat} {ty : FieldType} {q : vp_A} (d : decode cc pc = .ok (.arraylength, 1)) (i : Nat) (hi : i < N) (he : zE G w i = .inl (cA, q)) (ht : (zTys G)[t]? = some (cA, ty)) (hv : Int32.ofNat q.1 = x) (kk : zZ k G N w (pc + 1) lv (.int x :: st)) : zZ k G N w pc lv (.ref (zad G i) :: st) := by
  obtain ⟨p, l, e, R, s, m, args, below, meth, c0, Q, A, nL, cells, slots⟩ := k
  exact fun H locs ls hP hS hl' => va_alen ok.1 ok.2.1 ok.2.2.2.2.1.1 hP i t (by rw [zws_get w hi, he]) ht hv d (kk H locs ls hP hS hl')
/-- the history's row -/
theorem z_aald (ok : zOk k G N cc own fr lo) (d : decode cc pc = .ok (.aaload, 1)) (hi : 1 < N) (c : Nat) (hx : x = nI c) (hc : c < 5) (kk : zZ k G N w (pc + 1) lv (.ref (zad G (5 + 6 * zpg w c)) :: st)) : zZ k G N w pc lv (.int x :: .ref (zad G 1) :: st) := by
  subst hx
  obtain ⟨p, l, e, R, s, m, args, below, meth, c0, Q, A, nL, cells, slots⟩ := k
  refine fun H locs ls hP hS hl' => va_aldq (cA := G.2.2.2.1) (C := RX1) (n := 5) (f := fun j => if j < 5 then some (zad G (5 + 6 * zpg w j)) else none) ok.1 ok.2.1 ok.2.2.2.2.1.1 hP 1 2 (by rw [zws_get w hi, zE_1]; rfl) rfl (zin hc (by omega)) d ?_
  rw [zcl (by omega), if_pos hc]
  exact kk H locs ls hP hS hl'
theorem z_aast (ok : zOk k G N cc own fr lo) (d : decode cc pc = .ok (.aastore, 1)) (hi : 1 < N) (g : Nat) (hg : g < 7) (hgN : 5 + 6 * g < N) (c : Nat) (hx : x = nI c) (hc : c < 5) (kk : zZ k G N (xp w c g) (pc + 1) lv st) : zZ k G N w pc lv (.ref (zad G (5 + 6 * g)) :: .int x :: .ref (zad G 1) :: st) := by
  subst hx
  obtain ⟨p, l, e, R, s, m, args, below, meth, c0, Q, A, nL, cells, slots⟩ := k
  intro H locs ls hP hS hl'
  refine va_astq (cA := G.2.2.2.1) (r := (RX1, TX1, 15)) (n := 5) (f := fun j => if j < 5 then some (zad G (5 + 6 * zpg w j)) else none) ok.1 ok.2.1 ok.2.2.2.2.1.1 hP (ok.2.2.2.2.2.1.D ok.2.2.2.2.2.2.2.2.2.2.2.1 w) hS 1 2 (5 + 6 * g) 1 (by rw [zws_get w hi, zE_1]; rfl) rfl (by rw [zws_get w hgN, zE_game G w hg]; rfl) rfl (zin hc (by omega)) d (fun H1 locs1 hP1 hD1 hS1 => ?_)
  rw [zcl (by omega), zws_set (u := xp w c g) hi ?_ ?_] at hP1
  · exact kk H1 locs1 ls hP1 hS1 hl'
  · rw [zE_1]
    unfold zRefs
    have : (fun j => if j < 5 then some (zad G (5 + 6 * zpg (xp w c g) j)) else none) = va_up (fun j => if j < 5 then some (zad G (5 + 6 * zpg w j)) else none) c (some (zad G (5 + 6 * g))) := by
      funext j
      by_cases hj : j = c
      · subst hj
        simp [va_up, hc, zpg, xp, Nat.mod_eq_of_lt hg]
      · simp [va_up, hj, zpg, xp]
    rw [this]
  · intro q hq hne
    by_cases h0 : q = 0
    · subst h0
      have : ∀ j, 5 ≤ j → zpr (xp w c g) j = zpr w j := fun j hj => by
        have : j ≠ c := by omega
        simp [zpr, xp, this]
      rw [zE_0, zE_0, zOuter, zOuter, this 5 (by omega), this 6 (by omega)]
      rfl
    by_cases h47 : q = 47
    · subst h47
      rw [zE_47, zE_47, zLong, zLong]
      have : zLf (xp w c g) = zLf w := by
        funext j
        have : ¬ 100 + j = c := by omega
        simp [zLf, xp, this]
      rw [this]
    · have : ∀ (a : va_E) (b : va_E), (if q = 0 then a else if q = 1 then b else zE G w q) = zE G w q := fun a b => by rw [if_neg h0, if_neg hne]
      unfold zE
      simp only [h0, hne, h47, if_false]
      rfl
/-! calls -/
theorem z_blind {G : zG} {N : Nat} {w : xW} {args : List Value} : FrameBlind (zPc G N w args) := fun a U g mk q => ⟨q.1, q.2.1, zK.moved (State.WarmedH.refl U) (fun _ _ _ => rfl) q.2.2⟩
theorem z_pre {s : State} {A : Nat → Prop} {H : Heap} {locs : List Loc} {args : List Value} (hK : zK G N s s.heap) (hS : va_S A s.heap H locs) (hAd : ∀ q, q < s.heap.size → A q → zA G N q) (hP : va_P G.1 vwCl (zws G N w) H) : ∀ U : State, U.heap = H → s.WarmedH U.vm → zPc G N w args args.toArray U := by
  intro U hU hW
  subst hU
  exact ⟨rfl, hP, zK.moved hW (fun a h1 h2 => hS.2.1 a h1 (fun h => h2 (hAd a h1 h))) hK⟩
/-- what a setting may change of the old cells lies in the world: true of a method's setting and of the law's -/
def zOld (k : zC) (G : zG) (N : Nat) : Prop := match k with
  | (_, _, _, _, s, _, _, _, _, _, _, A, _, _, _) => ∀ q, q < s.heap.size → A q → zA G N q
theorem zEnd.old {ret : Option FieldType} {r : Option Int32} (h : zEnd k G N ret r u) : zOld k G N := by
  obtain ⟨p, l, e, R, s, m, args, below, meth, c0, Q, A, nL, cells, slots⟩ := k
  intro q _ hq
  rw [h.2.1] at hq
  exact hq
theorem z_after {p : Program} {l : Launch} {e : Env} {R : Room} {s : State} {m : MethodId} {args : Array Value} {below : List Frame} {meth : Method} {c0 : Code} {Q : State → Prop} {A : Nat → Prop} {nL cells slots : Nat} {H : Heap} {locs : List Loc} {ls : Array Slot} {st0 rest : List Value} {r : Option Int32}
    (hg : zGeo G N) (hA : ∀ i, i < N → A (zad G i)) (hS : va_S A s.heap H locs) (hl : lv_has ls nL lv)
    (hr : va_Run p l e R s m args below meth c0 H locs cells slots 0 0 (F0 m pc ls st0) rest (fun st o t => (o = .returned (r.map Value.int) ∧ va_P G.1 vwCl (zws G N u) t.heap) ∧ va_F (zA G N) st t) (zA G N))
    (kk : zZ (p, l, e, R, s, m, args, below, meth, c0, Q, A, nL, cells, slots) G N u (pc + 3) lv ((r.map Value.int).toList ++ rest)) : W p l e R s m args below meth c0 H locs cells slots Q (F0 m pc ls st0) := by
  have hAz : ∀ q, zA G N q → A q := fun q ⟨i, hi, e⟩ => by rw [e]; exact hA i hi
  intro T hT X
  obtain ⟨v, st₀, t, T', L, h0, X', hL, e1, e2, ⟨⟨hv, hp⟩, hz, hk⟩, stp⟩ := hr T hT X
  cases hv
  rw [h0] at hz hk
  have hS' : va_S A s.heap T'.heap (locs ++ L) := ⟨Nat.le_trans hS.1 (by rw [e1]; exact hz), fun q h1 h2 => by rw [e1, hk q (Nat.lt_of_lt_of_le h1 hS.1) (fun z => h2 (hAz q z))]; exact hS.2.1 q h1 h2, fun q hq => by
      rcases List.mem_append.mp hq with h | h
      · exact hS.2.2 q h
      · exact hAz _ (hL q h)⟩
  obtain ⟨t2, a1, b1⟩ := kk T'.heap (locs ++ L) ls (by rw [e1]; exact hp) hS' hl T' rfl X'
  exact ⟨t2, stp t2 a1, b1⟩
theorem z_callV (ok : zOk k G N cc own fr lo) (old : zOld k G N) {y : MethodName} {cy : ByteArray} {maxL ny fy ly index ci : Nat} {ret : Option FieldType} {fs As rest st0 args : List Value} {r : Option Int32} {C : String} {T : u_T} {n : Nat} (d : decode cc pc = .ok (.invokevirtual index, 3)) (hM : zM y cy maxL ret fy ly G N args w r u) (hY : zY y cy maxL ret ny) (hw : Cond.methodLink own index y ∈ zTab) (i : Nat) (hi : i < N) (he : zE G w i = .inr (ci, fs)) (hc : vwCl[ci]? = some (C, T, n)) (hC : C = y.cls) (ha : args = .ref (zad G i) :: As) (hst : st0 = As.reverse ++ .ref (zad G i) :: rest) (hn : As.length = ny) (hroom : fy + 1 ≤ fr ∧ 8 + (maxL + 11) + ly ≤ lo) (hrest : (rest.map fun v => v.category).sum ≤ 8) (kk : zZ k G N u (pc + 3) lv ((r.map Value.int).toList ++ rest)) : zZ k G N w pc lv st0 := by
  subst hC; subst ha; subst hst
  obtain ⟨p, l, e, R, s, m, args, below, meth, c0, Q, A, nL, cells, slots⟩ := k
  intro H locs ls hP hS hl
  obtain ⟨y1, y2, y3, y4, y5, y6, y7, -⟩ := hY
  obtain ⟨hx, hb, hown, hml, hK, hg, -, rfl, rfl, hc1, hs1, hA, -⟩ := id ok
  refine z_after hg hA hS hl (va_runV (nL := nL) (Ts := zTab) (own := own) (C := y.cls) (b := zad G i) (As := As) (rest := rest) (n := ny) ⟨hx, hb, hml, hown, fun _ h => ok.word h⟩ (hM l) ⟨callB_of ny (Ts := zTab) (fun _ h => ok.word h) (fun w hw => ?_) rfl rfl rfl (ok.word y3) (ok.word hw) ⟨y5, y6, y7⟩ hroom, ok.word y1, ok.word y2⟩ ⟨z_blind, va_recv hK.1 hP (ci := ci) (q0 := i) hc (by rw [zws_get w hi, he]), z_pre hK hS old hP⟩ rfl hn hl.1 rfl (lv_room hrest) d ⟨hc1, hs1⟩) kk
  rw [List.mem_singleton.mp hw]
  exact ⟨y4, Or.inl rfl⟩
theorem z_callVN (ok : zOk k G N cc own fr lo) (old : zOld k G N) {y : MethodName} {cy : ByteArray} {maxL ny fy ly index ci : Nat} {ret : Option FieldType} {fs As rest st0 args : List Value} {r : Option Int32} {C host : String} {T : u_T} {n : Nat} (d : decode cc pc = .ok (.invokevirtual index, 3)) (hM : zM y cy maxL ret fy ly G N args w r u) (hY : zY y cy maxL ret ny) (hw : Cond.methodLinkNest own index y host ∈ zTab) (i : Nat) (hi : i < N) (he : zE G w i = .inr (ci, fs)) (hc : vwCl[ci]? = some (C, T, n)) (hC : C = y.cls) (ha : args = .ref (zad G i) :: As) (hst : st0 = As.reverse ++ .ref (zad G i) :: rest) (hn : As.length = ny) (hroom : fy + 1 ≤ fr ∧ 8 + (maxL + 11) + ly ≤ lo) (hrest : (rest.map fun v => v.category).sum ≤ 8) (kk : zZ k G N u (pc + 3) lv ((r.map Value.int).toList ++ rest)) : zZ k G N w pc lv st0 := by
  subst hC; subst ha; subst hst
  obtain ⟨p, l, e, R, s, m, args, below, meth, c0, Q, A, nL, cells, slots⟩ := k
  intro H locs ls hP hS hl
  obtain ⟨y1, y2, y3, y4, y5, y6, y7, -⟩ := hY
  obtain ⟨hx, hb, hown, hml, hK, hg, -, rfl, rfl, hc1, hs1, hA, -⟩ := id ok
  refine z_after hg hA hS hl (va_runVN (nL := nL) (Ts := zTab) (own := own) (host := host) (C := y.cls) (b := zad G i) (As := As) (rest := rest) (n := ny) ⟨hx, hb, hml, hown, fun _ h => ok.word h⟩ (hM l) ⟨va_cnB ny (Ts := zTab) (fun _ h => ok.word h) (fun w hw => ?_) rfl rfl rfl (va_Nw.of rfl (ok.word hw)) (ok.word y3) ⟨y5, y6, y7⟩ hroom, ok.word y1, ok.word y2⟩ ⟨z_blind, va_recv hK.1 hP (ci := ci) (q0 := i) hc (by rw [zws_get w hi, he]), z_pre hK hS old hP⟩ rfl hn hl.1 rfl (lv_room hrest) d ⟨hc1, hs1⟩) kk
  rw [List.mem_singleton.mp hw]
  exact ⟨y4, Or.inl rfl⟩
theorem z_callS (ok : zOk k G N cc own fr lo) (old : zOld k G N) {y : MethodName} {cy : ByteArray} {maxL ny fy ly index : Nat} {ret : Option FieldType} {rest st0 args : List Value} {r : Option Int32} (d : decode cc pc = .ok (.invokestatic index, 3)) (hM : zM y cy maxL ret fy ly G N args w r u) (hY : zYS y cy maxL ret ny) (hw : Cond.methodLink own index y ∈ zTab) (hst : st0 = args.reverse ++ rest) (hn : args.length = ny) (hroom : fy + 1 ≤ fr ∧ 8 + (maxL + 11) + ly ≤ lo) (hrest : (rest.map fun v => v.category).sum ≤ 8) (kk : zZ k G N u (pc + 3) lv ((r.map Value.int).toList ++ rest)) : zZ k G N w pc lv st0 := by
  subst hst
  obtain ⟨p, l, e, R, s, m, args', below, meth, c0, Q, A, nL, cells, slots⟩ := k
  intro H locs ls hP hS hl
  obtain ⟨y1, y3, y4, y5, y6, y7, -⟩ := hY
  obtain ⟨hx, hb, hown, hml, hK, hg, -, rfl, rfl, hc1, hs1, hA, -⟩ := id ok
  refine z_after hg hA hS hl (va_runS (nL := nL) (Ts := zTab) (own := own) (As := args) (rest := rest) (n := ny) ⟨hx, hb, hml, hown, fun _ h => ok.word h⟩ (hM l) ⟨callB_of ny (Ts := zTab) (fun _ h => ok.word h) (fun w hw => ?_) rfl rfl rfl (ok.word y3) (ok.word hw) ⟨y5, y6, y7⟩ hroom, ok.word y1⟩ ⟨z_blind, z_pre hK hS old hP⟩ rfl hn hl.1 rfl (lv_room hrest) d ⟨hc1, hs1⟩) kk
  rw [List.mem_singleton.mp hw]
  exact ⟨y4, Or.inl rfl⟩
theorem z_callSN (ok : zOk k G N cc own fr lo) (old : zOld k G N) {y : MethodName} {cy : ByteArray} {maxL ny fy ly index : Nat} {ret : Option FieldType} {rest st0 args : List Value} {r : Option Int32} {host : String} (d : decode cc pc = .ok (.invokestatic index, 3)) (hM : zM y cy maxL ret fy ly G N args w r u) (hY : zYS y cy maxL ret ny) (hw : Cond.methodLinkNest own index y host ∈ zTab) (hst : st0 = args.reverse ++ rest) (hn : args.length = ny) (hroom : fy + 1 ≤ fr ∧ 8 + (maxL + 11) + ly ≤ lo) (hrest : (rest.map fun v => v.category).sum ≤ 8) (kk : zZ k G N u (pc + 3) lv ((r.map Value.int).toList ++ rest)) : zZ k G N w pc lv st0 := by
  subst hst
  obtain ⟨p, l, e, R, s, m, args', below, meth, c0, Q, A, nL, cells, slots⟩ := k
  intro H locs ls hP hS hl
  obtain ⟨y1, y3, y4, y5, y6, y7, -⟩ := hY
  obtain ⟨hx, hb, hown, hml, hK, hg, -, rfl, rfl, hc1, hs1, hA, -⟩ := id ok
  refine z_after hg hA hS hl (va_runSN (nL := nL) (Ts := zTab) (own := own) (host := host) (As := args) (rest := rest) (n := ny) ⟨hx, hb, hml, hown, fun _ h => ok.word h⟩ (hM l) ⟨va_cnB ny (Ts := zTab) (fun _ h => ok.word h) (fun w hw => ?_) rfl rfl rfl (va_Nw.of rfl (ok.word hw)) (ok.word y3) ⟨y5, y6, y7⟩ hroom, ok.word y1, trivial⟩ ⟨z_blind, z_pre hK hS old hP⟩ rfl hn hl.1 rfl (lv_room hrest) d ⟨hc1, hs1⟩) kk
  rw [List.mem_singleton.mp hw]
  exact ⟨y4, Or.inl rfl⟩
/-! ends -/
theorem z_iret (ok : zOk k G N cc own fr lo) {ty : FieldType} {r : Int32} (hE : zEnd k G N (some ty) (some r) u) (d : decode cc pc = .ok (.ireturn, 1)) (hn : narrow ty (.int x) = .int x) (hr : x = r ∧ w = u) : zZ k G N w pc lv [.int x] := by
  obtain ⟨rfl, rfl⟩ := hr
  obtain ⟨p, l, e, R, s, m, args, below, meth, c0, Q, A, nL, cells, slots⟩ := k
  obtain ⟨h1, rfl, rfl, rfl, rfl⟩ := hE
  exact fun H locs ls hP hS hl => W.zret ok.1 ok.2.1 h1 hn (fun t ht _ => ⟨⟨rfl, by rw [ht]; exact hP⟩, hS.F ht⟩) hS.2.2 d ok.2.2.2.2.2.2.1
theorem z_vret (ok : zOk k G N cc own fr lo) (hE : zEnd k G N none none u) (d : decode cc pc = .ok (.return_, 1)) (hr : w = u) : zZ k G N w pc lv [] := by
  subst hr
  obtain ⟨p, l, e, R, s, m, args, below, meth, c0, Q, A, nL, cells, slots⟩ := k
  obtain ⟨h1, rfl, rfl, rfl, rfl⟩ := hE
  exact fun H locs ls hP hS hl => W.vret ok.1 ok.2.1 h1 (fun t ht _ => ⟨⟨rfl, by rw [ht]; exact hP⟩, hS.F ht⟩) hS.2.2 d ok.2.2.2.2.2.2.1
/-! Math, arraycopy, static rows -/
theorem z_max (ok : zOk k G N cc own fr lo) {index : Nat} (d : decode cc pc = .ok (.invokestatic index, 3)) (h1 : Cond.methodLink own index Lib.Math.max.name ∈ zTab) (h2 : Cond.static Lib.Math.max.name ∈ zTab) (h3 : Cond.initialized RJ9 ∈ zTab) (h4 : Cond.code Lib.Math.max.name Lib.Math.max.code 2 (some .int) ∈ zTab) (hroom : 1 ≤ fr ∧ (st.map fun v => v.category).sum + 13 ≤ lo) (kk : zZ k G N w (pc + 3) lv (.int (if x < y then y else x) :: st)) : zZ k G N w pc lv (.int y :: .int x :: st) := by
  have w1 := ok.word h1; have w2 := ok.word h2; have w3 := ok.word h3; have w4 := ok.word h4
  obtain ⟨p, l, e, R, s, m, args, below, meth, c0, Q, A, nL, cells, slots⟩ := k
  obtain ⟨hx, hb, hown, hml, hK, hg, -, rfl, rfl, hc1, hs1, hA, -⟩ := id ok
  exact fun H locs ls hP hS hl => va_mmax hx hb (by rw [hl.1]; exact hml) hown w1 w2 w3 w4 hroom.1 hroom.2 hc1 hs1 d (kk H locs ls hP hS hl)
theorem z_min (ok : zOk k G N cc own fr lo) {index : Nat} (d : decode cc pc = .ok (.invokestatic index, 3)) (h1 : Cond.methodLink own index Lib.Math.min.name ∈ zTab) (h2 : Cond.static Lib.Math.min.name ∈ zTab) (h3 : Cond.initialized RJ9 ∈ zTab) (h4 : Cond.code Lib.Math.min.name Lib.Math.min.code 2 (some .int) ∈ zTab) (hroom : 1 ≤ fr ∧ (st.map fun v => v.category).sum + 13 ≤ lo) (kk : zZ k G N w (pc + 3) lv (.int (if y < x then y else x) :: st)) : zZ k G N w pc lv (.int y :: .int x :: st) := by
  have w1 := ok.word h1; have w2 := ok.word h2; have w3 := ok.word h3; have w4 := ok.word h4
  obtain ⟨p, l, e, R, s, m, args, below, meth, c0, Q, A, nL, cells, slots⟩ := k
  obtain ⟨hx, hb, hown, hml, hK, hg, -, rfl, rfl, hc1, hs1, hA, -⟩ := id ok
  exact fun H locs ls hP hS hl => va_mmin hx hb (by rw [hl.1]; exact hml) hown w1 w2 w3 w4 hroom.1 hroom.2 hc1 hs1 d (kk H locs ls hP hS hl)
theorem z_abs (ok : zOk k G N cc own fr lo) {index : Nat} (d : decode cc pc = .ok (.invokestatic index, 3)) (h1 : Cond.methodLink own index Lib.Math.abs.name ∈ zTab) (h2 : Cond.static Lib.Math.abs.name ∈ zTab) (h3 : Cond.initialized RJ9 ∈ zTab) (h4 : Cond.code Lib.Math.abs.name Lib.Math.abs.code 1 (some .int) ∈ zTab) (hroom : 1 ≤ fr ∧ (st.map fun v => v.category).sum + 13 ≤ lo) (kk : zZ k G N w (pc + 3) lv (.int (if 0 ≤ x then x else 0 - x) :: st)) : zZ k G N w pc lv (.int x :: st) := by
  have w1 := ok.word h1; have w2 := ok.word h2; have w3 := ok.word h3; have w4 := ok.word h4
  obtain ⟨p, l, e, R, s, m, args, below, meth, c0, Q, A, nL, cells, slots⟩ := k
  obtain ⟨hx, hb, hown, hml, hK, hg, -, rfl, rfl, hc1, hs1, hA, -⟩ := id ok
  exact fun H locs ls hP hS hl => va_mabs hx hb (by rw [hl.1]; exact hml) hown w1 w2 w3 w4 hroom.1 hroom.2 hc1 hs1 d (kk H locs ls hP hS hl)
/-- a static row of the class, as the setting's start has it -/
def zSr (k : zC) (G : zG) (N : Nat) (nm : String) (t : Nat) (f : Nat → Int32) : Prop := match k with
  | (_, _, _, _, s, _, _, _, _, _, _, _, _, _, _) => va_Z RX2 nm "[I" (.ref t) (zA G N) s s.heap ∧ va_T .int t 6 (fun j => .int (f j)) (zA G N) s s.heap
theorem zSr_0 (ok : zOk k G N cc own fr lo) : ∃ t, zSr k G N "FIRST_ROW" t zRow0 := by
  obtain ⟨p, l, e, R, s, m, args, below, meth, c0, Q, A, nL, cells, slots⟩ := k
  exact ok.2.2.2.2.1.2.2.1
theorem zSr_1 (ok : zOk k G N cc own fr lo) : ∃ t, zSr k G N "FIRST_TOWERS" t zRow1 := by
  obtain ⟨p, l, e, R, s, m, args, below, meth, c0, Q, A, nL, cells, slots⟩ := k
  exact ok.2.2.2.2.1.2.2.2
theorem z_gets (ok : zOk k G N cc own fr lo) {ret : Option FieldType} {r : Option Int32} (hE : zEnd k G N ret r u) {index t : Nat} {nm host : String} {f : Nat → Int32} (d : decode cc pc = .ok (.getstatic index, 3)) (hs : zSr k G N nm t f) (h1 : Cond.fieldLinkNest own index RX2 nm "[I" host ∈ zTab) (kk : zZ k G N w (pc + 3) lv (.ref t :: st)) : zZ k G N w pc lv st := by
  have w1 := ok.word h1
  obtain ⟨p, l, e, R, s, m, args, below, meth, c0, Q, A, nL, cells, slots⟩ := k
  obtain ⟨-, rfl, -⟩ := hE
  exact fun H locs ls hP hS hl => va_getsN ok.1 ok.2.1 hs.1 hS ok.2.2.1 w1 (fun _ h => h) d (kk H locs ls hP hS hl)
theorem z_tald (ok : zOk k G N cc own fr lo) {ret : Option FieldType} {r : Option Int32} (hE : zEnd k G N ret r u) {t : Nat} {nm : String} {f : Nat → Int32} (d : decode cc pc = .ok (.iaload, 1)) (hs : zSr k G N nm t f) (c : Nat) (hx : x = nI c) (hc : c < 6) (kk : zZ k G N w (pc + 1) lv (.int (f c) :: st)) : zZ k G N w pc lv (.int x :: .ref t :: st) := by
  subst hx
  obtain ⟨p, l, e, R, s, m, args, below, meth, c0, Q, A, nL, cells, slots⟩ := k
  obtain ⟨-, rfl, -⟩ := hE
  exact fun H locs ls hP hS hl => va_ti ok.1 ok.2.1 hs.2 hS (zin hc (by omega)) (by rw [zcl (by omega)]) d (kk H locs ls hP hS hl)
theorem z_tlen (ok : zOk k G N cc own fr lo) {ret : Option FieldType} {r : Option Int32} (hE : zEnd k G N ret r u) {t : Nat} {nm : String} {f : Nat → Int32} (d : decode cc pc = .ok (.arraylength, 1)) (hs : zSr k G N nm t f) (kk : zZ k G N w (pc + 1) lv (.int 6 :: st)) : zZ k G N w pc lv (.ref t :: st) := by
  obtain ⟨p, l, e, R, s, m, args, below, meth, c0, Q, A, nL, cells, slots⟩ := k
  obtain ⟨-, rfl, -⟩ := hE
  exact fun H locs ls hP hS hl => va_tlen ok.1 ok.2.1 hs.2 hS rfl d (kk H locs ls hP hS hl)
/-- System.arraycopy of whole rows of n numbers: the row of i0 comes into the row of i -/
theorem z_copy (ok : zOk k G N cc own fr lo) {index : Nat} {v o v0 o0 : Nat} (d : decode cc pc = .ok (.invokestatic index, 3)) (h1 : Cond.methodLink own index arraycopyName ∈ zTab) (h2 : Cond.native arraycopyName ∈ zTab) (h3 : Cond.static arraycopyName ∈ zTab) (h4 : Cond.initialized RJ10 ∈ zTab) (i0 i : Nat) (hi0 : i0 < N) (hi : i < N) (he0 : zE G w i0 = zArr G.2.1 n v0 o0 w) (he : ∀ u, zE G u i = zArr G.2.1 n v o u) (hx : x = nI n) (hn : n < 2147483648) (hu : ∀ a b, xg u a b = if a = v ∧ o ≤ b ∧ b < o + n then xg w v0 (o0 + (b - o)) else xg w a b) (hu2 : u.2 = w.2) (hw : ∀ b, o ≤ b → b < o + n → zown v b = i)
    (hroom : 1 ≤ fr ∧ (st.map fun v => v.category).sum + (nativeFrameWords "java/lang/System" "arraycopy" 5 + 11) ≤ lo) (kk : zZ k G N u (pc + 3) lv st) : zZ k G N w pc lv (.int x :: .int 0 :: .ref (zad G i) :: .int 0 :: .ref (zad G i0) :: st) := by
  subst hx
  have w1 := ok.word h1; have w2 := ok.word h2; have w3 := ok.word h3; have w4 := ok.word h4
  obtain ⟨p, l, e, R, s, m, args, below, meth, c0, Q, A, nL, cells, slots⟩ := k
  obtain ⟨hx, hb, hown, hml, hK, hg, -, rfl, rfl, hc1, hs1, hA, -⟩ := id ok
  intro H locs ls hP hS hl
  refine va_copyi (c0 := G.2.1) (c1 := G.2.1) (n0 := n) (n1 := n) (ty := .int) (f := fun j => if j < n then xg w v0 (o0 + j) else 0) (g := fun j => if j < n then xg w v (o + j) else 0) hx hb (by rw [hl.1]; exact hml) hown w1 w2 w3 w4 hK.1 hP (hg.D hA w) hS i0 i 0 0 (by rw [zws_get w hi0, he0]; rfl) (by rw [zws_get w hi, he]; rfl) rfl rfl rfl (by decide) (by decide) (nI_nlt (Nat.zero_le _) hn) ?_ ?_ (fun _ _ => rfl) hroom.1 hroom.2 d (fun H1 locs1 hP1 hD1 hS1 => ?_)
  · rw [zcl hn]; show 0 + n ≤ n; omega
  · rw [zcl hn]; show 0 + n ≤ n; omega
  · rw [zcl hn] at hP1
    have e1 : va_cpy (fun j => if j < n then xg w v0 (o0 + j) else 0) (fun j => if j < n then xg w v (o + j) else 0) (0 : Int32).toNatClampNeg (0 : Int32).toNatClampNeg n = (fun j => if j < n then xg u v (o + j) else 0) := by
      have z0 : (0 : Int32).toNatClampNeg = 0 := rfl
      funext j
      simp only [va_cpy, z0]
      by_cases hj : j < n
      · simp only [Nat.zero_le, true_and, Nat.zero_add, Nat.sub_zero, hj, if_true]
        rw [hu, if_pos ⟨rfl, by omega, by omega⟩, show o + j - o = j by omega]
      · simp only [Nat.zero_le, true_and, Nat.zero_add, hj, if_false]
    rw [e1] at hP1
    have e2 := zws_set (G := G) (N := N) (w := w) (u := u) hi (he u) (fun q hq hne => zE_congr (by have := hg.1; omega) hu2 fun a b hab => by
      rw [hu]
      by_cases hc : a = v ∧ o ≤ b ∧ b < o + n
      · exact absurd (hab.symm.trans (by rw [hc.1]; exact hw b hc.2.1 hc.2.2)) hne
      · rw [if_neg hc])
    have hP2 : va_P G.1 vwCl ((zws G N w).set i (zad G i, zArr G.2.1 n v o u)) H1 := hP1
    rw [e2] at hP2
    exact kk H1 locs1 ls hP2 hS1 hl
end ZR
/-! naming what is worked out on the way -/
def zlet {α β : Type} (e : α) (f : α → β) : β := f e
theorem zlet_open {α β : Type} {e : α} {f : α → β} {T : β} (h : zlet e f = T) : ∃ x, x = e ∧ f x = T := ⟨e, rfl, h⟩
theorem zcell {x : Int32} {n : Nat} (h : vp_in x n) (hn : n < 2147483648) : ∃ c, c < n ∧ x = nI c ∧ (nI c).toNatClampNeg = c := by
  obtain ⟨c, h1, h2⟩ := vp_in_of h hn
  exact ⟨c, h1, h2, zcl (by omega)⟩
