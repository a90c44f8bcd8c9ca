/-! long numbers, static calls of any answer, the row of long numbers, the script -/
theorem zE_xpL {G : zG} {w : xW} {i j k : Nat} (h47 : i ≠ 47) (hj : 100 ≤ j) : zE G (xp w j k) i = zE G w i := by
  have ho : zOuter G (xp w j k) = zOuter G w := by
    have : ∀ q, q < 100 → zpr (xp w j k) q = zpr w q := fun q hq => by
      have : ¬ q = j := by omega
      simp [zpr, xp, this]
    rw [zOuter, zOuter, this 5 (by omega), this 6 (by omega)]
    rfl
  have hr : zRefs G (xp w j k) = zRefs G w := by
    unfold zRefs
    have : (fun q => if q < 5 then some (zad G (5 + 6 * zpg (xp w j k) q)) else none) = (fun q => if q < 5 then some (zad G (5 + 6 * zpg w q)) else none) := by
      funext q
      by_cases hq : q < 5
      · have : ¬ q = j := by omega
        simp [hq, zpg, xp, this]
      · simp [hq]
    rw [this]
  have e : ∀ u : xW, zE G u i = if i = 0 then zOuter G u else if i = 1 then zRefs G u else zE G (u.1, w.2) i := by
    intro u
    by_cases h0 : i = 0
    · rw [if_pos h0, h0]; rfl
    · by_cases h1 : i = 1
      · rw [if_neg h0, if_pos h1, h1]; rfl
      · rw [if_neg h0, if_neg h1]
        unfold zE
        rw [if_neg h0, if_neg h1, if_neg h0, if_neg h1, if_neg h47, if_neg h47]
        rfl
  rw [e (xp w j k), e w, ho, hr]
  rfl
theorem zLg_of (x : Int64) : zLg x.toBitVec.toNat = x := by
  unfold zLg
  simp
theorem zLf_up {w : xW} {c : Nat} (hc : c < 48) (x : Int64) : zLf (xp w (100 + c) x.toBitVec.toNat) = vp_updL (zLf w) c x := by
  funext j
  unfold zLf vp_updL
  by_cases h : j = c
  · subst h
    rw [if_pos hc, if_pos rfl]
    show zLg (if 100 + j = 100 + j then x.toBitVec.toNat else w.2 (100 + j)) = x
    rw [if_pos rfl, zLg_of]
  · rw [if_neg h]
    show (if j < 48 then zLg (if 100 + j = 100 + c then x.toBitVec.toNat else w.2 (100 + j)) else 0) = _
    rw [if_neg (show ¬ 100 + j = 100 + c by omega)]
theorem lcmp_0 {x y : Int64} (h : x = y) : lg_cmp x y = 0 := by subst h; simp [lg_cmp]
theorem lcmp_n {x y : Int64} (h : ¬ x = y) : ¬ lg_cmp x y = 0 := by
  unfold lg_cmp
  by_cases a : y < x
  · rw [if_pos a]; decide
  · rw [if_neg a, if_neg h]; decide
section ZLG
variable {k : zC} {G : zG} {N : Nat} {cc : ByteArray} {own : String} {fr lo : Nat} {w u : xW} {pc tgt : Nat} {lv lv' : List (Nat × Value)} {st : List Value} {x y : Int32} {g h : Int64} {a b i L : Nat} {xs : Nat → Int32} {off : Int}
theorem z_ldc (ok : zOk k G N cc own fr lo) {index : Nat} (d : decode cc pc = .ok (.ldc index, 2)) (hw : Cond.constant own index x ∈ zTab) (kk : zZ k G N w (pc + 2) lv (.int x :: st)) : zZ k G N w pc lv st := by
  have w1 := ok.word hw
  obtain ⟨p, l, e, R, s, m, args, below, meth, c0, Q, A, nL, cells, slots⟩ := k
  exact fun H locs ls hP hS hl => lv_ldc ok.1 ok.2.1 ok.2.2.1 w1 d (kk H locs ls hP hS hl)
theorem z_ldc2 (ok : zOk k G N cc own fr lo) {index : Nat} (d : decode cc pc = .ok (.ldc2_w index, 3)) (hw : Cond.constantLong own index g ∈ zTab) (kk : zZ k G N w (pc + 3) lv (.long g :: st)) : zZ k G N w pc lv st := by
  have w1 := ok.word hw
  obtain ⟨p, l, e, R, s, m, args, below, meth, c0, Q, A, nL, cells, slots⟩ := k
  exact fun H locs ls hP hS hl => lv_ldc2 ok.1 ok.2.1 ok.2.2.1 w1 d (kk H locs ls hP hS hl)
theorem z_lconst (ok : zOk k G N cc own fr lo) {q : Fin 2} (d : decode cc pc = .ok (.lconst q, 1)) (hv : Int64.ofNat (q : Nat) = g) (kk : zZ k G N w (pc + 1) lv (.long g :: st)) : zZ k G N w pc lv st := by
  obtain ⟨p, l, e, R, s, m, args, below, meth, c0, Q, A, nL, cells, slots⟩ := k
  exact fun H locs ls hP hS hl => lv_lconst ok.1 ok.2.1 d hv (kk H locs ls hP hS hl)
theorem z_lload_n (ok : zOk k G N cc own fr lo) {q : Fin 4} (d : decode cc pc = .ok (.lload_n q, 1)) (t : Nat) (h : lv[t]? = some (q.val, .long g)) (kk : zZ k G N w (pc + 1) lv (.long g :: st)) : zZ k G N w pc lv st := by
  obtain ⟨p, l, e, R, s, m, args, below, meth, c0, Q, A, nL, cells, slots⟩ := k
  exact fun H locs ls hP hS hl => lv_lload_n ok.1 ok.2.1 d rfl (lv_at hl t h) (kk H locs ls hP hS hl)
theorem z_lstore_n (ok : zOk k G N cc own fr lo) {q : Fin 4} (d : decode cc pc = .ok (.lstore_n q, 1)) (hi : zIn k (q.val + 1)) (h : (q.val, Value.long g) :: lv.filter (fun z => !(z.1 == q.val) && (!(z.1 == q.val + 1) && !(z.1 + 1 == q.val && z.2.category == 2))) = lv') (kk : zZ k G N w (pc + 1) lv' st) : zZ k G N w pc lv (.long g :: st) := by
  obtain ⟨p, l, e, R, s, m, args, below, meth, c0, Q, A, nL, cells, slots⟩ := k
  exact fun H locs ls hP hS hl => lv_lstore_n ok.1 ok.2.1 d rfl hl hi h (fun ls' hl' => kk H locs ls' hP hS hl')
theorem z_ladd (ok : zOk k G N cc own fr lo) (d : decode cc pc = .ok (.ladd, 1)) (kk : zZ k G N w (pc + 1) lv (.long (g + h) :: st)) : zZ k G N w pc lv (.long h :: .long g :: st) := by
  obtain ⟨p, l, e, R, s, m, args, below, meth, c0, Q, A, nL, cells, slots⟩ := k
  exact fun H locs ls hP hS hl => lv_ladd ok.1 ok.2.1 d (kk H locs ls hP hS hl)
theorem z_lmul (ok : zOk k G N cc own fr lo) (d : decode cc pc = .ok (.lmul, 1)) (kk : zZ k G N w (pc + 1) lv (.long (g * h) :: st)) : zZ k G N w pc lv (.long h :: .long g :: st) := by
  obtain ⟨p, l, e, R, s, m, args, below, meth, c0, Q, A, nL, cells, slots⟩ := k
  exact fun H locs ls hP hS hl => lv_lmul ok.1 ok.2.1 d (kk H locs ls hP hS hl)
theorem z_land (ok : zOk k G N cc own fr lo) (d : decode cc pc = .ok (.land, 1)) (kk : zZ k G N w (pc + 1) lv (.long (g &&& h) :: st)) : zZ k G N w pc lv (.long h :: .long g :: st) := by
  obtain ⟨p, l, e, R, s, m, args, below, meth, c0, Q, A, nL, cells, slots⟩ := k
  exact fun H locs ls hP hS hl => lv_land ok.1 ok.2.1 d (kk H locs ls hP hS hl)
theorem z_lshr (ok : zOk k G N cc own fr lo) (d : decode cc pc = .ok (.lshr, 1)) (kk : zZ k G N w (pc + 1) lv (.long (g >>> (x.toInt64 &&& 63)) :: st)) : zZ k G N w pc lv (.int x :: .long g :: st) := by
  obtain ⟨p, l, e, R, s, m, args, below, meth, c0, Q, A, nL, cells, slots⟩ := k
  exact fun H locs ls hP hS hl => lv_lshr ok.1 ok.2.1 d rfl (kk H locs ls hP hS hl)
theorem z_i2l (ok : zOk k G N cc own fr lo) (d : decode cc pc = .ok (.i2l, 1)) (kk : zZ k G N w (pc + 1) lv (.long x.toInt64 :: st)) : zZ k G N w pc lv (.int x :: st) := by
  obtain ⟨p, l, e, R, s, m, args, below, meth, c0, Q, A, nL, cells, slots⟩ := k
  exact fun H locs ls hP hS hl => lv_i2l ok.1 ok.2.1 d rfl (kk H locs ls hP hS hl)
theorem z_l2i (ok : zOk k G N cc own fr lo) (d : decode cc pc = .ok (.l2i, 1)) (kk : zZ k G N w (pc + 1) lv (.int g.toInt32 :: st)) : zZ k G N w pc lv (.long g :: st) := by
  obtain ⟨p, l, e, R, s, m, args, below, meth, c0, Q, A, nL, cells, slots⟩ := k
  exact fun H locs ls hP hS hl => lv_l2i ok.1 ok.2.1 d rfl (kk H locs ls hP hS hl)
theorem z_lcmp (ok : zOk k G N cc own fr lo) (d : decode cc pc = .ok (.lcmp, 1)) (kk : zZ k G N w (pc + 1) lv (.int (lg_cmp g h) :: st)) : zZ k G N w pc lv (.long h :: .long g :: st) := by
  obtain ⟨p, l, e, R, s, m, args, below, meth, c0, Q, A, nL, cells, slots⟩ := k
  exact fun H locs ls hP hS hl => W.lcmp ok.1 ok.2.1 d (kk H locs ls hP hS hl)
theorem z_ishr (ok : zOk k G N cc own fr lo) (d : decode cc pc = .ok (.ishr, 1)) (kk : zZ k G N w (pc + 1) lv (.int (x >>> (y &&& 31)) :: st)) : zZ k G N w pc lv (.int y :: .int x :: st) := by
  obtain ⟨p, l, e, R, s, m, args, below, meth, c0, Q, A, nL, cells, slots⟩ := k
  exact fun H locs ls hP hS hl => lv_ishr ok.1 ok.2.1 d (kk H locs ls hP hS hl)
theorem z_ixor (ok : zOk k G N cc own fr lo) (d : decode cc pc = .ok (.ixor, 1)) (kk : zZ k G N w (pc + 1) lv (.int (x ^^^ y) :: st)) : zZ k G N w pc lv (.int y :: .int x :: st) := by
  obtain ⟨p, l, e, R, s, m, args, below, meth, c0, Q, A, nL, cells, slots⟩ := k
  exact fun H locs ls hP hS hl => lv_ixor ok.1 ok.2.1 d (kk H locs ls hP hS hl)
theorem z_lald (ok : zOk k G N cc own fr lo) (d : decode cc pc = .ok (.laload, 1)) (hN : 47 < N) (c : Nat) (hx : x = nI c) (hc : c < 48) (kk : zZ k G N w (pc + 1) lv (.long (zLg (w.2 (100 + c))) :: st)) : zZ k G N w pc lv (.int x :: .ref (zad G 47) :: st) := by
  subst hx
  obtain ⟨p, l, e, R, s, m, args, below, meth, c0, Q, A, nL, cells, slots⟩ := k
  refine fun H locs ls hP hS hl => va_lald (cA := G.2.2.2.2.1) (n := 48) (f := zLf w) ok.1 ok.2.1 ok.2.2.2.2.1.1 hP 47 3 (by rw [zws_get w hN, zE_47]; rfl) rfl (zin hc (by decide)) d ?_
  have e : zLf w (nI c).toNatClampNeg = zLg (w.2 (100 + c)) := by
    rw [zcl (by omega)]
    exact if_pos hc
  rw [e]
  exact kk H locs ls hP hS hl
theorem z_last (ok : zOk k G N cc own fr lo) (d : decode cc pc = .ok (.lastore, 1)) (hN : 47 < N) (c : Nat) (hx : x = nI c) (hc : c < 48) (kk : zZ k G N (xp w (100 + c) g.toBitVec.toNat) (pc + 1) lv st) : zZ k G N w pc lv (.long g :: .int x :: .ref (zad G 47) :: st) := by
  subst hx
  obtain ⟨p, l, e, R, s, m, args, below, meth, c0, Q, A, nL, cells, slots⟩ := k
  intro H locs ls hP hS hl
  refine va_last (cA := G.2.2.2.2.1) (n := 48) (f := zLf w) ok.1 ok.2.1 ok.2.2.2.2.1.1 hP (ok.2.2.2.2.2.1.D ok.2.2.2.2.2.2.2.2.2.2.2.1 w) hS 47 3 (by rw [zws_get w hN, zE_47]; rfl) rfl (zin hc (by decide)) d (fun H1 locs1 hP1 hD1 hS1 => ?_)
  rw [zcl (by omega), zws_set (u := xp w (100 + c) g.toBitVec.toNat) hN (by rw [zE_47, zLong, zLf_up hc]) (fun q hq hne => zE_xpL hne (by omega))] at hP1
  exact kk H1 locs1 ls hP1 hS1 hl
theorem z_callSV (ok : zOk k G N cc own fr lo) (old : zOld k G N) {y : MethodName} {cy : ByteArray} {maxL ny fy ly index : Nat} {ret : Option FieldType} {st0 args : List Value} {r : Value} (d : decode cc pc = .ok (.invokestatic index, 3)) (rest : List Value) (hM : zMV y cy maxL ret fy ly G N args w (some r) u) (hY : zYS y cy maxL ret ny) (hw : Cond.methodLink own index y ∈ zTab) (hst : st0 = args.reverse ++ rest) (hn : args.length = ny) (hroom : fy + 1 ≤ fr ∧ 8 + (maxL + 11) + ly ≤ lo) (hrest : (rest.map fun v => v.category).sum ≤ 8) (kk : zZ k G N u (pc + 3) lv (r :: rest)) : zZ k G N w pc lv st0 := by
  subst hst
  obtain ⟨p, l, e, R, s, m, args', below, meth, c0, Q, A, nL, cells, slots⟩ := k
  intro H locs ls hP hS hl
  obtain ⟨y1, y3, y4, y5, y6, y7, -⟩ := hY
  obtain ⟨hx, hb, hown, hml, hK, hg, -, rfl, rfl, hc1, hs1, hA, -⟩ := id ok
  refine z_afterV hg hA hS hl (va_runS (nL := nL) (Ts := zTab) (own := own) (As := args) (rest := rest) (n := ny) ⟨hx, hb, hml, hown, fun _ h => ok.word h⟩ (hM l) ⟨callB_of ny (Ts := zTab) (fun _ h => ok.word h) (fun w hw => ?_) rfl rfl rfl (ok.word y3) (ok.word hw) ⟨y5, y6, y7⟩ hroom, ok.word y1⟩ ⟨z_blind, z_pre hK hS old hP⟩ rfl hn hl.1 rfl (lv_room hrest) d ⟨hc1, hs1⟩) kk
  rw [List.mem_singleton.mp hw]
  exact ⟨y4, Or.inl rfl⟩
theorem z_callSv (ok : zOk k G N cc own fr lo) (old : zOld k G N) {yy : MethodName} {cy : ByteArray} {maxL ny fy ly index : Nat} {ret : Option FieldType} {st0 args : List Value} (d : decode cc pc = .ok (.invokestatic index, 3)) (rest : List Value) (hM : zM yy cy maxL ret fy ly G N args w none u) (hY : zYS yy cy maxL ret ny) (hw : Cond.methodLink own index yy ∈ zTab) (hst : st0 = args.reverse ++ rest) (hn : args.length = ny) (hroom : fy + 1 ≤ fr ∧ 8 + (maxL + 11) + ly ≤ lo) (hrest : (rest.map fun v => v.category).sum ≤ 8) (kk : zZ k G N u (pc + 3) lv rest) : zZ k G N w pc lv st0 := z_callS ok old d hM hY hw hst hn hroom hrest kk
theorem z_lret (ok : zOk k G N cc own fr lo) (hE : zEndV k G N (some .long) (some (.long h)) u) (d : decode cc pc = .ok (.lreturn, 1)) (hr : g = h ∧ w = u) : zZ k G N w pc lv [.long g] := by
  obtain ⟨rfl, rfl⟩ := hr
  obtain ⟨p, l, e, R, s, m, args, below, meth, c0, Q, A, nL, cells, slots⟩ := k
  obtain ⟨h1, rfl, rfl, rfl, rfl⟩ := hE
  exact fun H locs ls hP hS hl => W.lret ok.1 ok.2.1 h1 (fun t ht _ => ⟨⟨rfl, by rw [ht]; exact hP⟩, hS.F ht⟩) hS.2.2 d ok.2.2.2.2.2.2.1
end ZLG
/-- a contract with its answer and its world told otherwise -/
theorem zM_eq {y : MethodName} {cc : ByteArray} {maxL : Nat} {ret : Option FieldType} {fr lo : Nat} {G : zG} {N : Nat} {args : List Value} {w u : xW} {r : Int32} {p : Int32 × xW} (h : zM y cc maxL ret fr lo G N args w (some p.1) p.2) (e : p = (r, u)) : zM y cc maxL ret fr lo G N args w (some r) u := by
  subst e; exact h
theorem zM_eq1 {y : MethodName} {cc : ByteArray} {maxL : Nat} {ret : Option FieldType} {fr lo : Nat} {G : zG} {N : Nat} {args : List Value} {w : xW} {r x : Int32} (h : zM y cc maxL ret fr lo G N args w (some x) w) (e : x = r) : zM y cc maxL ret fr lo G N args w (some r) w := by
  subst e; exact h
/-- the script of L numbers, old, at b -/
def zScr (k : zC) (b L : Nat) (xs : Nat → Int32) : Prop := match k with
  | (_, _, _, _, s, _, _, _, _, _, _, A, _, _, _) => va_X b L xs s s.heap ∧ b < s.heap.size ∧ ¬ A b
section ZL
variable {k : zC} {G : zG} {N : Nat} {cc : ByteArray} {own : String} {fr lo : Nat} {w u : xW} {pc : Nat} {lv : List (Nat × Value)} {st : List Value} {x : Int32} {b L : Nat} {xs : Nat → Int32}
theorem z_sld (ok : zOk k G N cc own fr lo) (sc : zScr k b L xs) (d : decode cc pc = .ok (.iaload, 1)) (c : Nat) (hx : x = nI c) (hc : c < L) (hL : L < 2147483648) (kk : zZ k G N w (pc + 1) lv (.int (xs c) :: st)) : zZ k G N w pc lv (.int x :: .ref b :: st) := by
  subst hx
  obtain ⟨p, l, e, R, s, m, args, below, meth, c0, Q, A, nL, cells, slots⟩ := k
  refine fun H locs ls hP hS hl => va_sld ok.1 ok.2.1 sc.1 sc.2.1 sc.2.2 hS (zin hc hL) d ?_
  rw [zcl (by omega)]
  exact kk H locs ls hP hS hl
theorem z_slen (ok : zOk k G N cc own fr lo) (sc : zScr k b L xs) (d : decode cc pc = .ok (.arraylength, 1)) (kk : zZ k G N w (pc + 1) lv (.int (nI L) :: st)) : zZ k G N w pc lv (.ref b :: st) := by
  obtain ⟨p, l, e, R, s, m, args, below, meth, c0, Q, A, nL, cells, slots⟩ := k
  exact fun H locs ls hP hS hl => va_slen ok.1 ok.2.1 sc.1 sc.2.1 sc.2.2 hS d (kk H locs ls hP hS hl)
end ZL
/-- a contract that may read the script -/
def zPs (G : zG) (N : Nat) (w : xW) (args : List Value) (b L : Nat) (xs : Nat → Int32) : Array Value → State → Prop := va_Pc args (fun U => va_P G.1 vwCl (zws G N w) U.heap ∧ zK G N U U.heap ∧ va_X b L xs U U.heap ∧ b < U.heap.size ∧ ¬ zA G N b)
def zMS (y : MethodName) (cc : ByteArray) (maxL : Nat) (ret : Option FieldType) (fr lo : Nat) (G : zG) (N : Nat) (args : List Value) (b L : Nat) (xs : Nat → Int32) (w : xW) (r : Option Int32) (u : xW) : Prop :=
  ∀ l : Launch, Met l y [.code y cc maxL ret] { frames := fr, cells := 0, slots := 0, locals := lo } (zPs G N w args b L xs) (fun _ st o t => (o = .returned (r.map Value.int) ∧ va_P G.1 vwCl (zws G N u) t.heap) ∧ va_F (zA G N) st t) 0 0 (zA G N)
theorem zMS_of {y : MethodName} {cc : ByteArray} {maxL : Nat} {ret : Option FieldType} {fr lo : Nat} {G : zG} {N : Nat} {args : List Value} {b L : Nat} {xs : Nat → Int32} {w : xW} {r : Option Int32} {u : xW} {lv : List (Nat × Value)} (hy : plainName y.cls = true) (hg : zGeo G N) (hn : (lg_sl args).length ≤ maxL ∧ maxL < 1000) (hlv : lv_args 0 args = lv)
    (body : ∀ k : zC, zOk k G N cc y.cls fr lo → zEnd k G N ret r u → zScr k b L xs → (∀ i, i < maxL → zIn k i) → zZ k G N w 0 lv []) : zMS y cc maxL ret fr lo G N args b L xs w r u := by
  intro l
  refine Met.ofW (cc := cc) (maxL := maxL) (ret := ret) hy rfl ?_
  intro p e s m args' below meth c s₁ B hml hv
  obtain ⟨rfl, hP, hK, hX⟩ := hv
  have hx := B.exec
  have hb := B.bytes
  have hr := B.returns
  have hown : s.vm.findClass y.cls = some m.cls := findClass_of_methodNamed B.named
  have hlocks := B.notSynchronized
  have hl := lv_entry args (n := maxL) hn.1
  rw [hlv] at hl
  rw [lg_entry_eq]
  exact body (p, l, e, (headSpec [.code y cc maxL ret] { frames := fr, cells := 0, slots := 0, locals := lo }).room, s, m, args.toArray, below, meth, c, _, zA G N, maxL, 0, 0) ⟨hx, hb, hown, hml, hK, hg, hlocks, rfl, rfl, Nat.zero_le _, Nat.zero_le _, fun i hi => ⟨i, hi, rfl⟩, hn.2⟩ ⟨hr, rfl, rfl, rfl, rfl⟩ hX (fun _ h => h) s.heap [] _ hP va_S.rf hl
theorem z_callSS {k : zC} {G : zG} {N : Nat} {cc : ByteArray} {own : String} {fr lo : Nat} {w u : xW} {pc : Nat} {lv : List (Nat × Value)} {b L : Nat} {xs : Nat → Int32} (ok : zOk k G N cc own fr lo) (old : zOld k G N) (sc : zScr k b L xs) {y : MethodName} {cy : ByteArray} {maxL ny fy ly index : Nat} {ret : Option FieldType} {st0 args : List Value} {r : Int32} (d : decode cc pc = .ok (.invokestatic index, 3)) (rest : List Value) (hM : zMS y cy maxL ret fy ly G N args b L xs w (some r) u) (hY : zYS y cy maxL ret ny) (hw : Cond.methodLink own index y ∈ zTab) (hst : st0 = args.reverse ++ rest) (hn : args.length = ny) (hroom : fy + 1 ≤ fr ∧ 8 + (maxL + 11) + ly ≤ lo) (hrest : (rest.map fun v => v.category).sum ≤ 8) (kk : zZ k G N u (pc + 3) lv (.int r :: rest)) : zZ k G N w pc lv st0 := by
  subst hst
  obtain ⟨p, l, e, R, s, m, args', below, meth, c0, Q, A, nL, cells, slots⟩ := k
  intro H locs ls hP hS hl
  obtain ⟨y1, y3, y4, y5, y6, y7, -⟩ := hY
  obtain ⟨hx, hb, hown, hml, hK, hg, -, rfl, rfl, hc1, hs1, hA, -⟩ := id ok
  have hsc : ∀ U : State, U.heap = H → s.WarmedH U.vm → va_X b L xs U U.heap ∧ b < U.heap.size ∧ ¬ zA G N b := by
    intro U hU hW
    subst hU
    refine ⟨(sc.1.moved hW.alike).kept (hS.2.1 b sc.2.1 sc.2.2), Nat.lt_of_lt_of_le sc.2.1 hS.1, fun ⟨i, hi, e⟩ => sc.2.2 ?_⟩
    rw [e]; exact hA i hi
  refine z_after hg hA hS hl (va_runS (nL := nL) (Ts := zTab) (own := own) (As := args) (rest := rest) (n := ny) ⟨hx, hb, hml, hown, fun _ h => ok.word h⟩ (hM l) ⟨callB_of ny (Ts := zTab) (fun _ h => ok.word h) (fun w hw => ?_) rfl rfl rfl (ok.word y3) (ok.word hw) ⟨y5, y6, y7⟩ hroom, ok.word y1⟩ ⟨fun a U g mk q => ⟨q.1, q.2.1, zK.moved (State.WarmedH.refl U) (fun _ _ _ => rfl) q.2.2.1, q.2.2.2.1.moved (State.WarmedH.refl U).alike, q.2.2.2.2⟩, fun U hU hW => ⟨rfl, (z_pre (args := args) hK hS old hP U hU hW).2.1, (z_pre (args := args) hK hS old hP U hU hW).2.2, hsc U hU hW⟩⟩ rfl hn hl.1 rfl (lv_room hrest) d ⟨hc1, hs1⟩) kk
  rw [List.mem_singleton.mp hw]
  exact ⟨y4, Or.inl rfl⟩
