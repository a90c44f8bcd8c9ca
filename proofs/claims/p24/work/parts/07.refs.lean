/-! a method that answers a place or nothing: contracts whose answer is any value -/
def zEndV (k : zC) (G : zG) (N : Nat) (ret : Option FieldType) (r : Option Value) (u : xW) : Prop := match k with
  | (_, _, _, _, s, _, args, below, meth, _, Q, A, _, cells, slots) => meth.sig.returnType = ret ∧ A = zA G N ∧ cells = 0 ∧ slots = 0 ∧ Q = MQ below (fun _ st o t => (o = .returned r ∧ va_P G.1 vwCl (zws G N u) t.heap) ∧ va_F (zA G N) st t) args s 0 0 (zA G N)
def zMV (y : MethodName) (cc : ByteArray) (maxL : Nat) (ret : Option FieldType) (fr lo : Nat) (G : zG) (N : Nat) (args : List Value) (w : xW) (r : Option Value) (u : xW) : Prop :=
  ∀ l : Launch, Met l y [.code y cc maxL ret] { frames := fr, cells := 0, slots := 0, locals := lo } (zPc G N w args) (fun _ st o t => (o = .returned r ∧ va_P G.1 vwCl (zws G N u) t.heap) ∧ va_F (zA G N) st t) 0 0 (zA G N)
theorem zMV_of {y : MethodName} {cc : ByteArray} {maxL : Nat} {ret : Option FieldType} {fr lo : Nat} {G : zG} {N : Nat} {args : List Value} {w : xW} {r : Option Value} {u : xW} {lv : List (Nat × Value)} (hy : plainName y.cls = true) (hg : zGeo G N) (hn : (lg_sl args).length ≤ maxL ∧ maxL < 1000) (hlv : lv_args 0 args = lv)
    (body : ∀ k : zC, zOk k G N cc y.cls fr lo → zEndV k G N ret r u → (∀ i, i < maxL → zIn k i) → zZ k G N w 0 lv []) : zMV y cc maxL ret fr lo G N args w r u := by
  intro l
  refine Met.ofW (cc := cc) (maxL := maxL) (ret := ret) hy rfl ?_
  intro p e s m args' below meth c s₁ B hml hv
  obtain ⟨rfl, hP, hK⟩ := hv
  have hx := B.exec
  have hb := B.bytes
  have hr := B.returns
  have hown : s.vm.findClass y.cls = some m.cls := findClass_of_methodNamed B.named
  have hlocks := B.notSynchronized
  have hl := lv_entry args (n := maxL) hn.1
  rw [hlv] at hl
  rw [lg_entry_eq]
  exact body (p, l, e, (headSpec [.code y cc maxL ret] { frames := fr, cells := 0, slots := 0, locals := lo }).room, s, m, args.toArray, below, meth, c, _, zA G N, maxL, 0, 0) ⟨hx, hb, hown, hml, hK, hg, hlocks, rfl, rfl, Nat.zero_le _, Nat.zero_le _, fun i hi => ⟨i, hi, rfl⟩, hn.2⟩ ⟨hr, rfl, rfl, rfl, rfl⟩ (fun _ h => h) s.heap [] _ hP va_S.rf hl
section ZV
variable {k : zC} {G : zG} {N : Nat} {cc : ByteArray} {own : String} {fr lo : Nat} {w u : xW} {pc tgt : Nat} {lv lv' : List (Nat × Value)} {st : List Value} {a i : Nat} {off : Int}
theorem z_afterV {p : Program} {l : Launch} {e : Env} {R : Room} {s : State} {m : MethodId} {args : Array Value} {below : List Frame} {meth : Method} {c0 : Code} {Q : State → Prop} {A : Nat → Prop} {nL cells slots : Nat} {H : Heap} {locs : List Loc} {ls : Array Slot} {st0 rest : List Value} {r : Option Value}
    (hg : zGeo G N) (hA : ∀ i, i < N → A (zad G i)) (hS : va_S A s.heap H locs) (hl : lv_has ls nL lv)
    (hr : va_Run p l e R s m args below meth c0 H locs cells slots 0 0 (F0 m pc ls st0) rest (fun st o t => (o = .returned r ∧ va_P G.1 vwCl (zws G N u) t.heap) ∧ va_F (zA G N) st t) (zA G N))
    (kk : zZ (p, l, e, R, s, m, args, below, meth, c0, Q, A, nL, cells, slots) G N u (pc + 3) lv (r.toList ++ rest)) : W p l e R s m args below meth c0 H locs cells slots Q (F0 m pc ls st0) := by
  have hAz : ∀ q, zA G N q → A q := fun q ⟨i, hi, e⟩ => by rw [e]; exact hA i hi
  intro T hT X
  obtain ⟨v, st₀, t, T', L, h0, X', hL, e1, e2, ⟨⟨hv, hp⟩, hz, hk⟩, stp⟩ := hr T hT X
  cases hv
  rw [h0] at hz hk
  have hS' : va_S A s.heap T'.heap (locs ++ L) := ⟨Nat.le_trans hS.1 (by rw [e1]; exact hz), fun q h1 h2 => by rw [e1, hk q (Nat.lt_of_lt_of_le h1 hS.1) (fun z => h2 (hAz q z))]; exact hS.2.1 q h1 h2, fun q hq => by
      rcases List.mem_append.mp hq with h | h
      · exact hS.2.2 q h
      · exact hAz _ (hL q h)⟩
  obtain ⟨t2, a1, b1⟩ := kk T'.heap (locs ++ L) ls (by rw [e1]; exact hp) hS' hl T' rfl X'
  exact ⟨t2, stp t2 a1, b1⟩
theorem z_callVV (ok : zOk k G N cc own fr lo) (old : zOld k G N) {y : MethodName} {cy : ByteArray} {maxL ny fy ly index ci : Nat} {ret : Option FieldType} {fs As st0 args : List Value} {r : Value} {C : String} {T : u_T} {n : Nat} (d : decode cc pc = .ok (.invokevirtual index, 3)) (rest : List Value) (hM : zMV y cy maxL ret fy ly G N args w (some r) u) (hY : zY y cy maxL ret ny) (hw : Cond.methodLink own index y ∈ zTab) (i : Nat) (hi : i < N) (he : zE G w i = .inr (ci, fs)) (hc : vwCl[ci]? = some (C, T, n)) (hC : C = y.cls) (ha : args = .ref (zad G i) :: As) (hst : st0 = As.reverse ++ .ref (zad G i) :: rest) (hn : As.length = ny) (hroom : fy + 1 ≤ fr ∧ 8 + (maxL + 11) + ly ≤ lo) (hrest : (rest.map fun v => v.category).sum ≤ 8) (kk : zZ k G N u (pc + 3) lv (r :: rest)) : zZ k G N w pc lv st0 := by
  subst hC; subst ha; subst hst
  obtain ⟨p, l, e, R, s, m, args, below, meth, c0, Q, A, nL, cells, slots⟩ := k
  intro H locs ls hP hS hl
  obtain ⟨y1, y2, y3, y4, y5, y6, y7, -⟩ := hY
  obtain ⟨hx, hb, hown, hml, hK, hg, -, rfl, rfl, hc1, hs1, hA, -⟩ := id ok
  refine z_afterV hg hA hS hl (va_runV (nL := nL) (Ts := zTab) (own := own) (C := y.cls) (b := zad G i) (As := As) (rest := rest) (n := ny) ⟨hx, hb, hml, hown, fun _ h => ok.word h⟩ (hM l) ⟨callB_of ny (Ts := zTab) (fun _ h => ok.word h) (fun w hw => ?_) rfl rfl rfl (ok.word y3) (ok.word hw) ⟨y5, y6, y7⟩ hroom, ok.word y1, ok.word y2⟩ ⟨z_blind, va_recv hK.1 hP (ci := ci) (q0 := i) hc (by rw [zws_get w hi, he]), z_pre hK hS old hP⟩ rfl hn hl.1 rfl (lv_room hrest) d ⟨hc1, hs1⟩) kk
  rw [List.mem_singleton.mp hw]
  exact ⟨y4, Or.inl rfl⟩
theorem z_aret (ok : zOk k G N cc own fr lo) {n : String} {r v : Value} (hE : zEndV k G N (some (.object n)) (some r) u) (d : decode cc pc = .ok (.areturn, 1)) (hv : v = .null ∨ ∃ a, v = .ref a) (hr : v = r ∧ w = u) : zZ k G N w pc lv [v] := by
  obtain ⟨rfl, rfl⟩ := hr
  obtain ⟨p, l, e, R, s, m, args, below, meth, c0, Q, A, nL, cells, slots⟩ := k
  obtain ⟨h1, rfl, rfl, rfl, rfl⟩ := hE
  exact fun H locs ls hP hS hl => W.aret ok.1 ok.2.1 h1 (Or.inl ⟨n, rfl⟩) hv (fun t ht _ => ⟨⟨rfl, by rw [ht]; exact hP⟩, hS.F ht⟩) hS.2.2 d ok.2.2.2.2.2.2.1
theorem z_null (ok : zOk k G N cc own fr lo) (d : decode cc pc = .ok (.aconst_null, 1)) (kk : zZ k G N w (pc + 1) lv (.null :: st)) : zZ k G N w pc lv st := by
  obtain ⟨p, l, e, R, s, m, args, below, meth, c0, Q, A, nL, cells, slots⟩ := k
  exact fun H locs ls hP hS hl => lv_null ok.1 ok.2.1 d (kk H locs ls hP hS hl)
theorem z_ifnull (ok : zOk k G N cc own fr lo) (d : decode cc pc = .ok (.ifnull off, 3)) (kk : zZ k G N w (pc + 3) lv st) : zZ k G N w pc lv (.ref a :: st) := by
  obtain ⟨p, l, e, R, s, m, args, below, meth, c0, Q, A, nL, cells, slots⟩ := k
  exact fun H locs ls hP hS hl => lv_ifnull ok.1 ok.2.1 d (kk H locs ls hP hS hl)
theorem z_ifnullN (ok : zOk k G N cc own fr lo) (d : decode cc pc = .ok (.ifnull off, 3)) (tgt : Nat) (ht : (pc : Int) + off = (tgt : Int)) (kk : zZ k G N w tgt lv st) : zZ k G N w pc lv (.null :: st) := by
  obtain ⟨p, l, e, R, s, m, args, below, meth, c0, Q, A, nL, cells, slots⟩ := k
  exact fun H locs ls hP hS hl => lv_ifnullN ok.1 ok.2.1 d ht (kk H locs ls hP hS hl)
theorem z_ifnonnull (ok : zOk k G N cc own fr lo) (d : decode cc pc = .ok (.ifnonnull off, 3)) (tgt : Nat) (ht : (pc : Int) + off = (tgt : Int)) (kk : zZ k G N w tgt lv st) : zZ k G N w pc lv (.ref a :: st) := by
  obtain ⟨p, l, e, R, s, m, args, below, meth, c0, Q, A, nL, cells, slots⟩ := k
  exact fun H locs ls hP hS hl => lv_ifnonnull ok.1 ok.2.1 d ht (kk H locs ls hP hS hl)
theorem z_ifnonnullN (ok : zOk k G N cc own fr lo) (d : decode cc pc = .ok (.ifnonnull off, 3)) (kk : zZ k G N w (pc + 3) lv st) : zZ k G N w pc lv (.null :: st) := by
  obtain ⟨p, l, e, R, s, m, args, below, meth, c0, Q, A, nL, cells, slots⟩ := k
  exact fun H locs ls hP hS hl => lv_ifnonnullN ok.1 ok.2.1 d (kk H locs ls hP hS hl)
theorem z_aload_nN (ok : zOk k G N cc own fr lo) {q : Fin 4} (d : decode cc pc = .ok (.aload_n q, 1)) (t : Nat) (h : lv[t]? = some (q.val, .null)) (kk : zZ k G N w (pc + 1) lv (.null :: st)) : zZ k G N w pc lv st := by
  obtain ⟨p, l, e, R, s, m, args, below, meth, c0, Q, A, nL, cells, slots⟩ := k
  exact fun H locs ls hP hS hl => lv_aload_nN ok.1 ok.2.1 d rfl (lv_at hl t h) (kk H locs ls hP hS hl)
theorem z_astore_nN (ok : zOk k G N cc own fr lo) {q : Fin 4} (d : decode cc pc = .ok (.astore_n q, 1)) (hi : zIn k q.val) (h : (q.val, Value.null) :: lv.filter (fun z => !(z.1 == q.val) && !(z.1 + 1 == q.val && z.2.category == 2)) = lv') (kk : zZ k G N w (pc + 1) lv' st) : zZ k G N w pc lv (.null :: st) := by
  obtain ⟨p, l, e, R, s, m, args, below, meth, c0, Q, A, nL, cells, slots⟩ := k
  exact fun H locs ls hP hS hl => lv_astore_nN ok.1 ok.2.1 d rfl hl hi h (fun ls' hl' => kk H locs ls' hP hS hl')
theorem zEndV.old {ret : Option FieldType} {r : Option Value} (h : zEndV k G N ret r u) : zOld k G N := by
  obtain ⟨p, l, e, R, s, m, args, below, meth, c0, Q, A, nL, cells, slots⟩ := k
  intro q _ hq
  rw [h.2.1] at hq
  exact hq
end ZV
