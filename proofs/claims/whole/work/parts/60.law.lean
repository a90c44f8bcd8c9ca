/-! the law: its cases and its loop -/
/-- the script of L numbers, old, at b -/
def zScr (k : zC) (b L : Nat) (xs : Nat → Int32) : Prop := match k with
  | (_, _, _, _, s, _, _, _, _, _, _, A, _, _, _) => va_X b L xs s s.heap ∧ b < s.heap.size ∧ ¬ A b
section ZL
variable {k : zC} {G : zG} {N : Nat} {cc : ByteArray} {own : String} {fr lo : Nat} {w u : xW} {pc : Nat} {lv : List (Nat × Value)} {st : List Value} {x : Int32} {b L : Nat} {xs : Nat → Int32}
theorem z_sld (ok : zOk k G N cc own fr lo) (sc : zScr k b L xs) (d : decode cc pc = .ok (.iaload, 1)) (c : Nat) (hx : x = nI c) (hc : c < L) (hL : L < 2147483648) (kk : zZ k G N w (pc + 1) lv (.int (xs c) :: st)) : zZ k G N w pc lv (.int x :: .ref b :: st) := by
  subst hx
  obtain ⟨p, l, e, R, s, m, args, below, meth, c0, Q, A, nL, cells, slots⟩ := k
  refine fun H locs ls hP hS hl => va_sld ok.1 ok.2.1 sc.1 sc.2.1 sc.2.2 hS (zin hc hL) d ?_
  rw [zcl (by omega)]
  exact kk H locs ls hP hS hl
theorem z_slen (ok : zOk k G N cc own fr lo) (sc : zScr k b L xs) (d : decode cc pc = .ok (.arraylength, 1)) (kk : zZ k G N w (pc + 1) lv (.int (nI L) :: st)) : zZ k G N w pc lv (.ref b :: st) := by
  obtain ⟨p, l, e, R, s, m, args, below, meth, c0, Q, A, nL, cells, slots⟩ := k
  exact fun H locs ls hP hS hl => va_slen ok.1 ok.2.1 sc.1 sc.2.1 sc.2.2 hS d (kk H locs ls hP hS hl)
end ZL
set_option maxRecDepth 100000 in
set_option maxHeartbeats 4000000 in
theorem law_0 {k : zC} {G : zG} {b L i : Nat} {xs : Nat → Int32} (hg : zGeo G 54) (ok : zOk k G 54 cL_law RL 13 494) (old : zOld k G 54) (sc : zScr k b L xs) (hL : L ≤ 2560) (hi : i + 5 ≤ L) {w : xW} {A : xA} (h : zSim w A) (kn : ∀ u B, zSim u B → zZ k G 54 u 655 [(0, .ref b), (1, .ref (zad G 0)), (2, .ref (zad G 47)), (3, .int (nI i))] []) : zZ k G 54 w 132 [(0, .ref b), (1, .ref (zad G 0)), (2, .ref (zad G 47)), (3, .int (nI i))] [] := by
  have hl := P_setUp h 
  refine z_aload_n ok dL_law_132 1 rfl ?_
  refine z_callVi ok old dL_law_133 [] (c_X2_setUp G 54 (by omega) hg w ) zy_X2_setUp zw_233 0 (by omega) (zE_0 G w) rfl rfl rfl rfl rfl (by decide) (Nat.le_of_ble_eq_true rfl) ?_
  refine z_aload_n ok dL_law_136 2 rfl ?_
  refine z_callVi ok old dL_law_137 [.int (d_X2_setUp w).1] (c_X3_setUp G 54 (by omega) hg (d_X2_setUp w).2  hl.2.2.1) zy_X3_setUp zw_593 47 (by omega) (zE_47 G (d_X2_setUp w).2) rfl rfl rfl rfl rfl (by decide) (Nat.le_of_ble_eq_true rfl) ?_
  refine z_icmp_eq ok dL_law_140 655 (by decide) (fun _ => ?_) (fun c => ?_)
  · obtain ⟨B, hB⟩ := hl.2.1
    exact kn _ B hB
  · exact absurd hl.1 c
set_option maxRecDepth 100000 in
set_option maxHeartbeats 4000000 in
theorem law_1 {k : zC} {G : zG} {b L i : Nat} {xs : Nat → Int32} (hg : zGeo G 54) (ok : zOk k G 54 cL_law RL 13 494) (old : zOld k G 54) (sc : zScr k b L xs) (hL : L ≤ 2560) (hi : i + 5 ≤ L) {w : xW} {A : xA} (h : zSim w A) (kn : ∀ u B, zSim u B → zZ k G 54 u 655 [(0, .ref b), (1, .ref (zad G 0)), (2, .ref (zad G 47)), (3, .int (nI i))] []) : zZ k G 54 w 145 [(0, .ref b), (1, .ref (zad G 0)), (2, .ref (zad G 47)), (3, .int (nI i))] [] := by
  have hl := P_set h (xs (i + 1)) (xs (i + 2))
  refine z_aload_n ok dL_law_145 1 rfl ?_
  refine z_aload_n ok dL_law_146 0 rfl ?_
  refine z_iload_n ok dL_law_147 3 rfl ?_
  refine z_iconst ok dL_law_148 (x := 1) (by decide) ?_
  refine z_iadd_n ok dL_law_149 i 1 rfl rfl ?_
  refine z_sld ok sc dL_law_150 (i + 1) rfl (by omega) (by omega) ?_
  refine z_aload_n ok dL_law_151 0 rfl ?_
  refine z_iload_n ok dL_law_152 3 rfl ?_
  refine z_iconst ok dL_law_153 (x := 2) (by decide) ?_
  refine z_iadd_n ok dL_law_154 i 2 rfl rfl ?_
  refine z_sld ok sc dL_law_155 (i + 2) rfl (by omega) (by omega) ?_
  refine z_callVi ok old dL_law_156 [] (c_X2_set G 54 (by omega) hg w (xs (i + 1)) (xs (i + 2))) zy_X2_set zw_257 0 (by omega) (zE_0 G w) rfl rfl rfl rfl rfl (by decide) (Nat.le_of_ble_eq_true rfl) ?_
  refine z_aload_n ok dL_law_159 2 rfl ?_
  refine z_aload_n ok dL_law_160 0 rfl ?_
  refine z_iload_n ok dL_law_161 3 rfl ?_
  refine z_iconst ok dL_law_162 (x := 1) (by decide) ?_
  refine z_iadd_n ok dL_law_163 i 1 rfl rfl ?_
  refine z_sld ok sc dL_law_164 (i + 1) rfl (by omega) (by omega) ?_
  refine z_aload_n ok dL_law_165 0 rfl ?_
  refine z_iload_n ok dL_law_166 3 rfl ?_
  refine z_iconst ok dL_law_167 (x := 2) (by decide) ?_
  refine z_iadd_n ok dL_law_168 i 2 rfl rfl ?_
  refine z_sld ok sc dL_law_169 (i + 2) rfl (by omega) (by omega) ?_
  refine z_callVi ok old dL_law_170 [.int (d_X2_set w (xs (i + 1)) (xs (i + 2))).1] (c_X3_set G 54 (by omega) hg (d_X2_set w (xs (i + 1)) (xs (i + 2))).2 (xs (i + 1)) (xs (i + 2)) hl.2.2.1) zy_X3_set zw_601 47 (by omega) (zE_47 G (d_X2_set w (xs (i + 1)) (xs (i + 2))).2) rfl rfl rfl rfl rfl (by decide) (Nat.le_of_ble_eq_true rfl) ?_
  refine z_icmp_eq ok dL_law_173 655 (by decide) (fun _ => ?_) (fun c => ?_)
  · obtain ⟨B, hB⟩ := hl.2.1
    exact kn _ B hB
  · exact absurd hl.1 c
set_option maxRecDepth 100000 in
set_option maxHeartbeats 4000000 in
theorem law_2 {k : zC} {G : zG} {b L i : Nat} {xs : Nat → Int32} (hg : zGeo G 54) (ok : zOk k G 54 cL_law RL 13 494) (old : zOld k G 54) (sc : zScr k b L xs) (hL : L ≤ 2560) (hi : i + 5 ≤ L) {w : xW} {A : xA} (h : zSim w A) (kn : ∀ u B, zSim u B → zZ k G 54 u 655 [(0, .ref b), (1, .ref (zad G 0)), (2, .ref (zad G 47)), (3, .int (nI i))] []) : zZ k G 54 w 178 [(0, .ref b), (1, .ref (zad G 0)), (2, .ref (zad G 47)), (3, .int (nI i))] [] := by
  have hl := P_put h (xs (i + 1)) (xs (i + 2)) (xs (i + 3)) (xs (i + 4))
  refine z_aload_n ok dL_law_178 1 rfl ?_
  refine z_aload_n ok dL_law_179 0 rfl ?_
  refine z_iload_n ok dL_law_180 3 rfl ?_
  refine z_iconst ok dL_law_181 (x := 1) (by decide) ?_
  refine z_iadd_n ok dL_law_182 i 1 rfl rfl ?_
  refine z_sld ok sc dL_law_183 (i + 1) rfl (by omega) (by omega) ?_
  refine z_aload_n ok dL_law_184 0 rfl ?_
  refine z_iload_n ok dL_law_185 3 rfl ?_
  refine z_iconst ok dL_law_186 (x := 2) (by decide) ?_
  refine z_iadd_n ok dL_law_187 i 2 rfl rfl ?_
  refine z_sld ok sc dL_law_188 (i + 2) rfl (by omega) (by omega) ?_
  refine z_aload_n ok dL_law_189 0 rfl ?_
  refine z_iload_n ok dL_law_190 3 rfl ?_
  refine z_iconst ok dL_law_191 (x := 3) (by decide) ?_
  refine z_iadd_n ok dL_law_192 i 3 rfl rfl ?_
  refine z_sld ok sc dL_law_193 (i + 3) rfl (by omega) (by omega) ?_
  refine z_aload_n ok dL_law_194 0 rfl ?_
  refine z_iload_n ok dL_law_195 3 rfl ?_
  refine z_iconst ok dL_law_196 (x := 4) (by decide) ?_
  refine z_iadd_n ok dL_law_197 i 4 rfl rfl ?_
  refine z_sld ok sc dL_law_198 (i + 4) rfl (by omega) (by omega) ?_
  refine z_callVi ok old dL_law_199 [] (c_X2_put G 54 (by omega) hg w (xs (i + 1)) (xs (i + 2)) (xs (i + 3)) (xs (i + 4))) zy_X2_put zw_284 0 (by omega) (zE_0 G w) rfl rfl rfl rfl rfl (by decide) (Nat.le_of_ble_eq_true rfl) ?_
  refine z_aload_n ok dL_law_202 2 rfl ?_
  refine z_aload_n ok dL_law_203 0 rfl ?_
  refine z_iload_n ok dL_law_204 3 rfl ?_
  refine z_iconst ok dL_law_205 (x := 1) (by decide) ?_
  refine z_iadd_n ok dL_law_206 i 1 rfl rfl ?_
  refine z_sld ok sc dL_law_207 (i + 1) rfl (by omega) (by omega) ?_
  refine z_aload_n ok dL_law_208 0 rfl ?_
  refine z_iload_n ok dL_law_209 3 rfl ?_
  refine z_iconst ok dL_law_210 (x := 2) (by decide) ?_
  refine z_iadd_n ok dL_law_211 i 2 rfl rfl ?_
  refine z_sld ok sc dL_law_212 (i + 2) rfl (by omega) (by omega) ?_
  refine z_aload_n ok dL_law_213 0 rfl ?_
  refine z_iload_n ok dL_law_214 3 rfl ?_
  refine z_iconst ok dL_law_215 (x := 3) (by decide) ?_
  refine z_iadd_n ok dL_law_216 i 3 rfl rfl ?_
  refine z_sld ok sc dL_law_217 (i + 3) rfl (by omega) (by omega) ?_
  refine z_aload_n ok dL_law_218 0 rfl ?_
  refine z_iload_n ok dL_law_219 3 rfl ?_
  refine z_iconst ok dL_law_220 (x := 4) (by decide) ?_
  refine z_iadd_n ok dL_law_221 i 4 rfl rfl ?_
  refine z_sld ok sc dL_law_222 (i + 4) rfl (by omega) (by omega) ?_
  refine z_callVi ok old dL_law_223 [.int (d_X2_put w (xs (i + 1)) (xs (i + 2)) (xs (i + 3)) (xs (i + 4))).1] (c_X3_put G 54 (by omega) hg (d_X2_put w (xs (i + 1)) (xs (i + 2)) (xs (i + 3)) (xs (i + 4))).2 (xs (i + 1)) (xs (i + 2)) (xs (i + 3)) (xs (i + 4)) hl.2.2.1) zy_X3_put zw_611 47 (by omega) (zE_47 G (d_X2_put w (xs (i + 1)) (xs (i + 2)) (xs (i + 3)) (xs (i + 4))).2) rfl rfl rfl rfl rfl (by decide) (Nat.le_of_ble_eq_true rfl) ?_
  refine z_icmp_eq ok dL_law_226 655 (by decide) (fun _ => ?_) (fun c => ?_)
  · obtain ⟨B, hB⟩ := hl.2.1
    exact kn _ B hB
  · exact absurd hl.1 c
set_option maxRecDepth 100000 in
set_option maxHeartbeats 4000000 in
theorem law_3 {k : zC} {G : zG} {b L i : Nat} {xs : Nat → Int32} (hg : zGeo G 54) (ok : zOk k G 54 cL_law RL 13 494) (old : zOld k G 54) (sc : zScr k b L xs) (hL : L ≤ 2560) (hi : i + 5 ≤ L) {w : xW} {A : xA} (h : zSim w A) (kn : ∀ u B, zSim u B → zZ k G 54 u 655 [(0, .ref b), (1, .ref (zad G 0)), (2, .ref (zad G 47)), (3, .int (nI i))] []) : zZ k G 54 w 231 [(0, .ref b), (1, .ref (zad G 0)), (2, .ref (zad G 47)), (3, .int (nI i))] [] := by
  have hl := P_tower h (xs (i + 1))
  refine z_aload_n ok dL_law_231 1 rfl ?_
  refine z_aload_n ok dL_law_232 0 rfl ?_
  refine z_iload_n ok dL_law_233 3 rfl ?_
  refine z_iconst ok dL_law_234 (x := 1) (by decide) ?_
  refine z_iadd_n ok dL_law_235 i 1 rfl rfl ?_
  refine z_sld ok sc dL_law_236 (i + 1) rfl (by omega) (by omega) ?_
  refine z_callVi ok old dL_law_237 [] (c_X2_tower G 54 (by omega) hg w (xs (i + 1))) zy_X2_tower zw_310 0 (by omega) (zE_0 G w) rfl rfl rfl rfl rfl (by decide) (Nat.le_of_ble_eq_true rfl) ?_
  refine z_aload_n ok dL_law_240 2 rfl ?_
  refine z_aload_n ok dL_law_241 0 rfl ?_
  refine z_iload_n ok dL_law_242 3 rfl ?_
  refine z_iconst ok dL_law_243 (x := 1) (by decide) ?_
  refine z_iadd_n ok dL_law_244 i 1 rfl rfl ?_
  refine z_sld ok sc dL_law_245 (i + 1) rfl (by omega) (by omega) ?_
  refine z_callVi ok old dL_law_246 [.int (d_X2_tower w (xs (i + 1))).1] (c_X3_tower G 54 (by omega) hg (d_X2_tower w (xs (i + 1))).2 (xs (i + 1)) hl.2.2.1) zy_X3_tower zw_618 47 (by omega) (zE_47 G (d_X2_tower w (xs (i + 1))).2) rfl rfl rfl rfl rfl (by decide) (Nat.le_of_ble_eq_true rfl) ?_
  refine z_icmp_eq ok dL_law_249 655 (by decide) (fun _ => ?_) (fun c => ?_)
  · obtain ⟨B, hB⟩ := hl.2.1
    exact kn _ B hB
  · exact absurd hl.1 c
set_option maxRecDepth 100000 in
set_option maxHeartbeats 4000000 in
theorem law_4 {k : zC} {G : zG} {b L i : Nat} {xs : Nat → Int32} (hg : zGeo G 54) (ok : zOk k G 54 cL_law RL 13 494) (old : zOld k G 54) (sc : zScr k b L xs) (hL : L ≤ 2560) (hi : i + 5 ≤ L) {w : xW} {A : xA} (h : zSim w A) (kn : ∀ u B, zSim u B → zZ k G 54 u 655 [(0, .ref b), (1, .ref (zad G 0)), (2, .ref (zad G 47)), (3, .int (nI i))] []) : zZ k G 54 w 254 [(0, .ref b), (1, .ref (zad G 0)), (2, .ref (zad G 47)), (3, .int (nI i))] [] := by
  have hl := P_cell h (xs (i + 1)) (xs (i + 2))
  refine z_aload_n ok dL_law_254 1 rfl ?_
  refine z_aload_n ok dL_law_255 0 rfl ?_
  refine z_iload_n ok dL_law_256 3 rfl ?_
  refine z_iconst ok dL_law_257 (x := 1) (by decide) ?_
  refine z_iadd_n ok dL_law_258 i 1 rfl rfl ?_
  refine z_sld ok sc dL_law_259 (i + 1) rfl (by omega) (by omega) ?_
  refine z_aload_n ok dL_law_260 0 rfl ?_
  refine z_iload_n ok dL_law_261 3 rfl ?_
  refine z_iconst ok dL_law_262 (x := 2) (by decide) ?_
  refine z_iadd_n ok dL_law_263 i 2 rfl rfl ?_
  refine z_sld ok sc dL_law_264 (i + 2) rfl (by omega) (by omega) ?_
  refine z_callVi ok old dL_law_265 [] (c_X2_cell G 54 (by omega) hg w (xs (i + 1)) (xs (i + 2))) zy_X2_cell zw_323 0 (by omega) (zE_0 G w) rfl rfl rfl rfl rfl (by decide) (Nat.le_of_ble_eq_true rfl) ?_
  refine z_aload_n ok dL_law_268 2 rfl ?_
  refine z_aload_n ok dL_law_269 0 rfl ?_
  refine z_iload_n ok dL_law_270 3 rfl ?_
  refine z_iconst ok dL_law_271 (x := 1) (by decide) ?_
  refine z_iadd_n ok dL_law_272 i 1 rfl rfl ?_
  refine z_sld ok sc dL_law_273 (i + 1) rfl (by omega) (by omega) ?_
  refine z_aload_n ok dL_law_274 0 rfl ?_
  refine z_iload_n ok dL_law_275 3 rfl ?_
  refine z_iconst ok dL_law_276 (x := 2) (by decide) ?_
  refine z_iadd_n ok dL_law_277 i 2 rfl rfl ?_
  refine z_sld ok sc dL_law_278 (i + 2) rfl (by omega) (by omega) ?_
  refine z_callVi ok old dL_law_279 [.int (d_X2_cell w (xs (i + 1)) (xs (i + 2)))] (c_X3_cell G 54 (by omega) hg w (xs (i + 1)) (xs (i + 2))) zy_X3_cell zw_626 47 (by omega) (zE_47 G w) rfl rfl rfl rfl rfl (by decide) (Nat.le_of_ble_eq_true rfl) ?_
  refine z_icmp_eq ok dL_law_282 655 (by decide) (fun _ => ?_) (fun c => ?_)
  · exact kn w A h
  · exact absurd hl c
set_option maxRecDepth 100000 in
set_option maxHeartbeats 4000000 in
theorem law_5 {k : zC} {G : zG} {b L i : Nat} {xs : Nat → Int32} (hg : zGeo G 54) (ok : zOk k G 54 cL_law RL 13 494) (old : zOld k G 54) (sc : zScr k b L xs) (hL : L ≤ 2560) (hi : i + 5 ≤ L) {w : xW} {A : xA} (h : zSim w A) (kn : ∀ u B, zSim u B → zZ k G 54 u 655 [(0, .ref b), (1, .ref (zad G 0)), (2, .ref (zad G 47)), (3, .int (nI i))] []) : zZ k G 54 w 287 [(0, .ref b), (1, .ref (zad G 0)), (2, .ref (zad G 47)), (3, .int (nI i))] [] := by
  have hl := P_count h (xs (i + 1))
  refine z_aload_n ok dL_law_287 1 rfl ?_
  refine z_aload_n ok dL_law_288 0 rfl ?_
  refine z_iload_n ok dL_law_289 3 rfl ?_
  refine z_iconst ok dL_law_290 (x := 1) (by decide) ?_
  refine z_iadd_n ok dL_law_291 i 1 rfl rfl ?_
  refine z_sld ok sc dL_law_292 (i + 1) rfl (by omega) (by omega) ?_
  refine z_callVi ok old dL_law_293 [] (c_X2_count G 54 (by omega) hg w (xs (i + 1))) zy_X2_count zw_360 0 (by omega) (zE_0 G w) rfl rfl rfl rfl rfl (by decide) (Nat.le_of_ble_eq_true rfl) ?_
  refine z_aload_n ok dL_law_296 2 rfl ?_
  refine z_aload_n ok dL_law_297 0 rfl ?_
  refine z_iload_n ok dL_law_298 3 rfl ?_
  refine z_iconst ok dL_law_299 (x := 1) (by decide) ?_
  refine z_iadd_n ok dL_law_300 i 1 rfl rfl ?_
  refine z_sld ok sc dL_law_301 (i + 1) rfl (by omega) (by omega) ?_
  refine z_callVi ok old dL_law_302 [.int (d_X2_count w (xs (i + 1)))] (c_X3_count G 54 (by omega) hg w (xs (i + 1))) zy_X3_count zw_656 47 (by omega) (zE_47 G w) rfl rfl rfl rfl rfl (by decide) (Nat.le_of_ble_eq_true rfl) ?_
  refine z_icmp_eq ok dL_law_305 655 (by decide) (fun _ => ?_) (fun c => ?_)
  · exact kn w A h
  · exact absurd hl c
set_option maxRecDepth 100000 in
set_option maxHeartbeats 4000000 in
theorem law_6 {k : zC} {G : zG} {b L i : Nat} {xs : Nat → Int32} (hg : zGeo G 54) (ok : zOk k G 54 cL_law RL 13 494) (old : zOld k G 54) (sc : zScr k b L xs) (hL : L ≤ 2560) (hi : i + 5 ≤ L) {w : xW} {A : xA} (h : zSim w A) (kn : ∀ u B, zSim u B → zZ k G 54 u 655 [(0, .ref b), (1, .ref (zad G 0)), (2, .ref (zad G 47)), (3, .int (nI i))] []) : zZ k G 54 w 310 [(0, .ref b), (1, .ref (zad G 0)), (2, .ref (zad G 47)), (3, .int (nI i))] [] := by
  have hl := P_undo h 
  refine z_aload_n ok dL_law_310 1 rfl ?_
  refine z_callVi ok old dL_law_311 [] (c_X2_undo G 54 (by omega) hg w ) zy_X2_undo zw_376 0 (by omega) (zE_0 G w) rfl rfl rfl rfl rfl (by decide) (Nat.le_of_ble_eq_true rfl) ?_
  refine z_aload_n ok dL_law_314 2 rfl ?_
  refine z_callVi ok old dL_law_315 [.int (d_X2_undo w).1] (c_X3_undo G 54 (by omega) hg (d_X2_undo w).2  hl.2.2.1) zy_X3_undo zw_589 47 (by omega) (zE_47 G (d_X2_undo w).2) rfl rfl rfl rfl rfl (by decide) (Nat.le_of_ble_eq_true rfl) ?_
  refine z_icmp_eq ok dL_law_318 655 (by decide) (fun _ => ?_) (fun c => ?_)
  · obtain ⟨B, hB⟩ := hl.2.1
    exact kn _ B hB
  · exact absurd hl.1 c
set_option maxRecDepth 100000 in
set_option maxHeartbeats 4000000 in
theorem law_7 {k : zC} {G : zG} {b L i : Nat} {xs : Nat → Int32} (hg : zGeo G 54) (ok : zOk k G 54 cL_law RL 13 494) (old : zOld k G 54) (sc : zScr k b L xs) (hL : L ≤ 2560) (hi : i + 5 ≤ L) {w : xW} {A : xA} (h : zSim w A) (kn : ∀ u B, zSim u B → zZ k G 54 u 655 [(0, .ref b), (1, .ref (zad G 0)), (2, .ref (zad G 47)), (3, .int (nI i))] []) : zZ k G 54 w 323 [(0, .ref b), (1, .ref (zad G 0)), (2, .ref (zad G 47)), (3, .int (nI i))] [] := by
  have hl := P_move h (xs (i + 1)) (xs (i + 2))
  refine z_aload_n ok dL_law_323 1 rfl ?_
  refine z_aload_n ok dL_law_324 0 rfl ?_
  refine z_iload_n ok dL_law_325 3 rfl ?_
  refine z_iconst ok dL_law_326 (x := 1) (by decide) ?_
  refine z_iadd_n ok dL_law_327 i 1 rfl rfl ?_
  refine z_sld ok sc dL_law_328 (i + 1) rfl (by omega) (by omega) ?_
  refine z_aload_n ok dL_law_329 0 rfl ?_
  refine z_iload_n ok dL_law_330 3 rfl ?_
  refine z_iconst ok dL_law_331 (x := 2) (by decide) ?_
  refine z_iadd_n ok dL_law_332 i 2 rfl rfl ?_
  refine z_sld ok sc dL_law_333 (i + 2) rfl (by omega) (by omega) ?_
  refine z_callVi ok old dL_law_334 [] (c_X2_move G 54 (by omega) hg w (xs (i + 1)) (xs (i + 2))) zy_X2_move zw_380 0 (by omega) (zE_0 G w) rfl rfl rfl rfl rfl (by decide) (Nat.le_of_ble_eq_true rfl) ?_
  refine z_aload_n ok dL_law_337 2 rfl ?_
  refine z_aload_n ok dL_law_338 0 rfl ?_
  refine z_iload_n ok dL_law_339 3 rfl ?_
  refine z_iconst ok dL_law_340 (x := 1) (by decide) ?_
  refine z_iadd_n ok dL_law_341 i 1 rfl rfl ?_
  refine z_sld ok sc dL_law_342 (i + 1) rfl (by omega) (by omega) ?_
  refine z_aload_n ok dL_law_343 0 rfl ?_
  refine z_iload_n ok dL_law_344 3 rfl ?_
  refine z_iconst ok dL_law_345 (x := 2) (by decide) ?_
  refine z_iadd_n ok dL_law_346 i 2 rfl rfl ?_
  refine z_sld ok sc dL_law_347 (i + 2) rfl (by omega) (by omega) ?_
  refine z_callVi ok old dL_law_348 [.int (d_X2_move w (xs (i + 1)) (xs (i + 2))).1] (c_X3_move G 54 (by omega) hg (d_X2_move w (xs (i + 1)) (xs (i + 2))).2 (xs (i + 1)) (xs (i + 2)) hl.2.2.1) zy_X3_move zw_664 47 (by omega) (zE_47 G (d_X2_move w (xs (i + 1)) (xs (i + 2))).2) rfl rfl rfl rfl rfl (by decide) (Nat.le_of_ble_eq_true rfl) ?_
  refine z_icmp_eq ok dL_law_351 655 (by decide) (fun _ => ?_) (fun c => ?_)
  · obtain ⟨B, hB⟩ := hl.2.1
    exact kn _ B hB
  · exact absurd hl.1 c
set_option maxRecDepth 100000 in
set_option maxHeartbeats 4000000 in
theorem law_8 {k : zC} {G : zG} {b L i : Nat} {xs : Nat → Int32} (hg : zGeo G 54) (ok : zOk k G 54 cL_law RL 13 494) (old : zOld k G 54) (sc : zScr k b L xs) (hL : L ≤ 2560) (hi : i + 5 ≤ L) {w : xW} {A : xA} (h : zSim w A) (kn : ∀ u B, zSim u B → zZ k G 54 u 655 [(0, .ref b), (1, .ref (zad G 0)), (2, .ref (zad G 47)), (3, .int (nI i))] []) : zZ k G 54 w 356 [(0, .ref b), (1, .ref (zad G 0)), (2, .ref (zad G 47)), (3, .int (nI i))] [] := by
  have hl := P_pass h 
  refine z_aload_n ok dL_law_356 1 rfl ?_
  refine z_callVi ok old dL_law_357 [] (c_X2_pass G 54 (by omega) hg w ) zy_X2_pass zw_413 0 (by omega) (zE_0 G w) rfl rfl rfl rfl rfl (by decide) (Nat.le_of_ble_eq_true rfl) ?_
  refine z_aload_n ok dL_law_360 2 rfl ?_
  refine z_callVi ok old dL_law_361 [.int (d_X2_pass w).1] (c_X3_pass G 54 (by omega) hg (d_X2_pass w).2  hl.2.2.1) zy_X3_pass zw_687 47 (by omega) (zE_47 G (d_X2_pass w).2) rfl rfl rfl rfl rfl (by decide) (Nat.le_of_ble_eq_true rfl) ?_
  refine z_icmp_eq ok dL_law_364 655 (by decide) (fun _ => ?_) (fun c => ?_)
  · obtain ⟨B, hB⟩ := hl.2.1
    exact kn _ B hB
  · exact absurd hl.1 c
set_option maxRecDepth 100000 in
set_option maxHeartbeats 4000000 in
theorem law_9 {k : zC} {G : zG} {b L i : Nat} {xs : Nat → Int32} (hg : zGeo G 54) (ok : zOk k G 54 cL_law RL 13 494) (old : zOld k G 54) (sc : zScr k b L xs) (hL : L ≤ 2560) (hi : i + 5 ≤ L) {w : xW} {A : xA} (h : zSim w A) (kn : ∀ u B, zSim u B → zZ k G 54 u 655 [(0, .ref b), (1, .ref (zad G 0)), (2, .ref (zad G 47)), (3, .int (nI i))] []) : zZ k G 54 w 369 [(0, .ref b), (1, .ref (zad G 0)), (2, .ref (zad G 47)), (3, .int (nI i))] [] := by
  have hl := P_refusal h (xs (i + 1)) (xs (i + 2))
  refine z_aload_n ok dL_law_369 1 rfl ?_
  refine z_aload_n ok dL_law_370 0 rfl ?_
  refine z_iload_n ok dL_law_371 3 rfl ?_
  refine z_iconst ok dL_law_372 (x := 1) (by decide) ?_
  refine z_iadd_n ok dL_law_373 i 1 rfl rfl ?_
  refine z_sld ok sc dL_law_374 (i + 1) rfl (by omega) (by omega) ?_
  refine z_aload_n ok dL_law_375 0 rfl ?_
  refine z_iload_n ok dL_law_376 3 rfl ?_
  refine z_iconst ok dL_law_377 (x := 2) (by decide) ?_
  refine z_iadd_n ok dL_law_378 i 2 rfl rfl ?_
  refine z_sld ok sc dL_law_379 (i + 2) rfl (by omega) (by omega) ?_
  refine z_callVi ok old dL_law_380 [] (c_X2_refusal G 54 (by omega) hg w (xs (i + 1)) (xs (i + 2))) zy_X2_refusal zw_430 0 (by omega) (zE_0 G w) rfl rfl rfl rfl rfl (by decide) (Nat.le_of_ble_eq_true rfl) ?_
  refine z_aload_n ok dL_law_383 2 rfl ?_
  refine z_aload_n ok dL_law_384 0 rfl ?_
  refine z_iload_n ok dL_law_385 3 rfl ?_
  refine z_iconst ok dL_law_386 (x := 1) (by decide) ?_
  refine z_iadd_n ok dL_law_387 i 1 rfl rfl ?_
  refine z_sld ok sc dL_law_388 (i + 1) rfl (by omega) (by omega) ?_
  refine z_aload_n ok dL_law_389 0 rfl ?_
  refine z_iload_n ok dL_law_390 3 rfl ?_
  refine z_iconst ok dL_law_391 (x := 2) (by decide) ?_
  refine z_iadd_n ok dL_law_392 i 2 rfl rfl ?_
  refine z_sld ok sc dL_law_393 (i + 2) rfl (by omega) (by omega) ?_
  refine z_callVi ok old dL_law_394 [.int (d_X2_refusal w (xs (i + 1)) (xs (i + 2)))] (c_X3_refusal G 54 (by omega) hg w (xs (i + 1)) (xs (i + 2))) zy_X3_refusal zw_703 47 (by omega) (zE_47 G w) rfl rfl rfl rfl rfl (by decide) (Nat.le_of_ble_eq_true rfl) ?_
  refine z_icmp_eq ok dL_law_397 655 (by decide) (fun _ => ?_) (fun c => ?_)
  · exact kn w A h
  · exact absurd hl c
set_option maxRecDepth 100000 in
set_option maxHeartbeats 4000000 in
theorem law_10 {k : zC} {G : zG} {b L i : Nat} {xs : Nat → Int32} (hg : zGeo G 54) (ok : zOk k G 54 cL_law RL 13 494) (old : zOld k G 54) (sc : zScr k b L xs) (hL : L ≤ 2560) (hi : i + 5 ≤ L) {w : xW} {A : xA} (h : zSim w A) (kn : ∀ u B, zSim u B → zZ k G 54 u 655 [(0, .ref b), (1, .ref (zad G 0)), (2, .ref (zad G 47)), (3, .int (nI i))] []) : zZ k G 54 w 402 [(0, .ref b), (1, .ref (zad G 0)), (2, .ref (zad G 47)), (3, .int (nI i))] [] := by
  have hl := P_cost h (xs (i + 1)) (xs (i + 2))
  refine z_aload_n ok dL_law_402 1 rfl ?_
  refine z_aload_n ok dL_law_403 0 rfl ?_
  refine z_iload_n ok dL_law_404 3 rfl ?_
  refine z_iconst ok dL_law_405 (x := 1) (by decide) ?_
  refine z_iadd_n ok dL_law_406 i 1 rfl rfl ?_
  refine z_sld ok sc dL_law_407 (i + 1) rfl (by omega) (by omega) ?_
  refine z_aload_n ok dL_law_408 0 rfl ?_
  refine z_iload_n ok dL_law_409 3 rfl ?_
  refine z_iconst ok dL_law_410 (x := 2) (by decide) ?_
  refine z_iadd_n ok dL_law_411 i 2 rfl rfl ?_
  refine z_sld ok sc dL_law_412 (i + 2) rfl (by omega) (by omega) ?_
  refine z_callVi ok old dL_law_413 [] (c_X2_cost G 54 (by omega) hg w (xs (i + 1)) (xs (i + 2))) zy_X2_cost zw_434 0 (by omega) (zE_0 G w) rfl rfl rfl rfl rfl (by decide) (Nat.le_of_ble_eq_true rfl) ?_
  refine z_aload_n ok dL_law_416 2 rfl ?_
  refine z_aload_n ok dL_law_417 0 rfl ?_
  refine z_iload_n ok dL_law_418 3 rfl ?_
  refine z_iconst ok dL_law_419 (x := 1) (by decide) ?_
  refine z_iadd_n ok dL_law_420 i 1 rfl rfl ?_
  refine z_sld ok sc dL_law_421 (i + 1) rfl (by omega) (by omega) ?_
  refine z_aload_n ok dL_law_422 0 rfl ?_
  refine z_iload_n ok dL_law_423 3 rfl ?_
  refine z_iconst ok dL_law_424 (x := 2) (by decide) ?_
  refine z_iadd_n ok dL_law_425 i 2 rfl rfl ?_
  refine z_sld ok sc dL_law_426 (i + 2) rfl (by omega) (by omega) ?_
  refine z_callVi ok old dL_law_427 [.int (d_X2_cost w (xs (i + 1)) (xs (i + 2)))] (c_X3_cost G 54 (by omega) hg w (xs (i + 1)) (xs (i + 2))) zy_X3_cost zw_707 47 (by omega) (zE_47 G w) rfl rfl rfl rfl rfl (by decide) (Nat.le_of_ble_eq_true rfl) ?_
  refine z_icmp_eq ok dL_law_430 655 (by decide) (fun _ => ?_) (fun c => ?_)
  · exact kn w A h
  · exact absurd hl c
