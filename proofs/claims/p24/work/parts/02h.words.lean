/-! the words of long methods: their bytes are not to be compared one by one -/
theorem zmem1 {w : Cond} (i : Nat) (h : tables_1_1[i]? = some w) (hz : z_ok w = true) : w ∈ zTab := by
  refine List.mem_filter.mpr ⟨?_, hz⟩
  unfold lw_tbl tables_1
  exact List.mem_append_right _ (List.mem_append_left _ (List.mem_of_getElem? h))
theorem zmem2 {w : Cond} (i : Nat) (h : tables_1_2[i]? = some w) (hz : z_ok w = true) : w ∈ zTab := by
  refine List.mem_filter.mpr ⟨?_, hz⟩
  unfold lw_tbl tables_1
  exact List.mem_append_right _ (List.mem_append_right _ (List.mem_append_left _ (List.mem_of_getElem? h)))
theorem zmem3 {w : Cond} (i : Nat) (h : tables_1_3[i]? = some w) (hz : z_ok w = true) : w ∈ zTab := by
  refine List.mem_filter.mpr ⟨?_, hz⟩
  unfold lw_tbl tables_1
  exact List.mem_append_right _ (List.mem_append_right _ (List.mem_append_right _ (List.mem_of_getElem? h)))
set_option maxRecDepth 100000 in
theorem zw_409 : (.code yL_state cL_state 4 (some .long) : Cond) ∈ zTab := zmem2 122 rfl rfl
set_option maxRecDepth 100000 in
theorem zw_427 : (.code yL_refused cL_refused 6 (some .boolean) : Cond) ∈ zTab := zmem2 140 rfl rfl
set_option maxRecDepth 100000 in
theorem zw_488 : (.code yL_texts cL_texts 4 (some .boolean) : Cond) ∈ zTab := zmem2 201 rfl rfl
set_option maxRecDepth 100000 in
theorem zw_535 : (.code yL_begins cL_begins 1 (some .boolean) : Cond) ∈ zTab := zmem3 8 rfl rfl
set_option maxRecDepth 100000 in
theorem zw_555 : (.code yL_known cL_known 1 (some .boolean) : Cond) ∈ zTab := zmem3 28 rfl rfl
set_option maxRecDepth 100000 in
theorem zw_558 : (.code yL_isCleared cL_isCleared 3 (some .boolean) : Cond) ∈ zTab := zmem3 31 rfl rfl
