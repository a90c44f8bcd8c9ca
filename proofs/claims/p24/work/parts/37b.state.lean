/-! keeping a state, the class alone -/
theorem C_rec2 {w : xW} {A : xA} (h : zCR w A) (hk : ak A < 5) : zCR (if (xg w 10 0) < 0 then w else (if 5 ≤ (xg w 10 0) then w else (zlet (d_X1_copyFrom w (zpg w ((xg w 10 0)).toNatClampNeg) 0) fun w4 => zlet (xs w4 10 0 ((xg w4 10 0) + 1)) fun w5 => w5))) (a_push A) := by
  have hh := C_push h hk (zRw_0 h)
  obtain ⟨k5, a, b, c, d, e, g, i, j, pr⟩ := h
  have n := nI_lt5 k5
  have hlt := zpg_lt w (ak A)
  have hge := d (ak A) hk
  rw [xg_row, b, if_neg n.2.1, if_neg (fun q => by have := n.2.2.1.mp q; omega), n.2.2.2.2.2.2.2, zlet_def, zlet_def]
  rw [k_copyFrom w (by omega) (i _ hlt) (i 0 (by omega))] at hh ⊢
  rw [xg_row, xv_ne _ _ (show ¬ 10 = zpg w (ak A) by omega), b, show nI (ak A) + 1 = nI (ak A + 1) from (nI_succ _).symm]
  exact hh
theorem C_rec {w : xW} {A : xA} (h : zCR w A) : zCR (d_X2_record w) (a_rec A) := by
  have k5 := h.1
  have b := h.2.2.1
  have n := nI_lt5 k5
  rw [d_X2_record, a_rec]
  by_cases hk : ak A < 5
  · rw [if_pos hk, if_pos (by rw [xg_row, b]; exact n.1.mpr hk), zlet_def]
    exact C_rec2 h hk
  · rw [if_neg hk, if_neg (by rw [xg_row, b]; exact fun q => hk (n.1.mp q)), C_drop_w, d_X2_record_21k, zlet_def, zlet_def, zlet_def]
    exact C_rec2 (C_drop h (by omega)) (show 4 < 5 by omega)
