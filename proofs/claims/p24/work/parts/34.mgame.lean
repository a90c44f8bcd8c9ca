/-! the model's game, in the words of its row -/
theorem xs_xv11 (w : xW) (S : Nat → Int32) (v j : Nat) (x : Int32) : xs (xv w v S) v j x = xv w v (zU S j x) := by
  rw [xs_xv, xv_row, xv_xv]
theorem xg_xv' (w : xW) (S : Nat → Int32) (v j : Nat) : xg (xv w v S) v j = S j := by
  rw [xg_row, xv_row]
