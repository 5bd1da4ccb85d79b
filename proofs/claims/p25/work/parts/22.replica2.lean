theorem xdec {x y : Int32} (h : y ≤ x) (h0 : 0 ≤ y.toInt) : (x - 1).toInt = x.toInt - 1 := by
  rw [xk_le] at h
  have := xr_hi x
  rw [Int32.toInt_sub, xk_1, xb_of (by omega) (by omega)]
theorem xm1 (x : Int32) : x + Int32.ofInt (-1) = x - 1 := by
  rw [xk_eq, Int32.toInt_add, Int32.toInt_sub, show (Int32.ofInt (-1)).toInt = -1 by decide, xk_1]
  rfl
