/-! numbers of any size: sums, remainders -/
theorem xb_of {n : Int} (h1 : -2147483648 ≤ n) (h2 : n < 2147483648) : n.bmod (2 ^ 32) = n := Int.bmod_eq_of_le (by omega) (by omega)
theorem xr_lo (x : Int32) : -2147483648 ≤ x.toInt := Int32.le_toInt x
theorem xr_hi (x : Int32) : x.toInt < 2147483648 := Int32.toInt_lt x
theorem xinc {x y : Int32} (h : x < y) : (x + 1).toInt = x.toInt + 1 := by
  rw [xk_lt] at h
  have := xr_lo x
  have := xr_hi y
  rw [Int32.toInt_add, xk_1, xb_of (by omega) (by omega)]
theorem xrem60 (x : Int32) : (x - x / 60 * 60).toInt = x.toInt.tmod 60 := by
  have h1 := Int.mul_tdiv_add_tmod x.toInt 60
  have h2 := Int.tmod_lt_of_pos x.toInt (b := 60) (by decide)
  have h3 := Int.lt_tmod_of_pos x.toInt (b := 60) (by decide)
  have h4 := xr_lo x
  have h5 := xr_hi x
  have e60 : (60 : Int32).toInt = 60 := by decide
  have hs : 0 ≤ x.toInt → 0 ≤ x.toInt.tmod 60 := fun h => Int.tmod_nonneg 60 h
  have hn : x.toInt ≤ 0 → x.toInt.tmod 60 ≤ 0 := fun h => by
    have := Int.tmod_nonneg (a := -x.toInt) 60 (by omega)
    rw [Int.neg_tmod] at this
    omega
  rw [Int32.toInt_sub, Int32.toInt_mul, Int32.toInt_div_of_ne_right _ _ (by decide), e60]
  generalize x.toInt.tdiv 60 = q at h1 ⊢
  generalize x.toInt.tmod 60 = r at h1 h2 h3 hs hn ⊢
  rw [xb_of (n := q * 60) (by omega) (by omega), xb_of (by omega) (by omega)]
  omega
/-- the sign of x ^ 60 is that of x -/
theorem xsg (x : Int32) : (0 ≤ x ^^^ 60) ↔ 0 ≤ x := by
  have e : (x ^^^ 60).toBitVec.msb = x.toBitVec.msb := by
    rw [Int32.toBitVec_xor, BitVec.msb_xor, show (60 : Int32).toBitVec.msb = false by decide, Bool.xor_false]
  rw [BitVec.msb_eq_toInt, BitVec.msb_eq_toInt, decide_eq_decide] at e
  rw [xk_le, xk_le, xk_0]
  have e1 : (x ^^^ 60).toInt < 0 ↔ x.toInt < 0 := e
  omega
/-- Math.floorMod(x, 60) -/
def sp_fm (x : Int32) : Int32 := if 0 ≤ x ^^^ 60 then x - x / 60 * 60 else if x - x / 60 * 60 = 0 then x - x / 60 * 60 else x - x / 60 * 60 + 60
theorem sp_fm_in (x : Int32) : vp_in (sp_fm x) 60 := by
  have h1 := xrem60 x
  have h2 := Int.tmod_lt_of_pos x.toInt (b := 60) (by decide)
  have h3 := Int.lt_tmod_of_pos x.toInt (b := 60) (by decide)
  have hs : 0 ≤ x.toInt → 0 ≤ x.toInt.tmod 60 := fun h => Int.tmod_nonneg 60 h
  have hn : x.toInt ≤ 0 → x.toInt.tmod 60 ≤ 0 := fun h => by
    have := Int.tmod_nonneg (a := -x.toInt) 60 (by omega)
    rw [Int.neg_tmod] at this
    omega
  unfold sp_fm
  rw [← h1] at h2 h3 hs hn
  generalize x - x / 60 * 60 = r at h1 h2 h3 hs hn ⊢
  rw [vp_in_iff]
  by_cases hx : 0 ≤ x ^^^ 60
  · rw [if_pos hx]
    have hx := (xsg x).mp hx
    rw [xk_le, xk_0] at hx
    have := hs hx
    omega
  · rw [if_neg hx]
    have hx := (not_congr (xsg x)).mp hx
    rw [xk_le, xk_0] at hx
    have := hn (by omega)
    by_cases h0 : r = 0
    · rw [if_pos h0, h0, xk_0]; omega
    · rw [if_neg h0]
      rw [xk_eq, xk_0] at h0
      rw [Int32.toInt_add, show (60 : Int32).toInt = 60 by decide, xb_of (by omega) (by omega)]
      omega
