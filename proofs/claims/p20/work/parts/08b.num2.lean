/-! numbers of any size: sums, remainders -/
theorem xb_of {n : Int} (h1 : -2147483648 ≤ n) (h2 : n < 2147483648) : n.bmod (2 ^ 32) = n := Int.bmod_eq_of_le (by omega) (by omega)
theorem xr_lo (x : Int32) : -2147483648 ≤ x.toInt := Int32.le_toInt x
theorem xr_hi (x : Int32) : x.toInt < 2147483648 := Int32.toInt_lt x
theorem xinc {x y : Int32} (h : x < y) : (x + 1).toInt = x.toInt + 1 := by
  rw [xk_lt] at h
  have := xr_lo x
  have := xr_hi y
  rw [Int32.toInt_add, xk_1, xb_of (by omega) (by omega)]
theorem xrem60 (x : Int32) : (x - x / 60 * 60).toInt = x.toInt.tmod 60 := by
  have h1 := Int.mul_tdiv_add_tmod x.toInt 60
  have h2 := Int.tmod_lt_of_pos x.toInt (b := 60) (by decide)
  have h3 := Int.lt_tmod_of_pos x.toInt (b := 60) (by decide)
  have h4 := xr_lo x
  have h5 := xr_hi x
  have e60 : (60 : Int32).toInt = 60 := by decide
  have hs : 0 ≤ x.toInt → 0 ≤ x.toInt.tmod 60 := fun h => Int.tmod_nonneg 60 h
  have hn : x.toInt ≤ 0 → x.toInt.tmod 60 ≤ 0 := fun h => by
    have := Int.tmod_nonneg (a := -x.toInt) 60 (by omega)
    rw [Int.neg_tmod] at this
    omega
  rw [Int32.toInt_sub, Int32.toInt_mul, Int32.toInt_div_of_ne_right _ _ (by decide), e60]
  generalize x.toInt.tdiv 60 = q at h1 ⊢
  generalize x.toInt.tmod 60 = r at h1 h2 h3 hs hn ⊢
  rw [xb_of (n := q * 60) (by omega) (by omega), xb_of (by omega) (by omega)]
  omega
/-- Math.floorMod(x, 60) -/
def sp_fm (x : Int32) : Int32 := if 0 ≤ (x - x / 60 * 60) ^^^ 60 then x - x / 60 * 60 else if x - x / 60 * 60 = 0 then x - x / 60 * 60 else x - x / 60 * 60 + 60
theorem xsgn : ∀ j, j < 60 → ((-(nI (j + 1))) ^^^ 60 < 0 ∧ 0 ≤ (nI j) ^^^ 60) := by decide +kernel
theorem sp_fm_in (x : Int32) : vp_in (sp_fm x) 60 := by
  have h1 := xrem60 x
  have h2 := Int.tmod_lt_of_pos x.toInt (b := 60) (by decide)
  have h3 := Int.lt_tmod_of_pos x.toInt (b := 60) (by decide)
  rw [← h1] at h2 h3
  unfold sp_fm
  generalize x - x / 60 * 60 = r at h1 h2 h3 ⊢
  by_cases hr : 0 ≤ r.toInt
  · have hn : ¬ r < 0 := by rw [xk_lt, xk_0]; omega
    obtain ⟨j, hj, rfl⟩ := nI_of hn
    rw [nI_toInt hj] at h2
    rw [if_pos (xsgn j (by omega)).2]
    exact vp_in_nI (by omega) (by decide)
  · have e : ∃ j : Nat, j < 60 ∧ r = -(nI (j + 1)) := by
      refine ⟨(-r.toInt - 1).toNat, by omega, ?_⟩
      rw [xk_eq, sb_negT (by omega)]
      omega
    obtain ⟨j, hj, rfl⟩ := e
    rw [if_neg (by have := (xsgn j hj).1; rw [xk_lt] at this; rw [xk_le]; omega)]
    rw [sb_negT (by omega)] at hr
    rw [if_neg (by rw [xk_eq, sb_negT (by omega), xk_0]; omega)]
    rw [vp_in_iff, Int32.toInt_add, sb_negT (by omega), show (60 : Int32).toInt = 60 by decide, xb_of (by omega) (by omega)]
    omega
