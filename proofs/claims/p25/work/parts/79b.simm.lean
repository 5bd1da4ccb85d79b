theorem sp_it0 {f : Nat → Int32} {x : Int32} (h : sp_it f x = 0) : ¬ (0 ≤ x.toInt ∧ x.toInt < 4 ∧ ¬ f x.toNatClampNeg = 0) := fun q => by
  unfold sp_it at h
  rw [if_pos q] at h
  exact absurd h (by decide)
theorem zN_0 {x : Int32} : zN x = 0 ↔ x = 0 := by
  unfold zN
  by_cases h : x = 0
  · rw [if_pos h]; exact ⟨fun _ => h, fun _ => rfl⟩
  · rw [if_neg h]; exact ⟨fun q => absurd q (by decide), fun q => absurd q h⟩
theorem nI_nm1 : ∀ k, k < 8 → ¬ nI k = (-1 : Int32) := by decide +kernel
theorem sp_ow1_k {k : Nat} (h : k < 8) : sp_ow1 (nI k) = nI k := by unfold sp_ow1; rw [if_neg (nI_nm1 k h)]
theorem xiff0 {x : Int32} (h : x &&& 1 = 0) : ¬ x &&& 1 = 1 := by rw [h]; decide
