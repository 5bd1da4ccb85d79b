/-! numbers -/
theorem xk_0 : (0 : Int32).toInt = 0 := by decide
theorem xk_1 : (1 : Int32).toInt = 1 := by decide
theorem xk_2 : (2 : Int32).toInt = 2 := by decide
theorem xk_3 : (3 : Int32).toInt = 3 := by decide
theorem xk_4 : (4 : Int32).toInt = 4 := by decide
theorem xk_5 : (5 : Int32).toInt = 5 := by decide
theorem xk_6 : (6 : Int32).toInt = 6 := by decide
theorem xk_7 : (7 : Int32).toInt = 7 := by decide
theorem xk_8 : (8 : Int32).toInt = 8 := by decide
theorem xk_50 : (50 : Int32).toInt = 50 := by decide
theorem xl_0 : (0 : Int64).toInt = 0 := by decide
theorem xl_1 : (1 : Int64).toInt = 1 := by decide
theorem xl_3 : (3 : Int64).toInt = 3 := by decide
theorem xl_4 : (4 : Int64).toInt = 4 := by decide
theorem xl_5 : (5 : Int64).toInt = 5 := by decide
theorem xl_6 : (6 : Int64).toInt = 6 := by decide
theorem xl_7 : (7 : Int64).toInt = 7 := by decide
theorem xl_50 : (50 : Int64).toInt = 50 := by decide
theorem xk_lt (x y : Int32) : x < y ↔ x.toInt < y.toInt := Int32.lt_iff_toInt_lt
theorem xk_le (x y : Int32) : x ≤ y ↔ x.toInt ≤ y.toInt := Int32.le_iff_toInt_le
theorem xk_eq (x y : Int32) : x = y ↔ x.toInt = y.toInt := Int32.toInt_inj.symm
/-! what the static helpers answer -/
/-- TallyLogs.contains(bits, i) -/
def sp_cn (b i : Int32) : Int32 := if i < 0 then 0 else if 8 ≤ i then 0 else if (b >>> (i &&& 31)) &&& 1 = 1 then 1 else 0
/-- TallyLogsModel.in(v, least, most) -/
def sp_in (v a b : Int64) : Int32 := if lg_cmp v a < 0 then 0 else if 0 < lg_cmp v b then 0 else 1
/-- TallyLogsModel.isHandle(h) -/
def sp_ih (h : Int32) : Int32 := if h < 0 then 0 else if 6 ≤ h - h / 8 * 8 then 0 else 1
/-- TallyLogs.leastOf(bits) -/
def sp_lo (b : Int32) : Int32 := if sp_cn b 0 = 0 then if sp_cn b 1 = 0 then if sp_cn b 2 = 0 then if sp_cn b 3 = 0 then if sp_cn b 4 = 0 then if sp_cn b 5 = 0 then if sp_cn b 6 = 0 then if sp_cn b 7 = 0 then (-1) else 7 else 6 else 5 else 4 else 3 else 2 else 1 else 0
theorem sp_in_0 (x : Int32) (a b : Int64) : sp_in x.toInt64 a b = 0 ↔ ¬ (a.toInt ≤ x.toInt ∧ x.toInt ≤ b.toInt) := by
  unfold sp_in
  simp only [lg_cmp_lt, lg_cmp_gt, Int64.lt_iff_toInt_lt, Int32.toInt_toInt64]
  by_cases h1 : x.toInt < a.toInt
  · rw [if_pos h1]
    exact ⟨fun _ h => absurd h.1 (by omega), fun _ => rfl⟩
  · by_cases h2 : b.toInt < x.toInt
    · rw [if_neg h1, if_pos h2]
      exact ⟨fun _ h => absurd h.2 (by omega), fun _ => rfl⟩
    · rw [if_neg h1, if_neg h2]
      exact ⟨fun h => absurd h (by decide), fun h => absurd ⟨by omega, by omega⟩ h⟩
theorem xin_of {x : Int32} {n : Nat} (h0 : 0 ≤ x.toInt) (h1 : x.toInt < n) : vp_in x n := vp_in_iff.mpr ⟨h0, h1⟩
/-- the int shift to the right without sign -/
def sp_us (x y : Int32) : Int32 := (x.toUInt32 >>> (y.toUInt32 &&& Int32.toUInt32 31)).toInt32
/-- Integer.bitCount -/
def sp_b1 (x : Int32) : Int32 := x - (sp_us x 1 &&& 1431655765)
def sp_b2 (x : Int32) : Int32 := (x &&& 858993459) + (sp_us x 2 &&& 858993459)
def sp_b3 (x : Int32) : Int32 := (x + sp_us x 4) &&& 252645135
def sp_b4 (x : Int32) : Int32 := x + sp_us x 8
def sp_b5 (x : Int32) : Int32 := x + sp_us x 16
def sp_bc (x : Int32) : Int32 := sp_b5 (sp_b4 (sp_b3 (sp_b2 (sp_b1 x)))) &&& 63
/-- Integer.numberOfTrailingZeros -/
def sp_n0 (a n : Int32) : Int32 := n + sp_us a 1
def sp_n1 (a n : Int32) : Int32 := if a ≤ 4 then sp_n0 a n else sp_n0 (sp_us a 2) (n + 2)
def sp_n2 (a n : Int32) : Int32 := if a ≤ 16 then sp_n1 a n else sp_n1 (sp_us a 4) (n + 4)
def sp_n3 (a n : Int32) : Int32 := if a ≤ 256 then sp_n2 a n else sp_n2 (sp_us a 8) (n + 8)
def sp_n4 (a n : Int32) : Int32 := if a ≤ 65536 then sp_n3 a n else sp_n3 (sp_us a 16) (n + 16)
def sp_n5 (x : Int32) : Int32 := (x ^^^ (-1)) &&& (x - 1)
def sp_nz (x : Int32) : Int32 := if 0 < sp_n5 x then sp_n4 (sp_n5 x) 1 else sp_n5 x &&& 32
/-- of the five lowest bits both say the lowest one -/
theorem sp_lo_nz : ∀ j, j < 32 → ¬ nI j = 0 → sp_lo (nI j) = sp_nz (nI j) := by decide +kernel
theorem sp_cn31 : ∀ j, j < 8 → sp_cn 31 (nI j) = (if j < 5 then 1 else 0) := by decide +kernel
/-! the class as it is made: its cells at the addresses v, its array classes c -/
def fR (v : Nat → Nat) : Nat → Option Nat := va_up (va_up (va_up (va_up (va_up (va_up (fun _ => none) 0 (some (v 4))) 1 (some (v 5))) 2 (some (v 6))) 3 (some (v 7))) 4 (some (v 8))) 5 (some (v 9))
def fG (v : Nat → Nat) : Nat → Option Nat := va_up (va_up (va_up (va_up (fun _ => none) 0 (some (v 10))) 1 (some (v 11))) 2 (some (v 12))) 3 (some (v 13))
abbrev fxW (v : Nat → Nat) (c : Nat → ClassId) : va_W := [(v 0, .inr (5, [.ref (v 1), .ref (v 2), .ref (v 3), .int 31, .int 0, .null])), (v 1, .inl (c 0, 4, .inr (.inr (.inr (.inr (fun _ => none)))))), (v 2, .inl (c 1, 6, .inr (.inr (.inr (.inr (fR v)))))), (v 3, .inl (c 2, 4, .inr (.inr (.inr (.inr (fG v)))))), (v 4, .inr (3, [.int 0, .int (-1), .int 0, .int 0, .int (-1), .int 0])), (v 5, .inr (3, [.int 1, .int (-1), .int 0, .int 0, .int (-1), .int 0])), (v 6, .inr (3, [.int 2, .int (-1), .int 0, .int 0, .int (-1), .int 0])), (v 7, .inr (3, [.int 3, .int (-1), .int 0, .int 0, .int (-1), .int 0])), (v 8, .inr (3, [.int 4, .int (-1), .int 0, .int 0, .int (-1), .int 0])), (v 9, .inr (3, [.int 5, .int (-1), .int 0, .int 0, .int (-1), .int 0])), (v 10, .inr (1, [.int 0, .int 0, .ref (v 14)])), (v 11, .inr (1, [.int 0, .int 0, .ref (v 15)])), (v 12, .inr (1, [.int 0, .int 0, .ref (v 16)])), (v 13, .inr (1, [.int 0, .int 0, .ref (v 17)])), (v 14, .inl (c 3, 4, .inl (fun _ => 0))), (v 15, .inl (c 3, 4, .inl (fun _ => 0))), (v 16, .inl (c 3, 4, .inl (fun _ => 0))), (v 17, .inl (c 3, 4, .inl (fun _ => 0)))]
abbrev fxT (c : Nat → ClassId) : List (ClassId × FieldType) := [(c 0, .object "TallyLogs$Partition"), (c 1, .object "TallyLogs$Producer"), (c 2, .object "TallyLogs$Group"), (c 3, .int)]
abbrev fxB (dC : Nat → ClassId) (dI : Nat → Nat → Nat) (v : Nat → Nat) (c : Nat → ClassId) (U : State) : Prop := va_P (dC, dI) vwCl (fxW v c) U.heap ∧ va_K (dC, dI) vwCl (fxT c) U
theorem fx_blind {dC : Nat → ClassId} {dI : Nat → Nat → Nat} {v : Nat → Nat} {c : Nat → ClassId} {av : List Value} : FrameBlind (va_Pc av (fxB dC dI v c)) := fun a U g mk q => by
  obtain ⟨q0, qP, qK⟩ := q
  exact ⟨q0, qP, va_K.moved (u := U) (U := U.calling g mk a) (Vm.Alike.refl U.vm) qK⟩
theorem fx_pre {dC : Nat → ClassId} {dI : Nat → Nat → Nat} {v : Nat → Nat} {c : Nat → ClassId} {s U : State} {H : Heap} (hP : va_P (dC, dI) vwCl (fxW v c) H) (hK : va_K (dC, dI) vwCl (fxT c) s) (hU : U.heap = H) (hW : s.WarmedH U.vm) : fxB dC dI v c U := ⟨by rw [hU]; exact hP, va_K.moved hW.alike hK⟩
/-- which producer's cell: none where there is none -/
def pAt (v : Nat → Nat) (k : Int32) : Option Nat := if k < 0 then none else if k < 6 then fR v k.toNatClampNeg else none
def pOf (v : Nat → Nat) (h : Int32) : Option Nat := if 0 ≤ h then pAt v (h - h / 8 * 8) else none
def gAt (v : Nat → Nat) (k : Int32) : Option Nat := if k < 0 then none else if k < 4 then fG v k.toNatClampNeg else none
theorem fR_at (v : Nat → Nat) : ∀ j, j < 6 → fR v j = some (v (4 + j)) := fun j hj => by
  rcases (show j = 0 ∨ j = 1 ∨ j = 2 ∨ j = 3 ∨ j = 4 ∨ j = 5 by omega) with rfl | rfl | rfl | rfl | rfl | rfl <;> rfl
theorem fG_at (v : Nat → Nat) : ∀ j, j < 4 → fG v j = some (v (10 + j)) := fun j hj => by
  rcases (show j = 0 ∨ j = 1 ∨ j = 2 ∨ j = 3 by omega) with rfl | rfl | rfl | rfl <;> rfl
theorem pAt_cs (v : Nat → Nat) (k : Int32) : (¬ (0 ≤ k.toInt ∧ k.toInt < 6) ∧ pAt v k = none) ∨ ∃ j : Nat, j < 6 ∧ k = nI j ∧ pAt v k = some (v (4 + j)) := by
  unfold pAt
  by_cases h0 : k < 0
  · rw [if_pos h0]
    rw [xk_lt, xk_0] at h0
    exact Or.inl ⟨fun q => by omega, rfl⟩
  · by_cases h6 : k < 6
    · rw [if_neg h0, if_pos h6]
      obtain ⟨j, hj, rfl⟩ := nI_of h0
      rw [xk_lt, xk_6, nI_toInt hj] at h6
      refine Or.inr ⟨j, by omega, rfl, ?_⟩
      rw [nI_clamp hj, fR_at v j (by omega)]
    · rw [if_neg h0, if_neg h6]
      rw [xk_lt, xk_6] at h6
      exact Or.inl ⟨fun q => by omega, rfl⟩
theorem gAt_cs (v : Nat → Nat) (k : Int32) : (¬ (0 ≤ k.toInt ∧ k.toInt < 4) ∧ gAt v k = none) ∨ ∃ j : Nat, j < 4 ∧ k = nI j ∧ gAt v k = some (v (10 + j)) := by
  unfold gAt
  by_cases h0 : k < 0
  · rw [if_pos h0]
    rw [xk_lt, xk_0] at h0
    exact Or.inl ⟨fun q => by omega, rfl⟩
  · by_cases h6 : k < 4
    · rw [if_neg h0, if_pos h6]
      obtain ⟨j, hj, rfl⟩ := nI_of h0
      rw [xk_lt, xk_4, nI_toInt hj] at h6
      refine Or.inr ⟨j, by omega, rfl, ?_⟩
      rw [nI_clamp hj, fG_at v j (by omega)]
    · rw [if_neg h0, if_neg h6]
      rw [xk_lt, xk_4] at h6
      exact Or.inl ⟨fun q => by omega, rfl⟩
/-- a handle's producer: of h below 0, or of a number that is none, no producer -/
theorem pOf_cs (v : Nat → Nat) (h : Int32) : (sp_ih h = 0 ∧ pOf v h = none) ∨ ∃ j : Nat, j < 6 ∧ sp_ih h = 1 ∧ 0 ≤ h ∧ h - h / 8 * 8 = nI j ∧ pOf v h = some (v (4 + j)) := by
  unfold pOf
  by_cases h0 : 0 ≤ h
  · rw [if_pos h0]
    have hn : ¬ h < 0 := by rw [xk_lt]; rw [xk_le] at h0; omega
    obtain ⟨a, ha, rfl⟩ := nI_of hn
    have e8 : nI a - nI a / 8 * 8 = nI (a % 8) := pk_rem (d := 8) ha (by decide) (by decide)
    rcases pAt_cs v (nI a - nI a / 8 * 8) with ⟨h1, h2⟩ | ⟨j, hj, h1, h2⟩
    · refine Or.inl ⟨?_, h2⟩
      rw [e8, nI_toInt (by omega)] at h1
      unfold sp_ih
      rw [if_neg hn, if_pos]
      rw [e8, xk_le, xk_6, nI_toInt (by omega)]
      omega
    · refine Or.inr ⟨j, hj, ?_, h0, h1, h2⟩
      unfold sp_ih
      rw [if_neg hn, if_neg]
      rw [h1, xk_le, xk_6, nI_toInt (by omega)]
      omega
  · rw [if_neg h0]
    refine Or.inl ⟨?_, rfl⟩
    unfold sp_ih
    rw [if_pos]
    rw [xk_lt]; rw [xk_le] at h0; omega
/-- the cell of producer j -/
theorem fx_pr (v : Nat → Nat) (c : Nat → ClassId) : ∀ j, j < 6 → (fxW v c)[4 + j]? = some (v (4 + j), .inr (3, [.int (nI j), .int (-1), .int 0, .int 0, .int (-1), .int 0])) := fun j hj => by
  rcases (show j = 0 ∨ j = 1 ∨ j = 2 ∨ j = 3 ∨ j = 4 ∨ j = 5 by omega) with rfl | rfl | rfl | rfl | rfl | rfl <;> rfl
theorem xneg1 {h : Int32} (h0 : 0 ≤ h) : ¬ (-1 : Int32) = h / 8 := by
  have hn : ¬ h < 0 := by rw [xk_lt]; rw [xk_le] at h0; omega
  obtain ⟨a, ha, rfl⟩ := nI_of hn
  have e8 : nI a / 8 = nI (a / 8) := pk_div (d := 8) ha (by decide) (by decide)
  rw [e8, xk_eq, nI_toInt (by omega), show (-1 : Int32).toInt = -1 by decide]
  omega
def sp_bg (h : Int32) : Int32 := if sp_ih h = 0 then (-1) else (-4)
def sp_st (k : Int32) : Int32 := if 0 ≤ k.toInt ∧ k.toInt < 6 then (-2) else (-1)
def sp_rg (k : Int32) : Int32 := if 0 ≤ k.toInt ∧ k.toInt < 6 then k else (-1)
def sp_ct (w : Int32) : Int32 := if w.toInt = 0 then 0 else if w.toInt = 1 then 31 else if 2 ≤ w.toInt ∧ w.toInt < 8 then 0 else (-1)
def sp_tk (n : Int32) : Int32 := if 1 ≤ n.toInt ∧ n.toInt ≤ 50 then 0 else (-1)
def sp_cr (n k : Int32) : Int32 := if 0 ≤ n.toInt ∧ n.toInt < 5 ∧ 0 ≤ k.toInt then 0 else (-1)
def sp_mb (g k : Int32) : Int32 := if 0 ≤ g.toInt ∧ g.toInt < 4 ∧ 0 ≤ k.toInt ∧ k.toInt < 8 then 1 else (-1)
theorem xct {w : Int32} (h : ¬ w < 2) (h' : w < 8) : 0 ≤ (w - 2).toInt ∧ (w - 2).toInt < 6 := by
  rw [xk_lt, xk_2] at h
  rw [xk_lt, xk_8] at h'
  have hn : ¬ w < 0 := by rw [xk_lt, xk_0]; omega
  obtain ⟨a, ha, rfl⟩ := nI_of hn
  rw [nI_toInt ha] at h h'
  have e2 : nI a - 2 = nI (a - 2) := pk_sub (b := 2) (by omega)
  rw [e2, nI_toInt (by omega)]
  omega
theorem xup_iff (n : Int32) : sp_cn 31 n = 0 ↔ ¬ (0 ≤ n.toInt ∧ n.toInt < 5) := by
  by_cases h0 : n < 0
  · unfold sp_cn
    rw [if_pos h0]
    rw [xk_lt, xk_0] at h0
    exact ⟨fun _ q => by omega, fun _ => rfl⟩
  · by_cases h8 : 8 ≤ n
    · unfold sp_cn
      rw [if_neg h0, if_pos h8]
      rw [xk_le, xk_8] at h8
      exact ⟨fun _ q => by omega, fun _ => rfl⟩
    · obtain ⟨a, ha, rfl⟩ := nI_of h0
      rw [xk_le, xk_8, nI_toInt ha] at h8
      rw [sp_cn31 a (by omega), nI_toInt ha]
      by_cases h5 : a < 5
      · rw [if_pos h5]
        exact ⟨fun q => absurd q (by decide), fun q => absurd ⟨by omega, by omega⟩ q⟩
      · rw [if_neg h5]
        exact ⟨fun _ q => by omega, fun _ => rfl⟩
/-! the model as it is made -/
def spF (f : Nat → Int32) (n : Nat) (x : Int32) : Nat → Int32 := fun j => if j < n then x else f j
theorem spF_lt {f : Nat → Int32} {n j : Nat} {x : Int32} (h : j < n) : spF f n x j = x := by unfold spF; rw [if_pos h]
abbrev mxW (w : Nat → Nat) (cz ci : ClassId) : va_W := [(w 0, .inr (7, [.ref (w 1), .ref (w 2), .ref (w 3), .ref (w 4), .ref (w 5), .ref (w 6), .ref (w 7), .ref (w 8), .ref (w 9), .ref (w 10), .ref (w 11), .ref (w 12), .ref (w 13), .ref (w 14), .ref (w 15), .ref (w 16), .int 31, .int 0])), (w 2, .inl (cz, 4, .inl (fun _ => 0))), (w 3, .inl (ci, 4, .inl (fun _ => 0))), (w 4, .inl (ci, 4, .inl (spF (fun _ => 0) 4 (-1)))), (w 5, .inl (ci, 4, .inl (fun _ => 0))), (w 6, .inl (ci, 4, .inl (fun _ => 0))), (w 7, .inl (ci, 4, .inl (fun _ => 0))), (w 8, .inl (ci, 6, .inl (spF (fun _ => 0) 6 (-1)))), (w 9, .inl (ci, 6, .inl (fun _ => 0))), (w 10, .inl (ci, 6, .inl (fun _ => 0))), (w 11, .inl (ci, 6, .inl (fun _ => 0))), (w 12, .inl (ci, 6, .inl (fun _ => 0))), (w 13, .inl (ci, 4, .inl (fun _ => 0))), (w 14, .inl (ci, 4, .inl (fun _ => 0))), (w 15, .inl (ci, 16, .inl (fun _ => 0))), (w 16, .inl (ci, 6, .inl (fun _ => 0)))]
abbrev mxT (cz ci : ClassId) : List (ClassId × FieldType) := [(cz, .boolean), (ci, .int)]
abbrev mxB (dC : Nat → ClassId) (dI : Nat → Nat → Nat) (w : Nat → Nat) (cz ci : ClassId) (U : State) : Prop := va_P (dC, dI) vwCl (mxW w cz ci) U.heap ∧ va_K (dC, dI) vwCl (mxT cz ci) U
theorem mx_blind {dC : Nat → ClassId} {dI : Nat → Nat → Nat} {w : Nat → Nat} {cz ci : ClassId} {av : List Value} : FrameBlind (va_Pc av (mxB dC dI w cz ci)) := fun a U g mk q => by
  obtain ⟨q0, qP, qK⟩ := q
  exact ⟨q0, qP, va_K.moved (u := U) (U := U.calling g mk a) (Vm.Alike.refl U.vm) qK⟩
theorem mx_pre {dC : Nat → ClassId} {dI : Nat → Nat → Nat} {w : Nat → Nat} {cz ci : ClassId} {s U : State} {H : Heap} (hP : va_P (dC, dI) vwCl (mxW w cz ci) H) (hK : va_K (dC, dI) vwCl (mxT cz ci) s) (hU : U.heap = H) (hW : s.WarmedH U.vm) : mxB dC dI w cz ci U := ⟨by rw [hU]; exact hP, va_K.moved hW.alike hK⟩
/-- isUp(n) of all five nodes -/
def sp_up (n : Int32) : Int32 := if 0 ≤ n.toInt ∧ n.toInt < 5 then 1 else 0
theorem sp_up5 : ∀ j, j < 5 → ((31 : Int32) >>> (nI j &&& 31)) &&& 1 = 1 := by decide +kernel
theorem sp_up1 {n : Int32} (h : 0 ≤ n.toInt ∧ n.toInt ≤ 4) : ((31 : Int32) >>> (n &&& 31)) &&& 1 = 1 := by
  have hn : ¬ n < 0 := by rw [xk_lt, xk_0]; omega
  obtain ⟨a, ha, rfl⟩ := nI_of hn
  rw [nI_toInt ha] at h
  exact sp_up5 a (by omega)
theorem sp_up_0 (n : Int32) : sp_up n = 0 ↔ ¬ (0 ≤ n.toInt ∧ n.toInt < 5) := by
  unfold sp_up
  by_cases h : 0 ≤ n.toInt ∧ n.toInt < 5
  · rw [if_pos h]; exact ⟨fun q => absurd q (by decide), fun q => absurd h q⟩
  · rw [if_neg h]; exact ⟨fun _ => h, fun _ => rfl⟩
/-- a handle that is one: its producer's place -/
theorem sp_ih1 {h : Int32} (q : ¬ sp_ih h = 0) : 0 ≤ h ∧ vp_in (h - h / 8 * 8) 6 := by
  rcases pOf_cs (fun _ => 0) h with ⟨h1, -⟩ | ⟨j, hj, -, h0, h8, -⟩
  · exact absurd h1 q
  · exact ⟨h0, by rw [h8]; exact vp_in_nI hj (by decide)⟩
theorem vp_lt {x : Int32} {n : Nat} (h : vp_in x n) : x.toNatClampNeg < n := Nat.not_le.mp fun q => h (Or.inr q)
theorem wq_gen {p : Program} {l : Launch} {e : Env} {R : Room} {s : State} {m : MethodId} {args : Array Value} {below : List Frame} {meth : Method} {c : Code} {H : Heap} {locs : List Loc} {cells slots : Nat} {Q : State → Prop} {g : JFrame} (k : ∀ Q' : State → Prop, Q' = Q → W p l e R s m args below meth c H locs cells slots Q' g) : W p l e R s m args below meth c H locs cells slots Q g := k Q rfl
/-- create on a fresh object -/
def sp_ce (p r n : Int32) : Int32 := if ¬ (0 ≤ p.toInt ∧ p.toInt < 4) then (-1) else if ¬ (1 ≤ n.toInt ∧ n.toInt ≤ (sp_bc (r &&& 31)).toInt) then (-1) else if (r &&& 31) &&& 31 = 0 then (-2) else sp_lo ((r &&& 31) &&& 31)
