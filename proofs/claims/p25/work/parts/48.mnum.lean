/-! bits of steps and of up -/
theorem xband (a b c : Int32) : (a &&& b) >>> c = (a >>> c) &&& (b >>> c) := by
  first
    | exact Int32.shiftRight_and
    | exact Int32.shiftRight_and ..
    | exact Int32.and_shiftRight ..
    | (apply Int32.toBitVec_inj.mp; simp [BitVec.sshiftRight_and_distrib])
theorem xclr5 : ∀ n, n < 5 → ∀ k, k < 5 → ¬ n = k → (((1 <<< (nI k &&& 31)) ^^^ (-1)) >>> (nI n &&& 31)) &&& 1 = (1 : Int32) := by decide +kernel
theorem xclr {s : Int32} {n k : Nat} (hn : n < 5) (hk : k < 5) (h : ¬ n = k) (hb : (s >>> (nI n &&& 31)) &&& 1 = 1) : ((s &&& ((1 <<< (nI k &&& 31)) ^^^ (-1))) >>> (nI n &&& 31)) &&& 1 = 1 := by
  have e := xclr5 n hn k hk h
  rw [xband, show ∀ x y : Int32, (x &&& y) &&& 1 = (x &&& 1) &&& (y &&& 1) from fun x y => by rw [Int32.and_assoc, Int32.and_assoc, ← Int32.and_assoc 1 y 1, Int32.and_comm 1 y, Int32.and_assoc y 1 1, Int32.and_self], hb, e]
  rfl
theorem LD.clr {a b n : Int32} (h : LD a b) (hn : vp_in n 5) (hne : ¬ a = n) : LD a (b &&& ((1 <<< (n &&& 31)) ^^^ (-1))) := by
  rcases h with h | ⟨h1, h2⟩
  · exact Or.inl h
  · by_cases q : a.toInt < 0
    · exact Or.inl q
    · obtain ⟨i, hi, rfl⟩ := vp_in_of (x := a) (n := 5) (xin_of (by omega) (by omega)) (by decide)
      obtain ⟨k, hk, rfl⟩ := vp_in_of hn (by decide)
      exact Or.inr ⟨h1, xclr hi hk (fun z => hne (by rw [z])) h2⟩
theorem xor5 : ∀ n, n < 5 → ∀ k, k < 5 → ((1 <<< (nI k &&& 31)) >>> (nI n &&& 31)) &&& 1 = (if n = k then 1 else 0 : Int32) := by decide +kernel
theorem xbor (a b c : Int32) : (a ||| b) >>> c = (a >>> c) ||| (b >>> c) := by
  first
    | exact Int32.shiftRight_or
    | exact Int32.shiftRight_or ..
    | exact Int32.or_shiftRight ..
    | (apply Int32.toBitVec_inj.mp; simp [BitVec.sshiftRight_or_distrib])
theorem xor1 {a b : Int32} (h : a &&& 1 = 1) : (a ||| b) &&& 1 = 1 := by
  apply xbit
  intro q
  have e : (a &&& 1) = ((a ||| b) &&& 1) &&& a := by
    first
      | (apply Int32.toBitVec_inj.mp; simp only [Int32.toBitVec_and, Int32.toBitVec_or]; ext i; simp; cases a.toBitVec[i] <;> simp)
      | (apply Int32.toBitVec_inj.mp; simp only [Int32.toBitVec_and, Int32.toBitVec_or]; ext i hi; simp; by_cases z : a.toBitVec[i] <;> simp [z])
  rw [q, h] at e
  exact absurd e (by rw [Int32.zero_and]; decide)
theorem LD.or {a b n : Int32} (h : LD a b) : LD a (b ||| n) := by
  rcases h with h | ⟨h1, h2⟩
  · exact Or.inl h
  · exact Or.inr ⟨h1, by rw [xbor]; exact xor1 h2⟩
theorem xu31 : ∀ u, u < 32 → nI u &&& 31 = nI u := by decide +kernel
theorem xu_and {a y : Int32} (h : ∃ u : Nat, u < 32 ∧ a = nI u) : ∃ u : Nat, u < 32 ∧ a &&& y = nI u := by
  obtain ⟨u, hu, rfl⟩ := h
  obtain ⟨j, hj, e⟩ := pk_andE (nI u &&& y) (m := 31) 5 (by decide)
  refine ⟨j, hj, ?_⟩
  rw [← e, Int32.and_assoc, Int32.and_comm y 31, ← Int32.and_assoc, xu31 u hu]
theorem xu_and' {a y : Int32} (h : ∃ u : Nat, u < 32 ∧ y = nI u) : ∃ u : Nat, u < 32 ∧ a &&& y = nI u := by rw [Int32.and_comm]; exact xu_and h
theorem xntz5 : ∀ j, j < 32 → ¬ nI j = 0 → (sp_nz (nI j)).toInt < 5 ∧ 0 ≤ (sp_nz (nI j)).toInt ∧ (nI j >>> (sp_nz (nI j) &&& 31)) &&& 1 = 1 := by decide +kernel
theorem xntz {a : Int32} (h : ∃ u : Nat, u < 32 ∧ a = nI u) (h0 : ¬ a = 0) : (sp_nz a).toInt < 5 ∧ 0 ≤ (sp_nz a).toInt ∧ (a >>> (sp_nz a &&& 31)) &&& 1 = 1 := by
  obtain ⟨u, hu, rfl⟩ := h
  exact xntz5 u hu h0
theorem xur5 : ∀ u, u < 32 → ∀ n, n < 5 → ((nI u ||| ((1 : Int32) <<< (nI n &&& 31))) &&& (31 : Int32)) = (nI u ||| ((1 : Int32) <<< (nI n &&& 31))) := by decide +kernel
theorem xu_or {a n : Int32} (h : ∃ u : Nat, u < 32 ∧ a = nI u) (hn : vp_in n 5) : ∃ u : Nat, u < 32 ∧ a ||| (1 <<< (n &&& 31)) = nI u := by
  obtain ⟨u, hu, rfl⟩ := h
  obtain ⟨k, hk, rfl⟩ := vp_in_of hn (by decide)
  obtain ⟨j, hj, e⟩ := pk_andE (nI u ||| (1 <<< (nI k &&& 31))) (m := 31) 5 (by decide)
  exact ⟨j, hj, by rw [← e, xur5 u hu k hk]⟩
/-- Math.min of longs, back to an int -/
theorem xminl {e f k : Int32} (h0 : 0 ≤ f.toInt) (h1 : 0 ≤ k.toInt) : ((if f.toInt64 + k.toInt64 < e.toInt64 then f.toInt64 + k.toInt64 else e.toInt64).toInt32).toInt = min e.toInt (f.toInt + k.toInt) := by
  have h2 := xr_hi f
  have h3 := xr_hi k
  have h4 := xr_hi e
  have h5 := xr_lo e
  have es : (f.toInt64 + k.toInt64).toInt = f.toInt + k.toInt := by
    rw [Int64.toInt_add, Int32.toInt_toInt64, Int32.toInt_toInt64]
    exact Int.bmod_eq_of_le (by omega) (by omega)
  by_cases q : f.toInt64 + k.toInt64 < e.toInt64
  · rw [if_pos q]
    rw [Int64.lt_iff_toInt_lt, es, Int32.toInt_toInt64] at q
    rw [Int64.toInt_toInt32, es, xb_of (by omega) (by omega)]
    omega
  · rw [if_neg q]
    rw [Int64.lt_iff_toInt_lt, es, Int32.toInt_toInt64] at q
    rw [Int64.toInt_toInt32, Int32.toInt_toInt64, xb_of (by omega) (by omega)]
    omega
/-- up behind a crash, behind a restart -/
def sp_cu (u n k : Int32) : Int32 := if sp_iu u n = 0 then u else if k < 0 then u else u &&& ((1 <<< (n &&& 31)) ^^^ (-1))
def sp_ru (u n : Int32) : Int32 := if 0 ≤ n.toInt ∧ n.toInt < 5 then (if sp_iu u n = 0 then u ||| (1 <<< (n &&& 31)) else u) else u
def sp_rr (u n : Int32) : Int32 := if 0 ≤ n.toInt ∧ n.toInt < 5 then (if sp_iu u n = 0 then 0 else (-1)) else (-1)
theorem ML.of {w : Nat → Nat} {E E' : Int} {I I' : Nat → Nat → Int32} {j : Nat} (h : ML w E I) (ho : ∀ i, i < 20 → ¬ i = j → I' (w (21 + i)) = I (w (21 + i))) (hl : LI E' (I' (w (21 + j)))) (hE : E ≤ E') : ML w E' I' := fun i hi => by
  by_cases q : i = j
  · subst q; exact hl
  · rw [ho i hi q]; exact (h i hi).mono hE
