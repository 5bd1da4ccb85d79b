/-! the simple state as words: registers, groups, positions, what is there -/
def sp_r6 (k : Int32) : Prop := 0 ≤ k.toInt ∧ k.toInt < 6
def sp_r4 (k : Int32) : Prop := 0 ≤ k.toInt ∧ k.toInt < 4
def sp_rgr (x k : Int32) : Int32 := if 0 ≤ k.toInt ∧ k.toInt < 6 then 8 * (x + 1) + k else (-1)
def sp_rgI (v : Nat → Nat) (I : Nat → Nat → Int32) (k : Int32) : Nat → Nat → Int32 := if 0 ≤ k.toInt ∧ k.toInt < 6 then p2 I (v (4 + k.toNatClampNeg)) 1 (I (v (4 + k.toNatClampNeg)) 1 + 1) else I
def sp_rgJ (w : Nat → Nat) (J : Nat → Nat → Int32) (k : Int32) : Nat → Nat → Int32 := if 0 ≤ k.toInt ∧ k.toInt < 6 then va_up J (w 8) (upd (J (w 8)) k.toNatClampNeg (J (w 8) k.toNatClampNeg + 1)) else J
def sp_mbr (x g m : Int32) : Int32 := if (0 ≤ g.toInt ∧ g.toInt < 4) ∧ 0 ≤ m.toInt ∧ m.toInt < 8 then x + 1 else (-1)
def sp_mbI (v : Nat → Nat) (I : Nat → Nat → Int32) (g m : Int32) : Nat → Nat → Int32 := if (0 ≤ g.toInt ∧ g.toInt < 4) ∧ 0 ≤ m.toInt ∧ m.toInt < 8 then p2 (p2 I (v (10 + g.toNatClampNeg)) 0 (I (v (10 + g.toNatClampNeg)) 0 ^^^ (1 <<< (m &&& 31)))) (v (10 + g.toNatClampNeg)) 1 (I (v (10 + g.toNatClampNeg)) 1 + 1) else I
def sp_mbJ (w : Nat → Nat) (J : Nat → Nat → Int32) (g m : Int32) : Nat → Nat → Int32 := if (0 ≤ g.toInt ∧ g.toInt < 4) ∧ 0 ≤ m.toInt ∧ m.toInt < 8 then va_up (va_up J (w 13) (upd (J (w 13)) g.toNatClampNeg (J (w 13) g.toNatClampNeg ^^^ (1 <<< (m &&& 31))))) (w 14) (upd (J (w 14)) g.toNatClampNeg (J (w 14) g.toNatClampNeg + 1)) else J
/-- how many of the first n are there -/
def sp_cnt (t : Nat → Int32) : Nat → Int32
  | 0 => 0
  | n + 1 => sp_cnt t n + t n
def oN (o : Option Nat) : Int32 := match o with
  | none => 0
  | some _ => 1
def zN (x : Int32) : Int32 := if x = 0 then 0 else 1
/-- the members from k on, n of them: the one with y before it -/
def sp_ml (mb : Int32) : Nat → Nat → Int32 → Int32
  | 0, _, _ => (-1)
  | n + 1, k, y => if (mb >>> (nI k &&& 31)) &&& 1 = 1 then (if y = 0 then nI k else sp_ml mb n (k + 1) (y - 1)) else sp_ml mb n (k + 1) y
def sp_ma (mb q : Int32) : Int32 := if sp_bc mb = 0 then (-1) else sp_ml mb 8 0 (q - q / sp_bc mb * sp_bc mb)
theorem sp_ml_cs (mb : Int32) : ∀ (n k : Nat) (y : Int32), k + n ≤ 8 → sp_ml mb n k y = (-1) ∨ ∃ j : Nat, j < 8 ∧ sp_ml mb n k y = nI j := by
  intro n
  induction n with
  | zero => intro k y _; exact Or.inl rfl
  | succ n ih =>
    intro k y hn
    unfold sp_ml
    by_cases h : (mb >>> (nI k &&& 31)) &&& 1 = 1
    · rw [if_pos h]
      by_cases hy : y = 0
      · rw [if_pos hy]; exact Or.inr ⟨k, by omega, rfl⟩
      · rw [if_neg hy]; exact ih _ _ (by omega)
    · rw [if_neg h]; exact ih _ _ (by omega)
theorem sp_ml_1 {mb : Int32} {n k : Nat} {y : Int32} (h : (mb >>> (nI k &&& 31)) &&& 1 = 1) (hy : y = 0) : sp_ml mb (n + 1) k y = nI k := by
  rw [sp_ml, if_pos h, if_pos hy]
theorem sp_ml_2 {mb : Int32} {n k : Nat} {y : Int32} (h : (mb >>> (nI k &&& 31)) &&& 1 = 1) (hy : ¬ y = 0) : sp_ml mb (n + 1) k y = sp_ml mb n (k + 1) (y - 1) := by
  rw [sp_ml, if_pos h, if_neg hy]
theorem sp_ml_3 {mb : Int32} {n k : Nat} {y : Int32} (h : ¬ (mb >>> (nI k &&& 31)) &&& 1 = 1) : sp_ml mb (n + 1) k y = sp_ml mb n (k + 1) y := by
  rw [sp_ml, if_neg h]
theorem sp_cn8 {mb : Int32} {k : Nat} (hk : k < 8) : sp_cn mb (nI k) = if (mb >>> (nI k &&& 31)) &&& 1 = 1 then 1 else 0 := by
  unfold sp_cn
  rw [if_neg (nI_pos (by omega)), if_neg (show ¬ (8 : Int32) ≤ nI k from nI_ge (b := 8) hk (by decide))]
theorem sp_cn8_0 {mb : Int32} {k : Nat} (hk : k < 8) (h : sp_cn mb (nI k) = 0) : ¬ (mb >>> (nI k &&& 31)) &&& 1 = 1 := fun q => by
  rw [sp_cn8 hk, if_pos q] at h
  exact absurd h (by decide)
theorem sp_cn8_1 {mb : Int32} {k : Nat} (hk : k < 8) (h : ¬ sp_cn mb (nI k) = 0) : (mb >>> (nI k &&& 31)) &&& 1 = 1 := by
  by_cases q : (mb >>> (nI k &&& 31)) &&& 1 = 1
  · exact q
  · rw [sp_cn8 hk, if_neg q] at h
    exact absurd rfl h
theorem sp_ma_cs (mb q : Int32) : sp_ma mb q = (-1) ∨ ∃ j : Nat, j < 8 ∧ sp_ma mb q = nI j := by
  unfold sp_ma
  by_cases h : sp_bc mb = 0
  · rw [if_pos h]; exact Or.inl rfl
  · rw [if_neg h]; exact sp_ml_cs mb 8 0 _ (by decide)
/-- owner of partition p (its place is q) -/
def sp_ow1 (x : Int32) : Int32 := if x = (-1) then (-2) else x
def sp_own (mb : Int32) (t : Nat → Int32) (g p : Int32) : Int32 := if 0 ≤ g.toInt ∧ g.toInt < 4 then (if 0 ≤ p.toInt ∧ p.toInt < 4 then (if t p.toNatClampNeg = 0 then (-1) else sp_ow1 (sp_ma mb (sp_cnt t p.toNatClampNeg))) else (-1)) else (-1)
def sp_pos (x : Int32) (t : Nat → Int32) (g p : Int32) : Int32 := if 0 ≤ g.toInt ∧ g.toInt < 4 then (if 0 ≤ p.toInt ∧ p.toInt < 4 then (if t p.toNatClampNeg = 0 then (-1) else x) else (-1)) else (-1)
/-- move: whether it is refused, wrong, or done -/
def sp_mvr (mb rd : Int32) (t : Nat → Int32) (g m r p o : Int32) : Int32 := if 0 ≤ g.toInt ∧ g.toInt < 4 then (if 0 ≤ p.toInt ∧ p.toInt < 4 then (if t p.toNatClampNeg = 0 then (-1) else if o.toInt < 0 then (-1) else if 0 ≤ m.toInt ∧ m = sp_ma mb (sp_cnt t p.toNatClampNeg) ∧ r = rd then 0 else (-4)) else (-1)) else (-1)
/-- create: its answer; 0 and up: it is made -/
def sp_cer (u th : Int32) (p r l : Int32) : Int32 := if 0 ≤ p.toInt ∧ p.toInt < 4 then (if th = 0 then (if 1 ≤ l.toInt ∧ l.toInt ≤ (sp_bc (r &&& 31)).toInt then (if (r &&& 31) &&& u = 0 then (-2) else sp_lo ((r &&& 31) &&& u)) else (-1)) else (-1)) else (-1)
/-- the answer of partitionAt: null, or what lies at that place -/
def pPa (v : Nat → Nat) (Q : Nat → Nat → Option Nat) (p : Int32) (r : Option Nat) : Prop := (¬ (0 ≤ p.toInt ∧ p.toInt < 4) ∧ r = none) ∨ ∃ j : Nat, j < 4 ∧ p = nI j ∧ r = Q (v 1) j
theorem oN_0 {o : Option Nat} : oN o = 0 ↔ o = none := by
  cases o with
  | none => exact ⟨fun _ => rfl, fun _ => rfl⟩
  | some b => exact ⟨fun h => absurd h (by show ¬ (1 : Int32) = 0; decide), fun h => by cases h⟩
def sp_mvJ (v : Nat → Nat) (J : Nat → Nat → Int32) (g p o r : Int32) : Nat → Nat → Int32 := if r = 0 then va_up J (v (14 + g.toNatClampNeg)) (upd (J (v (14 + g.toNatClampNeg))) p.toNatClampNeg o) else J
def sp_mvM (w : Nat → Nat) (J : Nat → Nat → Int32) (g p o r : Int32) : Nat → Nat → Int32 := if r = 0 then va_up J (w 15) (upd (J (w 15)) (4 * g.toNatClampNeg + p.toNatClampNeg) o) else J
/-- whether create makes a partition -/
abbrev sp_ck (u th p r l : Int32) : Prop := (0 ≤ p.toInt ∧ p.toInt < 4) ∧ th = 0 ∧ (1 ≤ l.toInt ∧ l.toInt ≤ (sp_bc (r &&& 31)).toInt) ∧ ¬ (r &&& 31) &&& u = 0
theorem p2_self {α : Type} (I : Nat → Nat → α) (a f : Nat) : p2 I a f (I a f) = I := by
  funext b g
  by_cases h : b = a ∧ g = f
  · obtain ⟨rfl, rfl⟩ := h; exact p2_at _ _ _ _
  · exact p2_ne _ _ h
section XS
variable {v : Nat → Nat} {L : List Nat} {K N : Nat → Nat} {T : Nat → Nat → Nat} {I I0 : Nat → Nat → Int32} {Q Q0 : Nat → Nat → Option Nat} {J J0 : Nat → Nat → Int32}
theorem RS.q10 (h : RS v I0 Q0 J0 I Q J) {i : Nat} {y : Option Nat} : RS v I0 (p2 Q0 (v 1) i y) J0 I (p2 Q (v 1) i y) J := by
  refine ⟨h.1, h.2.1, h.2.2.1, h.2.2.2.1, fun p hp => ?_⟩
  by_cases e : p = i
  · subst e; rw [p2_at, p2_at]
  · rw [p2_ne _ _ (fun z => e z.2), p2_ne _ _ (fun z => e z.2)]; exact h.2.2.2.2 p hp
end XS
section XM
variable {w : Nat → Nat} {I J I' J' J1 : Nat → Nat → Int32} {ex : List Nat}
theorem RM.re (h : RM w ex I J I' J') (hJ : ∀ k, (k = 2 ∨ k = 8 ∨ k = 13 ∨ k = 14 ∨ k = 15) → ¬ k ∈ ex → J1 (w k) = J (w k)) (he : ∀ k, (k = 2 ∨ k = 8 ∨ k = 13 ∨ k = 14 ∨ k = 15) → k ∈ ex → J' (w k) = J1 (w k)) : RM w [] I J1 I' J' :=
  ⟨h.1, fun k hk _ => by
    by_cases e : k ∈ ex
    · exact he k hk e
    · exact (h.2 k hk e).trans (hJ k hk e).symm⟩
theorem RM.no (h : RM w ex I J I' J') (he : ∀ k, (k = 2 ∨ k = 8 ∨ k = 13 ∨ k = 14 ∨ k = 15) → k ∈ ex → J' (w k) = J (w k)) : RM w [] I J I' J' := h.re (fun _ _ _ => rfl) he
end XM
