/-- what lies at an address, by its kind -/
def pF (cy : Nat → ClassId) (K N : Nat → Nat) (T : Nat → Nat → Nat) (I : Nat → Nat → Int32) (Q : Nat → Nat → Option Nat) (J : Nat → Nat → Int32) : Nat → va_E := fun a => if K a = 0 then .inr (0, [.int (I a 0), .int (I a 1), .int (I a 2), .int (I a 3), .int (I a 4), .int (I a 5), .int (I a 6), .int (I a 7)]) else if K a = 1 then .inr (1, [.int (I a 0), .int (I a 1), .ref (T a 2)]) else if K a = 2 then .inr (2, [.int (I a 0), .int (I a 1), .ref (T a 2), .int (I a 3), .int (I a 4), .int (I a 5)]) else if K a = 3 then .inr (3, [.int (I a 0), .int (I a 1), .int (I a 2), .int (I a 3), .int (I a 4), .int (I a 5)]) else if K a = 4 then .inr (4, [.ref (T a 0), .int (I a 1), .int (I a 2), .int (I a 3), .int (I a 4), .int (I a 5), .int (I a 6)]) else if K a = 5 then .inr (5, [.ref (T a 0), .ref (T a 1), .ref (T a 2), .int (I a 3), .int (I a 4), va_rf (Q a 5)]) else if K a = 6 then .inr (6, [.ref (T a 0), .int (I a 1), .int (I a 2), .int (I a 3), .int (I a 4), .int (I a 5), .int (I a 6)]) else if K a = 8 then .inl ((cy 8), 60, .inr (.inr (.inr (.inr (Q a))))) else if K a = 9 then .inl ((cy 9), 4, .inr (.inr (.inr (.inr (Q a))))) else if K a = 10 then .inl ((cy 10), 4, .inr (.inr (.inr (.inr (Q a))))) else if K a = 11 then .inl ((cy 11), 6, .inr (.inr (.inr (.inr (Q a))))) else if K a = 12 then .inl ((cy 12), 5, .inr (.inr (.inr (.inr (Q a))))) else .inl ((cy 7), (N a), .inl (J a))
/-- place f of the row at a becomes x -/
def p2 {α : Type} (I : Nat → Nat → α) (a f : Nat) (x : α) : Nat → Nat → α := va_up I a (va_up (I a) f x)
theorem p2_at {α : Type} (I : Nat → Nat → α) (a f : Nat) (x : α) : p2 I a f x a f = x := by simp [p2, va_up]
theorem p2_ne {α : Type} (I : Nat → Nat → α) {a b f g : Nat} (x : α) (h : ¬ (b = a ∧ g = f)) : p2 I a f x b g = I b g := by
  unfold p2 va_up
  by_cases hb : b = a
  · subst hb
    have hg : ¬ g = f := fun q => h ⟨rfl, q⟩
    simp [hg]
  · simp [hb]
theorem p2_na {α : Type} (I : Nat → Nat → α) {a b f : Nat} (x : α) (h : ¬ b = a) : p2 I a f x b = I b := by unfold p2; rw [va_up_ne _ _ h]
theorem p2_aa {α : Type} (I : Nat → Nat → α) (a f : Nat) (x : α) : p2 I a f x a = va_up (I a) f x := by unfold p2; rw [va_up_self]
theorem pD {A : Nat → Prop} {L : List Nat} {f g : Nat → va_E} (h : va_D A (va_pl L f)) : va_D A (va_pl L g) := by
  have key : ∀ (k : Nat) (q : Nat × va_E), (va_pl L g)[k]? = some q → ∃ e, (va_pl L f)[k]? = some (q.1, e) := by
    intro k q hk
    unfold va_pl at hk ⊢
    rw [List.getElem?_map] at hk ⊢
    cases hb : L[k]? with
    | none => rw [hb] at hk; cases hk
    | some b => rw [hb] at hk; cases hk; exact ⟨_, rfl⟩
  refine ⟨fun i j x y hi hj hxy => ?_, fun k q hk => ?_⟩
  · obtain ⟨e1, h1⟩ := key i x hi
    obtain ⟨e2, h2⟩ := key j y hj
    exact h.1 i j _ _ h1 h2 hxy
  · obtain ⟨e1, h1⟩ := key k q hk
    exact h.2 k (q.1, e1) h1
theorem pF_0 {cy : Nat → ClassId} {K N : Nat → Nat} {T : Nat → Nat → Nat} {I : Nat → Nat → Int32} {Q : Nat → Nat → Option Nat} {J : Nat → Nat → Int32} {a : Nat} (h : K a = 0) : pF cy K N T I Q J a = .inr (0, [.int (I a 0), .int (I a 1), .int (I a 2), .int (I a 3), .int (I a 4), .int (I a 5), .int (I a 6), .int (I a 7)]) := by simp [pF, h]
theorem pG_0 {cy : Nat → ClassId} {K N : Nat → Nat} {T : Nat → Nat → Nat} {I : Nat → Nat → Int32} {Q : Nat → Nat → Option Nat} {J : Nat → Nat → Int32} {L : List Nat} {a : Nat} (hL : a ∈ L) (h : K a = 0) : ∃ j : Nat, (va_pl L (pF cy K N T I Q J))[j]? = some (a, .inr (0, [.int (I a 0), .int (I a 1), .int (I a 2), .int (I a 3), .int (I a 4), .int (I a 5), .int (I a 6), .int (I a 7)])) := by
  obtain ⟨j, hj⟩ := va_pl_get (X := []) (f := pF cy K N T I Q J) hL
  exact ⟨j, hj.trans (by rw [pF_0 h])⟩
theorem pP_0_0 {cy : Nat → ClassId} {K N : Nat → Nat} {T : Nat → Nat → Nat} {I : Nat → Nat → Int32} {Q : Nat → Nat → Option Nat} {J : Nat → Nat → Int32} {A : Nat → Prop} {L : List Nat} {a j : Nat} {x : Int32} (hD : va_D A (va_pl L (pF cy K N T I Q J))) (hL : a ∈ L) (h : K a = 0) (hj : (va_pl L (pF cy K N T I Q J))[j]? = some (a, .inr (0, [.int (I a 0), .int (I a 1), .int (I a 2), .int (I a 3), .int (I a 4), .int (I a 5), .int (I a 6), .int (I a 7)]))) : (va_pl L (pF cy K N T I Q J)).set j (a, .inr (0, [.int x, .int (I a 1), .int (I a 2), .int (I a 3), .int (I a 4), .int (I a 5), .int (I a 6), .int (I a 7)])) = va_pl L (pF cy K N T (p2 I a 0 x) Q J) := by
  have hs := va_pl_set (X := []) (e := .inr (0, [.int x, .int (I a 1), .int (I a 2), .int (I a 3), .int (I a 4), .int (I a 5), .int (I a 6), .int (I a 7)])) hD hL (hj.trans (by rw [pF_0 h]))
  refine hs.trans ?_
  show [] ++ _ = _
  rw [List.nil_append]
  refine va_pl_congr (fun b => ?_)
  by_cases hb : b = a
  · subst hb
    rw [va_up_self, pF_0 h]
    simp [p2, va_up]
  · rw [va_up_ne _ _ hb]
    simp [pF, p2, va_up, hb]
theorem pP_0_1 {cy : Nat → ClassId} {K N : Nat → Nat} {T : Nat → Nat → Nat} {I : Nat → Nat → Int32} {Q : Nat → Nat → Option Nat} {J : Nat → Nat → Int32} {A : Nat → Prop} {L : List Nat} {a j : Nat} {x : Int32} (hD : va_D A (va_pl L (pF cy K N T I Q J))) (hL : a ∈ L) (h : K a = 0) (hj : (va_pl L (pF cy K N T I Q J))[j]? = some (a, .inr (0, [.int (I a 0), .int (I a 1), .int (I a 2), .int (I a 3), .int (I a 4), .int (I a 5), .int (I a 6), .int (I a 7)]))) : (va_pl L (pF cy K N T I Q J)).set j (a, .inr (0, [.int (I a 0), .int x, .int (I a 2), .int (I a 3), .int (I a 4), .int (I a 5), .int (I a 6), .int (I a 7)])) = va_pl L (pF cy K N T (p2 I a 1 x) Q J) := by
  have hs := va_pl_set (X := []) (e := .inr (0, [.int (I a 0), .int x, .int (I a 2), .int (I a 3), .int (I a 4), .int (I a 5), .int (I a 6), .int (I a 7)])) hD hL (hj.trans (by rw [pF_0 h]))
  refine hs.trans ?_
  show [] ++ _ = _
  rw [List.nil_append]
  refine va_pl_congr (fun b => ?_)
  by_cases hb : b = a
  · subst hb
    rw [va_up_self, pF_0 h]
    simp [p2, va_up]
  · rw [va_up_ne _ _ hb]
    simp [pF, p2, va_up, hb]
theorem pP_0_2 {cy : Nat → ClassId} {K N : Nat → Nat} {T : Nat → Nat → Nat} {I : Nat → Nat → Int32} {Q : Nat → Nat → Option Nat} {J : Nat → Nat → Int32} {A : Nat → Prop} {L : List Nat} {a j : Nat} {x : Int32} (hD : va_D A (va_pl L (pF cy K N T I Q J))) (hL : a ∈ L) (h : K a = 0) (hj : (va_pl L (pF cy K N T I Q J))[j]? = some (a, .inr (0, [.int (I a 0), .int (I a 1), .int (I a 2), .int (I a 3), .int (I a 4), .int (I a 5), .int (I a 6), .int (I a 7)]))) : (va_pl L (pF cy K N T I Q J)).set j (a, .inr (0, [.int (I a 0), .int (I a 1), .int x, .int (I a 3), .int (I a 4), .int (I a 5), .int (I a 6), .int (I a 7)])) = va_pl L (pF cy K N T (p2 I a 2 x) Q J) := by
  have hs := va_pl_set (X := []) (e := .inr (0, [.int (I a 0), .int (I a 1), .int x, .int (I a 3), .int (I a 4), .int (I a 5), .int (I a 6), .int (I a 7)])) hD hL (hj.trans (by rw [pF_0 h]))
  refine hs.trans ?_
  show [] ++ _ = _
  rw [List.nil_append]
  refine va_pl_congr (fun b => ?_)
  by_cases hb : b = a
  · subst hb
    rw [va_up_self, pF_0 h]
    simp [p2, va_up]
  · rw [va_up_ne _ _ hb]
    simp [pF, p2, va_up, hb]
theorem pP_0_3 {cy : Nat → ClassId} {K N : Nat → Nat} {T : Nat → Nat → Nat} {I : Nat → Nat → Int32} {Q : Nat → Nat → Option Nat} {J : Nat → Nat → Int32} {A : Nat → Prop} {L : List Nat} {a j : Nat} {x : Int32} (hD : va_D A (va_pl L (pF cy K N T I Q J))) (hL : a ∈ L) (h : K a = 0) (hj : (va_pl L (pF cy K N T I Q J))[j]? = some (a, .inr (0, [.int (I a 0), .int (I a 1), .int (I a 2), .int (I a 3), .int (I a 4), .int (I a 5), .int (I a 6), .int (I a 7)]))) : (va_pl L (pF cy K N T I Q J)).set j (a, .inr (0, [.int (I a 0), .int (I a 1), .int (I a 2), .int x, .int (I a 4), .int (I a 5), .int (I a 6), .int (I a 7)])) = va_pl L (pF cy K N T (p2 I a 3 x) Q J) := by
  have hs := va_pl_set (X := []) (e := .inr (0, [.int (I a 0), .int (I a 1), .int (I a 2), .int x, .int (I a 4), .int (I a 5), .int (I a 6), .int (I a 7)])) hD hL (hj.trans (by rw [pF_0 h]))
  refine hs.trans ?_
  show [] ++ _ = _
  rw [List.nil_append]
  refine va_pl_congr (fun b => ?_)
  by_cases hb : b = a
  · subst hb
    rw [va_up_self, pF_0 h]
    simp [p2, va_up]
  · rw [va_up_ne _ _ hb]
    simp [pF, p2, va_up, hb]
theorem pP_0_4 {cy : Nat → ClassId} {K N : Nat → Nat} {T : Nat → Nat → Nat} {I : Nat → Nat → Int32} {Q : Nat → Nat → Option Nat} {J : Nat → Nat → Int32} {A : Nat → Prop} {L : List Nat} {a j : Nat} {x : Int32} (hD : va_D A (va_pl L (pF cy K N T I Q J))) (hL : a ∈ L) (h : K a = 0) (hj : (va_pl L (pF cy K N T I Q J))[j]? = some (a, .inr (0, [.int (I a 0), .int (I a 1), .int (I a 2), .int (I a 3), .int (I a 4), .int (I a 5), .int (I a 6), .int (I a 7)]))) : (va_pl L (pF cy K N T I Q J)).set j (a, .inr (0, [.int (I a 0), .int (I a 1), .int (I a 2), .int (I a 3), .int x, .int (I a 5), .int (I a 6), .int (I a 7)])) = va_pl L (pF cy K N T (p2 I a 4 x) Q J) := by
  have hs := va_pl_set (X := []) (e := .inr (0, [.int (I a 0), .int (I a 1), .int (I a 2), .int (I a 3), .int x, .int (I a 5), .int (I a 6), .int (I a 7)])) hD hL (hj.trans (by rw [pF_0 h]))
  refine hs.trans ?_
  show [] ++ _ = _
  rw [List.nil_append]
  refine va_pl_congr (fun b => ?_)
  by_cases hb : b = a
  · subst hb
    rw [va_up_self, pF_0 h]
    simp [p2, va_up]
  · rw [va_up_ne _ _ hb]
    simp [pF, p2, va_up, hb]
theorem pP_0_5 {cy : Nat → ClassId} {K N : Nat → Nat} {T : Nat → Nat → Nat} {I : Nat → Nat → Int32} {Q : Nat → Nat → Option Nat} {J : Nat → Nat → Int32} {A : Nat → Prop} {L : List Nat} {a j : Nat} {x : Int32} (hD : va_D A (va_pl L (pF cy K N T I Q J))) (hL : a ∈ L) (h : K a = 0) (hj : (va_pl L (pF cy K N T I Q J))[j]? = some (a, .inr (0, [.int (I a 0), .int (I a 1), .int (I a 2), .int (I a 3), .int (I a 4), .int (I a 5), .int (I a 6), .int (I a 7)]))) : (va_pl L (pF cy K N T I Q J)).set j (a, .inr (0, [.int (I a 0), .int (I a 1), .int (I a 2), .int (I a 3), .int (I a 4), .int x, .int (I a 6), .int (I a 7)])) = va_pl L (pF cy K N T (p2 I a 5 x) Q J) := by
  have hs := va_pl_set (X := []) (e := .inr (0, [.int (I a 0), .int (I a 1), .int (I a 2), .int (I a 3), .int (I a 4), .int x, .int (I a 6), .int (I a 7)])) hD hL (hj.trans (by rw [pF_0 h]))
  refine hs.trans ?_
  show [] ++ _ = _
  rw [List.nil_append]
  refine va_pl_congr (fun b => ?_)
  by_cases hb : b = a
  · subst hb
    rw [va_up_self, pF_0 h]
    simp [p2, va_up]
  · rw [va_up_ne _ _ hb]
    simp [pF, p2, va_up, hb]
theorem pP_0_6 {cy : Nat → ClassId} {K N : Nat → Nat} {T : Nat → Nat → Nat} {I : Nat → Nat → Int32} {Q : Nat → Nat → Option Nat} {J : Nat → Nat → Int32} {A : Nat → Prop} {L : List Nat} {a j : Nat} {x : Int32} (hD : va_D A (va_pl L (pF cy K N T I Q J))) (hL : a ∈ L) (h : K a = 0) (hj : (va_pl L (pF cy K N T I Q J))[j]? = some (a, .inr (0, [.int (I a 0), .int (I a 1), .int (I a 2), .int (I a 3), .int (I a 4), .int (I a 5), .int (I a 6), .int (I a 7)]))) : (va_pl L (pF cy K N T I Q J)).set j (a, .inr (0, [.int (I a 0), .int (I a 1), .int (I a 2), .int (I a 3), .int (I a 4), .int (I a 5), .int x, .int (I a 7)])) = va_pl L (pF cy K N T (p2 I a 6 x) Q J) := by
  have hs := va_pl_set (X := []) (e := .inr (0, [.int (I a 0), .int (I a 1), .int (I a 2), .int (I a 3), .int (I a 4), .int (I a 5), .int x, .int (I a 7)])) hD hL (hj.trans (by rw [pF_0 h]))
  refine hs.trans ?_
  show [] ++ _ = _
  rw [List.nil_append]
  refine va_pl_congr (fun b => ?_)
  by_cases hb : b = a
  · subst hb
    rw [va_up_self, pF_0 h]
    simp [p2, va_up]
  · rw [va_up_ne _ _ hb]
    simp [pF, p2, va_up, hb]
theorem pP_0_7 {cy : Nat → ClassId} {K N : Nat → Nat} {T : Nat → Nat → Nat} {I : Nat → Nat → Int32} {Q : Nat → Nat → Option Nat} {J : Nat → Nat → Int32} {A : Nat → Prop} {L : List Nat} {a j : Nat} {x : Int32} (hD : va_D A (va_pl L (pF cy K N T I Q J))) (hL : a ∈ L) (h : K a = 0) (hj : (va_pl L (pF cy K N T I Q J))[j]? = some (a, .inr (0, [.int (I a 0), .int (I a 1), .int (I a 2), .int (I a 3), .int (I a 4), .int (I a 5), .int (I a 6), .int (I a 7)]))) : (va_pl L (pF cy K N T I Q J)).set j (a, .inr (0, [.int (I a 0), .int (I a 1), .int (I a 2), .int (I a 3), .int (I a 4), .int (I a 5), .int (I a 6), .int x])) = va_pl L (pF cy K N T (p2 I a 7 x) Q J) := by
  have hs := va_pl_set (X := []) (e := .inr (0, [.int (I a 0), .int (I a 1), .int (I a 2), .int (I a 3), .int (I a 4), .int (I a 5), .int (I a 6), .int x])) hD hL (hj.trans (by rw [pF_0 h]))
  refine hs.trans ?_
  show [] ++ _ = _
  rw [List.nil_append]
  refine va_pl_congr (fun b => ?_)
  by_cases hb : b = a
  · subst hb
    rw [va_up_self, pF_0 h]
    simp [p2, va_up]
  · rw [va_up_ne _ _ hb]
    simp [pF, p2, va_up, hb]
theorem pF_1 {cy : Nat → ClassId} {K N : Nat → Nat} {T : Nat → Nat → Nat} {I : Nat → Nat → Int32} {Q : Nat → Nat → Option Nat} {J : Nat → Nat → Int32} {a : Nat} (h : K a = 1) : pF cy K N T I Q J a = .inr (1, [.int (I a 0), .int (I a 1), .ref (T a 2)]) := by simp [pF, h]
theorem pG_1 {cy : Nat → ClassId} {K N : Nat → Nat} {T : Nat → Nat → Nat} {I : Nat → Nat → Int32} {Q : Nat → Nat → Option Nat} {J : Nat → Nat → Int32} {L : List Nat} {a : Nat} (hL : a ∈ L) (h : K a = 1) : ∃ j : Nat, (va_pl L (pF cy K N T I Q J))[j]? = some (a, .inr (1, [.int (I a 0), .int (I a 1), .ref (T a 2)])) := by
  obtain ⟨j, hj⟩ := va_pl_get (X := []) (f := pF cy K N T I Q J) hL
  exact ⟨j, hj.trans (by rw [pF_1 h])⟩
theorem pP_1_0 {cy : Nat → ClassId} {K N : Nat → Nat} {T : Nat → Nat → Nat} {I : Nat → Nat → Int32} {Q : Nat → Nat → Option Nat} {J : Nat → Nat → Int32} {A : Nat → Prop} {L : List Nat} {a j : Nat} {x : Int32} (hD : va_D A (va_pl L (pF cy K N T I Q J))) (hL : a ∈ L) (h : K a = 1) (hj : (va_pl L (pF cy K N T I Q J))[j]? = some (a, .inr (1, [.int (I a 0), .int (I a 1), .ref (T a 2)]))) : (va_pl L (pF cy K N T I Q J)).set j (a, .inr (1, [.int x, .int (I a 1), .ref (T a 2)])) = va_pl L (pF cy K N T (p2 I a 0 x) Q J) := by
  have hs := va_pl_set (X := []) (e := .inr (1, [.int x, .int (I a 1), .ref (T a 2)])) hD hL (hj.trans (by rw [pF_1 h]))
  refine hs.trans ?_
  show [] ++ _ = _
  rw [List.nil_append]
  refine va_pl_congr (fun b => ?_)
  by_cases hb : b = a
  · subst hb
    rw [va_up_self, pF_1 h]
    simp [p2, va_up]
  · rw [va_up_ne _ _ hb]
    simp [pF, p2, va_up, hb]
theorem pP_1_1 {cy : Nat → ClassId} {K N : Nat → Nat} {T : Nat → Nat → Nat} {I : Nat → Nat → Int32} {Q : Nat → Nat → Option Nat} {J : Nat → Nat → Int32} {A : Nat → Prop} {L : List Nat} {a j : Nat} {x : Int32} (hD : va_D A (va_pl L (pF cy K N T I Q J))) (hL : a ∈ L) (h : K a = 1) (hj : (va_pl L (pF cy K N T I Q J))[j]? = some (a, .inr (1, [.int (I a 0), .int (I a 1), .ref (T a 2)]))) : (va_pl L (pF cy K N T I Q J)).set j (a, .inr (1, [.int (I a 0), .int x, .ref (T a 2)])) = va_pl L (pF cy K N T (p2 I a 1 x) Q J) := by
  have hs := va_pl_set (X := []) (e := .inr (1, [.int (I a 0), .int x, .ref (T a 2)])) hD hL (hj.trans (by rw [pF_1 h]))
  refine hs.trans ?_
  show [] ++ _ = _
  rw [List.nil_append]
  refine va_pl_congr (fun b => ?_)
  by_cases hb : b = a
  · subst hb
    rw [va_up_self, pF_1 h]
    simp [p2, va_up]
  · rw [va_up_ne _ _ hb]
    simp [pF, p2, va_up, hb]
theorem pF_2 {cy : Nat → ClassId} {K N : Nat → Nat} {T : Nat → Nat → Nat} {I : Nat → Nat → Int32} {Q : Nat → Nat → Option Nat} {J : Nat → Nat → Int32} {a : Nat} (h : K a = 2) : pF cy K N T I Q J a = .inr (2, [.int (I a 0), .int (I a 1), .ref (T a 2), .int (I a 3), .int (I a 4), .int (I a 5)]) := by simp [pF, h]
theorem pG_2 {cy : Nat → ClassId} {K N : Nat → Nat} {T : Nat → Nat → Nat} {I : Nat → Nat → Int32} {Q : Nat → Nat → Option Nat} {J : Nat → Nat → Int32} {L : List Nat} {a : Nat} (hL : a ∈ L) (h : K a = 2) : ∃ j : Nat, (va_pl L (pF cy K N T I Q J))[j]? = some (a, .inr (2, [.int (I a 0), .int (I a 1), .ref (T a 2), .int (I a 3), .int (I a 4), .int (I a 5)])) := by
  obtain ⟨j, hj⟩ := va_pl_get (X := []) (f := pF cy K N T I Q J) hL
  exact ⟨j, hj.trans (by rw [pF_2 h])⟩
theorem pP_2_0 {cy : Nat → ClassId} {K N : Nat → Nat} {T : Nat → Nat → Nat} {I : Nat → Nat → Int32} {Q : Nat → Nat → Option Nat} {J : Nat → Nat → Int32} {A : Nat → Prop} {L : List Nat} {a j : Nat} {x : Int32} (hD : va_D A (va_pl L (pF cy K N T I Q J))) (hL : a ∈ L) (h : K a = 2) (hj : (va_pl L (pF cy K N T I Q J))[j]? = some (a, .inr (2, [.int (I a 0), .int (I a 1), .ref (T a 2), .int (I a 3), .int (I a 4), .int (I a 5)]))) : (va_pl L (pF cy K N T I Q J)).set j (a, .inr (2, [.int x, .int (I a 1), .ref (T a 2), .int (I a 3), .int (I a 4), .int (I a 5)])) = va_pl L (pF cy K N T (p2 I a 0 x) Q J) := by
  have hs := va_pl_set (X := []) (e := .inr (2, [.int x, .int (I a 1), .ref (T a 2), .int (I a 3), .int (I a 4), .int (I a 5)])) hD hL (hj.trans (by rw [pF_2 h]))
  refine hs.trans ?_
  show [] ++ _ = _
  rw [List.nil_append]
  refine va_pl_congr (fun b => ?_)
  by_cases hb : b = a
  · subst hb
    rw [va_up_self, pF_2 h]
    simp [p2, va_up]
  · rw [va_up_ne _ _ hb]
    simp [pF, p2, va_up, hb]
theorem pP_2_1 {cy : Nat → ClassId} {K N : Nat → Nat} {T : Nat → Nat → Nat} {I : Nat → Nat → Int32} {Q : Nat → Nat → Option Nat} {J : Nat → Nat → Int32} {A : Nat → Prop} {L : List Nat} {a j : Nat} {x : Int32} (hD : va_D A (va_pl L (pF cy K N T I Q J))) (hL : a ∈ L) (h : K a = 2) (hj : (va_pl L (pF cy K N T I Q J))[j]? = some (a, .inr (2, [.int (I a 0), .int (I a 1), .ref (T a 2), .int (I a 3), .int (I a 4), .int (I a 5)]))) : (va_pl L (pF cy K N T I Q J)).set j (a, .inr (2, [.int (I a 0), .int x, .ref (T a 2), .int (I a 3), .int (I a 4), .int (I a 5)])) = va_pl L (pF cy K N T (p2 I a 1 x) Q J) := by
  have hs := va_pl_set (X := []) (e := .inr (2, [.int (I a 0), .int x, .ref (T a 2), .int (I a 3), .int (I a 4), .int (I a 5)])) hD hL (hj.trans (by rw [pF_2 h]))
  refine hs.trans ?_
  show [] ++ _ = _
  rw [List.nil_append]
  refine va_pl_congr (fun b => ?_)
  by_cases hb : b = a
  · subst hb
    rw [va_up_self, pF_2 h]
    simp [p2, va_up]
  · rw [va_up_ne _ _ hb]
    simp [pF, p2, va_up, hb]
theorem pP_2_3 {cy : Nat → ClassId} {K N : Nat → Nat} {T : Nat → Nat → Nat} {I : Nat → Nat → Int32} {Q : Nat → Nat → Option Nat} {J : Nat → Nat → Int32} {A : Nat → Prop} {L : List Nat} {a j : Nat} {x : Int32} (hD : va_D A (va_pl L (pF cy K N T I Q J))) (hL : a ∈ L) (h : K a = 2) (hj : (va_pl L (pF cy K N T I Q J))[j]? = some (a, .inr (2, [.int (I a 0), .int (I a 1), .ref (T a 2), .int (I a 3), .int (I a 4), .int (I a 5)]))) : (va_pl L (pF cy K N T I Q J)).set j (a, .inr (2, [.int (I a 0), .int (I a 1), .ref (T a 2), .int x, .int (I a 4), .int (I a 5)])) = va_pl L (pF cy K N T (p2 I a 3 x) Q J) := by
  have hs := va_pl_set (X := []) (e := .inr (2, [.int (I a 0), .int (I a 1), .ref (T a 2), .int x, .int (I a 4), .int (I a 5)])) hD hL (hj.trans (by rw [pF_2 h]))
  refine hs.trans ?_
  show [] ++ _ = _
  rw [List.nil_append]
  refine va_pl_congr (fun b => ?_)
  by_cases hb : b = a
  · subst hb
    rw [va_up_self, pF_2 h]
    simp [p2, va_up]
  · rw [va_up_ne _ _ hb]
    simp [pF, p2, va_up, hb]
theorem pP_2_4 {cy : Nat → ClassId} {K N : Nat → Nat} {T : Nat → Nat → Nat} {I : Nat → Nat → Int32} {Q : Nat → Nat → Option Nat} {J : Nat → Nat → Int32} {A : Nat → Prop} {L : List Nat} {a j : Nat} {x : Int32} (hD : va_D A (va_pl L (pF cy K N T I Q J))) (hL : a ∈ L) (h : K a = 2) (hj : (va_pl L (pF cy K N T I Q J))[j]? = some (a, .inr (2, [.int (I a 0), .int (I a 1), .ref (T a 2), .int (I a 3), .int (I a 4), .int (I a 5)]))) : (va_pl L (pF cy K N T I Q J)).set j (a, .inr (2, [.int (I a 0), .int (I a 1), .ref (T a 2), .int (I a 3), .int x, .int (I a 5)])) = va_pl L (pF cy K N T (p2 I a 4 x) Q J) := by
  have hs := va_pl_set (X := []) (e := .inr (2, [.int (I a 0), .int (I a 1), .ref (T a 2), .int (I a 3), .int x, .int (I a 5)])) hD hL (hj.trans (by rw [pF_2 h]))
  refine hs.trans ?_
  show [] ++ _ = _
  rw [List.nil_append]
  refine va_pl_congr (fun b => ?_)
  by_cases hb : b = a
  · subst hb
    rw [va_up_self, pF_2 h]
    simp [p2, va_up]
  · rw [va_up_ne _ _ hb]
    simp [pF, p2, va_up, hb]
theorem pP_2_5 {cy : Nat → ClassId} {K N : Nat → Nat} {T : Nat → Nat → Nat} {I : Nat → Nat → Int32} {Q : Nat → Nat → Option Nat} {J : Nat → Nat → Int32} {A : Nat → Prop} {L : List Nat} {a j : Nat} {x : Int32} (hD : va_D A (va_pl L (pF cy K N T I Q J))) (hL : a ∈ L) (h : K a = 2) (hj : (va_pl L (pF cy K N T I Q J))[j]? = some (a, .inr (2, [.int (I a 0), .int (I a 1), .ref (T a 2), .int (I a 3), .int (I a 4), .int (I a 5)]))) : (va_pl L (pF cy K N T I Q J)).set j (a, .inr (2, [.int (I a 0), .int (I a 1), .ref (T a 2), .int (I a 3), .int (I a 4), .int x])) = va_pl L (pF cy K N T (p2 I a 5 x) Q J) := by
  have hs := va_pl_set (X := []) (e := .inr (2, [.int (I a 0), .int (I a 1), .ref (T a 2), .int (I a 3), .int (I a 4), .int x])) hD hL (hj.trans (by rw [pF_2 h]))
  refine hs.trans ?_
  show [] ++ _ = _
  rw [List.nil_append]
  refine va_pl_congr (fun b => ?_)
  by_cases hb : b = a
  · subst hb
    rw [va_up_self, pF_2 h]
    simp [p2, va_up]
  · rw [va_up_ne _ _ hb]
    simp [pF, p2, va_up, hb]
theorem pF_3 {cy : Nat → ClassId} {K N : Nat → Nat} {T : Nat → Nat → Nat} {I : Nat → Nat → Int32} {Q : Nat → Nat → Option Nat} {J : Nat → Nat → Int32} {a : Nat} (h : K a = 3) : pF cy K N T I Q J a = .inr (3, [.int (I a 0), .int (I a 1), .int (I a 2), .int (I a 3), .int (I a 4), .int (I a 5)]) := by simp [pF, h]
theorem pG_3 {cy : Nat → ClassId} {K N : Nat → Nat} {T : Nat → Nat → Nat} {I : Nat → Nat → Int32} {Q : Nat → Nat → Option Nat} {J : Nat → Nat → Int32} {L : List Nat} {a : Nat} (hL : a ∈ L) (h : K a = 3) : ∃ j : Nat, (va_pl L (pF cy K N T I Q J))[j]? = some (a, .inr (3, [.int (I a 0), .int (I a 1), .int (I a 2), .int (I a 3), .int (I a 4), .int (I a 5)])) := by
  obtain ⟨j, hj⟩ := va_pl_get (X := []) (f := pF cy K N T I Q J) hL
  exact ⟨j, hj.trans (by rw [pF_3 h])⟩
theorem pP_3_0 {cy : Nat → ClassId} {K N : Nat → Nat} {T : Nat → Nat → Nat} {I : Nat → Nat → Int32} {Q : Nat → Nat → Option Nat} {J : Nat → Nat → Int32} {A : Nat → Prop} {L : List Nat} {a j : Nat} {x : Int32} (hD : va_D A (va_pl L (pF cy K N T I Q J))) (hL : a ∈ L) (h : K a = 3) (hj : (va_pl L (pF cy K N T I Q J))[j]? = some (a, .inr (3, [.int (I a 0), .int (I a 1), .int (I a 2), .int (I a 3), .int (I a 4), .int (I a 5)]))) : (va_pl L (pF cy K N T I Q J)).set j (a, .inr (3, [.int x, .int (I a 1), .int (I a 2), .int (I a 3), .int (I a 4), .int (I a 5)])) = va_pl L (pF cy K N T (p2 I a 0 x) Q J) := by
  have hs := va_pl_set (X := []) (e := .inr (3, [.int x, .int (I a 1), .int (I a 2), .int (I a 3), .int (I a 4), .int (I a 5)])) hD hL (hj.trans (by rw [pF_3 h]))
  refine hs.trans ?_
  show [] ++ _ = _
  rw [List.nil_append]
  refine va_pl_congr (fun b => ?_)
  by_cases hb : b = a
  · subst hb
    rw [va_up_self, pF_3 h]
    simp [p2, va_up]
  · rw [va_up_ne _ _ hb]
    simp [pF, p2, va_up, hb]
theorem pP_3_1 {cy : Nat → ClassId} {K N : Nat → Nat} {T : Nat → Nat → Nat} {I : Nat → Nat → Int32} {Q : Nat → Nat → Option Nat} {J : Nat → Nat → Int32} {A : Nat → Prop} {L : List Nat} {a j : Nat} {x : Int32} (hD : va_D A (va_pl L (pF cy K N T I Q J))) (hL : a ∈ L) (h : K a = 3) (hj : (va_pl L (pF cy K N T I Q J))[j]? = some (a, .inr (3, [.int (I a 0), .int (I a 1), .int (I a 2), .int (I a 3), .int (I a 4), .int (I a 5)]))) : (va_pl L (pF cy K N T I Q J)).set j (a, .inr (3, [.int (I a 0), .int x, .int (I a 2), .int (I a 3), .int (I a 4), .int (I a 5)])) = va_pl L (pF cy K N T (p2 I a 1 x) Q J) := by
  have hs := va_pl_set (X := []) (e := .inr (3, [.int (I a 0), .int x, .int (I a 2), .int (I a 3), .int (I a 4), .int (I a 5)])) hD hL (hj.trans (by rw [pF_3 h]))
  refine hs.trans ?_
  show [] ++ _ = _
  rw [List.nil_append]
  refine va_pl_congr (fun b => ?_)
  by_cases hb : b = a
  · subst hb
    rw [va_up_self, pF_3 h]
    simp [p2, va_up]
  · rw [va_up_ne _ _ hb]
    simp [pF, p2, va_up, hb]
theorem pP_3_2 {cy : Nat → ClassId} {K N : Nat → Nat} {T : Nat → Nat → Nat} {I : Nat → Nat → Int32} {Q : Nat → Nat → Option Nat} {J : Nat → Nat → Int32} {A : Nat → Prop} {L : List Nat} {a j : Nat} {x : Int32} (hD : va_D A (va_pl L (pF cy K N T I Q J))) (hL : a ∈ L) (h : K a = 3) (hj : (va_pl L (pF cy K N T I Q J))[j]? = some (a, .inr (3, [.int (I a 0), .int (I a 1), .int (I a 2), .int (I a 3), .int (I a 4), .int (I a 5)]))) : (va_pl L (pF cy K N T I Q J)).set j (a, .inr (3, [.int (I a 0), .int (I a 1), .int x, .int (I a 3), .int (I a 4), .int (I a 5)])) = va_pl L (pF cy K N T (p2 I a 2 x) Q J) := by
  have hs := va_pl_set (X := []) (e := .inr (3, [.int (I a 0), .int (I a 1), .int x, .int (I a 3), .int (I a 4), .int (I a 5)])) hD hL (hj.trans (by rw [pF_3 h]))
  refine hs.trans ?_
  show [] ++ _ = _
  rw [List.nil_append]
  refine va_pl_congr (fun b => ?_)
  by_cases hb : b = a
  · subst hb
    rw [va_up_self, pF_3 h]
    simp [p2, va_up]
  · rw [va_up_ne _ _ hb]
    simp [pF, p2, va_up, hb]
theorem pP_3_3 {cy : Nat → ClassId} {K N : Nat → Nat} {T : Nat → Nat → Nat} {I : Nat → Nat → Int32} {Q : Nat → Nat → Option Nat} {J : Nat → Nat → Int32} {A : Nat → Prop} {L : List Nat} {a j : Nat} {x : Int32} (hD : va_D A (va_pl L (pF cy K N T I Q J))) (hL : a ∈ L) (h : K a = 3) (hj : (va_pl L (pF cy K N T I Q J))[j]? = some (a, .inr (3, [.int (I a 0), .int (I a 1), .int (I a 2), .int (I a 3), .int (I a 4), .int (I a 5)]))) : (va_pl L (pF cy K N T I Q J)).set j (a, .inr (3, [.int (I a 0), .int (I a 1), .int (I a 2), .int x, .int (I a 4), .int (I a 5)])) = va_pl L (pF cy K N T (p2 I a 3 x) Q J) := by
  have hs := va_pl_set (X := []) (e := .inr (3, [.int (I a 0), .int (I a 1), .int (I a 2), .int x, .int (I a 4), .int (I a 5)])) hD hL (hj.trans (by rw [pF_3 h]))
  refine hs.trans ?_
  show [] ++ _ = _
  rw [List.nil_append]
  refine va_pl_congr (fun b => ?_)
  by_cases hb : b = a
  · subst hb
    rw [va_up_self, pF_3 h]
    simp [p2, va_up]
  · rw [va_up_ne _ _ hb]
    simp [pF, p2, va_up, hb]
theorem pP_3_4 {cy : Nat → ClassId} {K N : Nat → Nat} {T : Nat → Nat → Nat} {I : Nat → Nat → Int32} {Q : Nat → Nat → Option Nat} {J : Nat → Nat → Int32} {A : Nat → Prop} {L : List Nat} {a j : Nat} {x : Int32} (hD : va_D A (va_pl L (pF cy K N T I Q J))) (hL : a ∈ L) (h : K a = 3) (hj : (va_pl L (pF cy K N T I Q J))[j]? = some (a, .inr (3, [.int (I a 0), .int (I a 1), .int (I a 2), .int (I a 3), .int (I a 4), .int (I a 5)]))) : (va_pl L (pF cy K N T I Q J)).set j (a, .inr (3, [.int (I a 0), .int (I a 1), .int (I a 2), .int (I a 3), .int x, .int (I a 5)])) = va_pl L (pF cy K N T (p2 I a 4 x) Q J) := by
  have hs := va_pl_set (X := []) (e := .inr (3, [.int (I a 0), .int (I a 1), .int (I a 2), .int (I a 3), .int x, .int (I a 5)])) hD hL (hj.trans (by rw [pF_3 h]))
  refine hs.trans ?_
  show [] ++ _ = _
  rw [List.nil_append]
  refine va_pl_congr (fun b => ?_)
  by_cases hb : b = a
  · subst hb
    rw [va_up_self, pF_3 h]
    simp [p2, va_up]
  · rw [va_up_ne _ _ hb]
    simp [pF, p2, va_up, hb]
theorem pP_3_5 {cy : Nat → ClassId} {K N : Nat → Nat} {T : Nat → Nat → Nat} {I : Nat → Nat → Int32} {Q : Nat → Nat → Option Nat} {J : Nat → Nat → Int32} {A : Nat → Prop} {L : List Nat} {a j : Nat} {x : Int32} (hD : va_D A (va_pl L (pF cy K N T I Q J))) (hL : a ∈ L) (h : K a = 3) (hj : (va_pl L (pF cy K N T I Q J))[j]? = some (a, .inr (3, [.int (I a 0), .int (I a 1), .int (I a 2), .int (I a 3), .int (I a 4), .int (I a 5)]))) : (va_pl L (pF cy K N T I Q J)).set j (a, .inr (3, [.int (I a 0), .int (I a 1), .int (I a 2), .int (I a 3), .int (I a 4), .int x])) = va_pl L (pF cy K N T (p2 I a 5 x) Q J) := by
  have hs := va_pl_set (X := []) (e := .inr (3, [.int (I a 0), .int (I a 1), .int (I a 2), .int (I a 3), .int (I a 4), .int x])) hD hL (hj.trans (by rw [pF_3 h]))
  refine hs.trans ?_
  show [] ++ _ = _
  rw [List.nil_append]
  refine va_pl_congr (fun b => ?_)
  by_cases hb : b = a
  · subst hb
    rw [va_up_self, pF_3 h]
    simp [p2, va_up]
  · rw [va_up_ne _ _ hb]
    simp [pF, p2, va_up, hb]
theorem pF_4 {cy : Nat → ClassId} {K N : Nat → Nat} {T : Nat → Nat → Nat} {I : Nat → Nat → Int32} {Q : Nat → Nat → Option Nat} {J : Nat → Nat → Int32} {a : Nat} (h : K a = 4) : pF cy K N T I Q J a = .inr (4, [.ref (T a 0), .int (I a 1), .int (I a 2), .int (I a 3), .int (I a 4), .int (I a 5), .int (I a 6)]) := by simp [pF, h]
theorem pG_4 {cy : Nat → ClassId} {K N : Nat → Nat} {T : Nat → Nat → Nat} {I : Nat → Nat → Int32} {Q : Nat → Nat → Option Nat} {J : Nat → Nat → Int32} {L : List Nat} {a : Nat} (hL : a ∈ L) (h : K a = 4) : ∃ j : Nat, (va_pl L (pF cy K N T I Q J))[j]? = some (a, .inr (4, [.ref (T a 0), .int (I a 1), .int (I a 2), .int (I a 3), .int (I a 4), .int (I a 5), .int (I a 6)])) := by
  obtain ⟨j, hj⟩ := va_pl_get (X := []) (f := pF cy K N T I Q J) hL
  exact ⟨j, hj.trans (by rw [pF_4 h])⟩
theorem pP_4_1 {cy : Nat → ClassId} {K N : Nat → Nat} {T : Nat → Nat → Nat} {I : Nat → Nat → Int32} {Q : Nat → Nat → Option Nat} {J : Nat → Nat → Int32} {A : Nat → Prop} {L : List Nat} {a j : Nat} {x : Int32} (hD : va_D A (va_pl L (pF cy K N T I Q J))) (hL : a ∈ L) (h : K a = 4) (hj : (va_pl L (pF cy K N T I Q J))[j]? = some (a, .inr (4, [.ref (T a 0), .int (I a 1), .int (I a 2), .int (I a 3), .int (I a 4), .int (I a 5), .int (I a 6)]))) : (va_pl L (pF cy K N T I Q J)).set j (a, .inr (4, [.ref (T a 0), .int x, .int (I a 2), .int (I a 3), .int (I a 4), .int (I a 5), .int (I a 6)])) = va_pl L (pF cy K N T (p2 I a 1 x) Q J) := by
  have hs := va_pl_set (X := []) (e := .inr (4, [.ref (T a 0), .int x, .int (I a 2), .int (I a 3), .int (I a 4), .int (I a 5), .int (I a 6)])) hD hL (hj.trans (by rw [pF_4 h]))
  refine hs.trans ?_
  show [] ++ _ = _
  rw [List.nil_append]
  refine va_pl_congr (fun b => ?_)
  by_cases hb : b = a
  · subst hb
    rw [va_up_self, pF_4 h]
    simp [p2, va_up]
  · rw [va_up_ne _ _ hb]
    simp [pF, p2, va_up, hb]
theorem pP_4_2 {cy : Nat → ClassId} {K N : Nat → Nat} {T : Nat → Nat → Nat} {I : Nat → Nat → Int32} {Q : Nat → Nat → Option Nat} {J : Nat → Nat → Int32} {A : Nat → Prop} {L : List Nat} {a j : Nat} {x : Int32} (hD : va_D A (va_pl L (pF cy K N T I Q J))) (hL : a ∈ L) (h : K a = 4) (hj : (va_pl L (pF cy K N T I Q J))[j]? = some (a, .inr (4, [.ref (T a 0), .int (I a 1), .int (I a 2), .int (I a 3), .int (I a 4), .int (I a 5), .int (I a 6)]))) : (va_pl L (pF cy K N T I Q J)).set j (a, .inr (4, [.ref (T a 0), .int (I a 1), .int x, .int (I a 3), .int (I a 4), .int (I a 5), .int (I a 6)])) = va_pl L (pF cy K N T (p2 I a 2 x) Q J) := by
  have hs := va_pl_set (X := []) (e := .inr (4, [.ref (T a 0), .int (I a 1), .int x, .int (I a 3), .int (I a 4), .int (I a 5), .int (I a 6)])) hD hL (hj.trans (by rw [pF_4 h]))
  refine hs.trans ?_
  show [] ++ _ = _
  rw [List.nil_append]
  refine va_pl_congr (fun b => ?_)
  by_cases hb : b = a
  · subst hb
    rw [va_up_self, pF_4 h]
    simp [p2, va_up]
  · rw [va_up_ne _ _ hb]
    simp [pF, p2, va_up, hb]
theorem pP_4_3 {cy : Nat → ClassId} {K N : Nat → Nat} {T : Nat → Nat → Nat} {I : Nat → Nat → Int32} {Q : Nat → Nat → Option Nat} {J : Nat → Nat → Int32} {A : Nat → Prop} {L : List Nat} {a j : Nat} {x : Int32} (hD : va_D A (va_pl L (pF cy K N T I Q J))) (hL : a ∈ L) (h : K a = 4) (hj : (va_pl L (pF cy K N T I Q J))[j]? = some (a, .inr (4, [.ref (T a 0), .int (I a 1), .int (I a 2), .int (I a 3), .int (I a 4), .int (I a 5), .int (I a 6)]))) : (va_pl L (pF cy K N T I Q J)).set j (a, .inr (4, [.ref (T a 0), .int (I a 1), .int (I a 2), .int x, .int (I a 4), .int (I a 5), .int (I a 6)])) = va_pl L (pF cy K N T (p2 I a 3 x) Q J) := by
  have hs := va_pl_set (X := []) (e := .inr (4, [.ref (T a 0), .int (I a 1), .int (I a 2), .int x, .int (I a 4), .int (I a 5), .int (I a 6)])) hD hL (hj.trans (by rw [pF_4 h]))
  refine hs.trans ?_
  show [] ++ _ = _
  rw [List.nil_append]
  refine va_pl_congr (fun b => ?_)
  by_cases hb : b = a
  · subst hb
    rw [va_up_self, pF_4 h]
    simp [p2, va_up]
  · rw [va_up_ne _ _ hb]
    simp [pF, p2, va_up, hb]
theorem pP_4_4 {cy : Nat → ClassId} {K N : Nat → Nat} {T : Nat → Nat → Nat} {I : Nat → Nat → Int32} {Q : Nat → Nat → Option Nat} {J : Nat → Nat → Int32} {A : Nat → Prop} {L : List Nat} {a j : Nat} {x : Int32} (hD : va_D A (va_pl L (pF cy K N T I Q J))) (hL : a ∈ L) (h : K a = 4) (hj : (va_pl L (pF cy K N T I Q J))[j]? = some (a, .inr (4, [.ref (T a 0), .int (I a 1), .int (I a 2), .int (I a 3), .int (I a 4), .int (I a 5), .int (I a 6)]))) : (va_pl L (pF cy K N T I Q J)).set j (a, .inr (4, [.ref (T a 0), .int (I a 1), .int (I a 2), .int (I a 3), .int x, .int (I a 5), .int (I a 6)])) = va_pl L (pF cy K N T (p2 I a 4 x) Q J) := by
  have hs := va_pl_set (X := []) (e := .inr (4, [.ref (T a 0), .int (I a 1), .int (I a 2), .int (I a 3), .int x, .int (I a 5), .int (I a 6)])) hD hL (hj.trans (by rw [pF_4 h]))
  refine hs.trans ?_
  show [] ++ _ = _
  rw [List.nil_append]
  refine va_pl_congr (fun b => ?_)
  by_cases hb : b = a
  · subst hb
    rw [va_up_self, pF_4 h]
    simp [p2, va_up]
  · rw [va_up_ne _ _ hb]
    simp [pF, p2, va_up, hb]
theorem pP_4_5 {cy : Nat → ClassId} {K N : Nat → Nat} {T : Nat → Nat → Nat} {I : Nat → Nat → Int32} {Q : Nat → Nat → Option Nat} {J : Nat → Nat → Int32} {A : Nat → Prop} {L : List Nat} {a j : Nat} {x : Int32} (hD : va_D A (va_pl L (pF cy K N T I Q J))) (hL : a ∈ L) (h : K a = 4) (hj : (va_pl L (pF cy K N T I Q J))[j]? = some (a, .inr (4, [.ref (T a 0), .int (I a 1), .int (I a 2), .int (I a 3), .int (I a 4), .int (I a 5), .int (I a 6)]))) : (va_pl L (pF cy K N T I Q J)).set j (a, .inr (4, [.ref (T a 0), .int (I a 1), .int (I a 2), .int (I a 3), .int (I a 4), .int x, .int (I a 6)])) = va_pl L (pF cy K N T (p2 I a 5 x) Q J) := by
  have hs := va_pl_set (X := []) (e := .inr (4, [.ref (T a 0), .int (I a 1), .int (I a 2), .int (I a 3), .int (I a 4), .int x, .int (I a 6)])) hD hL (hj.trans (by rw [pF_4 h]))
  refine hs.trans ?_
  show [] ++ _ = _
  rw [List.nil_append]
  refine va_pl_congr (fun b => ?_)
  by_cases hb : b = a
  · subst hb
    rw [va_up_self, pF_4 h]
    simp [p2, va_up]
  · rw [va_up_ne _ _ hb]
    simp [pF, p2, va_up, hb]
theorem pP_4_6 {cy : Nat → ClassId} {K N : Nat → Nat} {T : Nat → Nat → Nat} {I : Nat → Nat → Int32} {Q : Nat → Nat → Option Nat} {J : Nat → Nat → Int32} {A : Nat → Prop} {L : List Nat} {a j : Nat} {x : Int32} (hD : va_D A (va_pl L (pF cy K N T I Q J))) (hL : a ∈ L) (h : K a = 4) (hj : (va_pl L (pF cy K N T I Q J))[j]? = some (a, .inr (4, [.ref (T a 0), .int (I a 1), .int (I a 2), .int (I a 3), .int (I a 4), .int (I a 5), .int (I a 6)]))) : (va_pl L (pF cy K N T I Q J)).set j (a, .inr (4, [.ref (T a 0), .int (I a 1), .int (I a 2), .int (I a 3), .int (I a 4), .int (I a 5), .int x])) = va_pl L (pF cy K N T (p2 I a 6 x) Q J) := by
  have hs := va_pl_set (X := []) (e := .inr (4, [.ref (T a 0), .int (I a 1), .int (I a 2), .int (I a 3), .int (I a 4), .int (I a 5), .int x])) hD hL (hj.trans (by rw [pF_4 h]))
  refine hs.trans ?_
  show [] ++ _ = _
  rw [List.nil_append]
  refine va_pl_congr (fun b => ?_)
  by_cases hb : b = a
  · subst hb
    rw [va_up_self, pF_4 h]
    simp [p2, va_up]
  · rw [va_up_ne _ _ hb]
    simp [pF, p2, va_up, hb]
theorem pF_5 {cy : Nat → ClassId} {K N : Nat → Nat} {T : Nat → Nat → Nat} {I : Nat → Nat → Int32} {Q : Nat → Nat → Option Nat} {J : Nat → Nat → Int32} {a : Nat} (h : K a = 5) : pF cy K N T I Q J a = .inr (5, [.ref (T a 0), .ref (T a 1), .ref (T a 2), .int (I a 3), .int (I a 4), va_rf (Q a 5)]) := by simp [pF, h]
theorem pG_5 {cy : Nat → ClassId} {K N : Nat → Nat} {T : Nat → Nat → Nat} {I : Nat → Nat → Int32} {Q : Nat → Nat → Option Nat} {J : Nat → Nat → Int32} {L : List Nat} {a : Nat} (hL : a ∈ L) (h : K a = 5) : ∃ j : Nat, (va_pl L (pF cy K N T I Q J))[j]? = some (a, .inr (5, [.ref (T a 0), .ref (T a 1), .ref (T a 2), .int (I a 3), .int (I a 4), va_rf (Q a 5)])) := by
  obtain ⟨j, hj⟩ := va_pl_get (X := []) (f := pF cy K N T I Q J) hL
  exact ⟨j, hj.trans (by rw [pF_5 h])⟩
theorem pP_5_3 {cy : Nat → ClassId} {K N : Nat → Nat} {T : Nat → Nat → Nat} {I : Nat → Nat → Int32} {Q : Nat → Nat → Option Nat} {J : Nat → Nat → Int32} {A : Nat → Prop} {L : List Nat} {a j : Nat} {x : Int32} (hD : va_D A (va_pl L (pF cy K N T I Q J))) (hL : a ∈ L) (h : K a = 5) (hj : (va_pl L (pF cy K N T I Q J))[j]? = some (a, .inr (5, [.ref (T a 0), .ref (T a 1), .ref (T a 2), .int (I a 3), .int (I a 4), va_rf (Q a 5)]))) : (va_pl L (pF cy K N T I Q J)).set j (a, .inr (5, [.ref (T a 0), .ref (T a 1), .ref (T a 2), .int x, .int (I a 4), va_rf (Q a 5)])) = va_pl L (pF cy K N T (p2 I a 3 x) Q J) := by
  have hs := va_pl_set (X := []) (e := .inr (5, [.ref (T a 0), .ref (T a 1), .ref (T a 2), .int x, .int (I a 4), va_rf (Q a 5)])) hD hL (hj.trans (by rw [pF_5 h]))
  refine hs.trans ?_
  show [] ++ _ = _
  rw [List.nil_append]
  refine va_pl_congr (fun b => ?_)
  by_cases hb : b = a
  · subst hb
    rw [va_up_self, pF_5 h]
    simp [p2, va_up]
  · rw [va_up_ne _ _ hb]
    simp [pF, p2, va_up, hb]
theorem pP_5_4 {cy : Nat → ClassId} {K N : Nat → Nat} {T : Nat → Nat → Nat} {I : Nat → Nat → Int32} {Q : Nat → Nat → Option Nat} {J : Nat → Nat → Int32} {A : Nat → Prop} {L : List Nat} {a j : Nat} {x : Int32} (hD : va_D A (va_pl L (pF cy K N T I Q J))) (hL : a ∈ L) (h : K a = 5) (hj : (va_pl L (pF cy K N T I Q J))[j]? = some (a, .inr (5, [.ref (T a 0), .ref (T a 1), .ref (T a 2), .int (I a 3), .int (I a 4), va_rf (Q a 5)]))) : (va_pl L (pF cy K N T I Q J)).set j (a, .inr (5, [.ref (T a 0), .ref (T a 1), .ref (T a 2), .int (I a 3), .int x, va_rf (Q a 5)])) = va_pl L (pF cy K N T (p2 I a 4 x) Q J) := by
  have hs := va_pl_set (X := []) (e := .inr (5, [.ref (T a 0), .ref (T a 1), .ref (T a 2), .int (I a 3), .int x, va_rf (Q a 5)])) hD hL (hj.trans (by rw [pF_5 h]))
  refine hs.trans ?_
  show [] ++ _ = _
  rw [List.nil_append]
  refine va_pl_congr (fun b => ?_)
  by_cases hb : b = a
  · subst hb
    rw [va_up_self, pF_5 h]
    simp [p2, va_up]
  · rw [va_up_ne _ _ hb]
    simp [pF, p2, va_up, hb]
theorem pP_5_5 {cy : Nat → ClassId} {K N : Nat → Nat} {T : Nat → Nat → Nat} {I : Nat → Nat → Int32} {Q : Nat → Nat → Option Nat} {J : Nat → Nat → Int32} {A : Nat → Prop} {L : List Nat} {a j : Nat} {x : Option Nat} (hD : va_D A (va_pl L (pF cy K N T I Q J))) (hL : a ∈ L) (h : K a = 5) (hj : (va_pl L (pF cy K N T I Q J))[j]? = some (a, .inr (5, [.ref (T a 0), .ref (T a 1), .ref (T a 2), .int (I a 3), .int (I a 4), va_rf (Q a 5)]))) : (va_pl L (pF cy K N T I Q J)).set j (a, .inr (5, [.ref (T a 0), .ref (T a 1), .ref (T a 2), .int (I a 3), .int (I a 4), va_rf x])) = va_pl L (pF cy K N T I (p2 Q a 5 x) J) := by
  have hs := va_pl_set (X := []) (e := .inr (5, [.ref (T a 0), .ref (T a 1), .ref (T a 2), .int (I a 3), .int (I a 4), va_rf x])) hD hL (hj.trans (by rw [pF_5 h]))
  refine hs.trans ?_
  show [] ++ _ = _
  rw [List.nil_append]
  refine va_pl_congr (fun b => ?_)
  by_cases hb : b = a
  · subst hb
    rw [va_up_self, pF_5 h]
    simp [p2, va_up]
  · rw [va_up_ne _ _ hb]
    simp [pF, p2, va_up, hb]
theorem pF_6 {cy : Nat → ClassId} {K N : Nat → Nat} {T : Nat → Nat → Nat} {I : Nat → Nat → Int32} {Q : Nat → Nat → Option Nat} {J : Nat → Nat → Int32} {a : Nat} (h : K a = 6) : pF cy K N T I Q J a = .inr (6, [.ref (T a 0), .int (I a 1), .int (I a 2), .int (I a 3), .int (I a 4), .int (I a 5), .int (I a 6)]) := by simp [pF, h]
theorem pG_6 {cy : Nat → ClassId} {K N : Nat → Nat} {T : Nat → Nat → Nat} {I : Nat → Nat → Int32} {Q : Nat → Nat → Option Nat} {J : Nat → Nat → Int32} {L : List Nat} {a : Nat} (hL : a ∈ L) (h : K a = 6) : ∃ j : Nat, (va_pl L (pF cy K N T I Q J))[j]? = some (a, .inr (6, [.ref (T a 0), .int (I a 1), .int (I a 2), .int (I a 3), .int (I a 4), .int (I a 5), .int (I a 6)])) := by
  obtain ⟨j, hj⟩ := va_pl_get (X := []) (f := pF cy K N T I Q J) hL
  exact ⟨j, hj.trans (by rw [pF_6 h])⟩
theorem pP_6_1 {cy : Nat → ClassId} {K N : Nat → Nat} {T : Nat → Nat → Nat} {I : Nat → Nat → Int32} {Q : Nat → Nat → Option Nat} {J : Nat → Nat → Int32} {A : Nat → Prop} {L : List Nat} {a j : Nat} {x : Int32} (hD : va_D A (va_pl L (pF cy K N T I Q J))) (hL : a ∈ L) (h : K a = 6) (hj : (va_pl L (pF cy K N T I Q J))[j]? = some (a, .inr (6, [.ref (T a 0), .int (I a 1), .int (I a 2), .int (I a 3), .int (I a 4), .int (I a 5), .int (I a 6)]))) : (va_pl L (pF cy K N T I Q J)).set j (a, .inr (6, [.ref (T a 0), .int x, .int (I a 2), .int (I a 3), .int (I a 4), .int (I a 5), .int (I a 6)])) = va_pl L (pF cy K N T (p2 I a 1 x) Q J) := by
  have hs := va_pl_set (X := []) (e := .inr (6, [.ref (T a 0), .int x, .int (I a 2), .int (I a 3), .int (I a 4), .int (I a 5), .int (I a 6)])) hD hL (hj.trans (by rw [pF_6 h]))
  refine hs.trans ?_
  show [] ++ _ = _
  rw [List.nil_append]
  refine va_pl_congr (fun b => ?_)
  by_cases hb : b = a
  · subst hb
    rw [va_up_self, pF_6 h]
    simp [p2, va_up]
  · rw [va_up_ne _ _ hb]
    simp [pF, p2, va_up, hb]
theorem pP_6_2 {cy : Nat → ClassId} {K N : Nat → Nat} {T : Nat → Nat → Nat} {I : Nat → Nat → Int32} {Q : Nat → Nat → Option Nat} {J : Nat → Nat → Int32} {A : Nat → Prop} {L : List Nat} {a j : Nat} {x : Int32} (hD : va_D A (va_pl L (pF cy K N T I Q J))) (hL : a ∈ L) (h : K a = 6) (hj : (va_pl L (pF cy K N T I Q J))[j]? = some (a, .inr (6, [.ref (T a 0), .int (I a 1), .int (I a 2), .int (I a 3), .int (I a 4), .int (I a 5), .int (I a 6)]))) : (va_pl L (pF cy K N T I Q J)).set j (a, .inr (6, [.ref (T a 0), .int (I a 1), .int x, .int (I a 3), .int (I a 4), .int (I a 5), .int (I a 6)])) = va_pl L (pF cy K N T (p2 I a 2 x) Q J) := by
  have hs := va_pl_set (X := []) (e := .inr (6, [.ref (T a 0), .int (I a 1), .int x, .int (I a 3), .int (I a 4), .int (I a 5), .int (I a 6)])) hD hL (hj.trans (by rw [pF_6 h]))
  refine hs.trans ?_
  show [] ++ _ = _
  rw [List.nil_append]
  refine va_pl_congr (fun b => ?_)
  by_cases hb : b = a
  · subst hb
    rw [va_up_self, pF_6 h]
    simp [p2, va_up]
  · rw [va_up_ne _ _ hb]
    simp [pF, p2, va_up, hb]
theorem pP_6_3 {cy : Nat → ClassId} {K N : Nat → Nat} {T : Nat → Nat → Nat} {I : Nat → Nat → Int32} {Q : Nat → Nat → Option Nat} {J : Nat → Nat → Int32} {A : Nat → Prop} {L : List Nat} {a j : Nat} {x : Int32} (hD : va_D A (va_pl L (pF cy K N T I Q J))) (hL : a ∈ L) (h : K a = 6) (hj : (va_pl L (pF cy K N T I Q J))[j]? = some (a, .inr (6, [.ref (T a 0), .int (I a 1), .int (I a 2), .int (I a 3), .int (I a 4), .int (I a 5), .int (I a 6)]))) : (va_pl L (pF cy K N T I Q J)).set j (a, .inr (6, [.ref (T a 0), .int (I a 1), .int (I a 2), .int x, .int (I a 4), .int (I a 5), .int (I a 6)])) = va_pl L (pF cy K N T (p2 I a 3 x) Q J) := by
  have hs := va_pl_set (X := []) (e := .inr (6, [.ref (T a 0), .int (I a 1), .int (I a 2), .int x, .int (I a 4), .int (I a 5), .int (I a 6)])) hD hL (hj.trans (by rw [pF_6 h]))
  refine hs.trans ?_
  show [] ++ _ = _
  rw [List.nil_append]
  refine va_pl_congr (fun b => ?_)
  by_cases hb : b = a
  · subst hb
    rw [va_up_self, pF_6 h]
    simp [p2, va_up]
  · rw [va_up_ne _ _ hb]
    simp [pF, p2, va_up, hb]
theorem pP_6_4 {cy : Nat → ClassId} {K N : Nat → Nat} {T : Nat → Nat → Nat} {I : Nat → Nat → Int32} {Q : Nat → Nat → Option Nat} {J : Nat → Nat → Int32} {A : Nat → Prop} {L : List Nat} {a j : Nat} {x : Int32} (hD : va_D A (va_pl L (pF cy K N T I Q J))) (hL : a ∈ L) (h : K a = 6) (hj : (va_pl L (pF cy K N T I Q J))[j]? = some (a, .inr (6, [.ref (T a 0), .int (I a 1), .int (I a 2), .int (I a 3), .int (I a 4), .int (I a 5), .int (I a 6)]))) : (va_pl L (pF cy K N T I Q J)).set j (a, .inr (6, [.ref (T a 0), .int (I a 1), .int (I a 2), .int (I a 3), .int x, .int (I a 5), .int (I a 6)])) = va_pl L (pF cy K N T (p2 I a 4 x) Q J) := by
  have hs := va_pl_set (X := []) (e := .inr (6, [.ref (T a 0), .int (I a 1), .int (I a 2), .int (I a 3), .int x, .int (I a 5), .int (I a 6)])) hD hL (hj.trans (by rw [pF_6 h]))
  refine hs.trans ?_
  show [] ++ _ = _
  rw [List.nil_append]
  refine va_pl_congr (fun b => ?_)
  by_cases hb : b = a
  · subst hb
    rw [va_up_self, pF_6 h]
    simp [p2, va_up]
  · rw [va_up_ne _ _ hb]
    simp [pF, p2, va_up, hb]
theorem pP_6_5 {cy : Nat → ClassId} {K N : Nat → Nat} {T : Nat → Nat → Nat} {I : Nat → Nat → Int32} {Q : Nat → Nat → Option Nat} {J : Nat → Nat → Int32} {A : Nat → Prop} {L : List Nat} {a j : Nat} {x : Int32} (hD : va_D A (va_pl L (pF cy K N T I Q J))) (hL : a ∈ L) (h : K a = 6) (hj : (va_pl L (pF cy K N T I Q J))[j]? = some (a, .inr (6, [.ref (T a 0), .int (I a 1), .int (I a 2), .int (I a 3), .int (I a 4), .int (I a 5), .int (I a 6)]))) : (va_pl L (pF cy K N T I Q J)).set j (a, .inr (6, [.ref (T a 0), .int (I a 1), .int (I a 2), .int (I a 3), .int (I a 4), .int x, .int (I a 6)])) = va_pl L (pF cy K N T (p2 I a 5 x) Q J) := by
  have hs := va_pl_set (X := []) (e := .inr (6, [.ref (T a 0), .int (I a 1), .int (I a 2), .int (I a 3), .int (I a 4), .int x, .int (I a 6)])) hD hL (hj.trans (by rw [pF_6 h]))
  refine hs.trans ?_
  show [] ++ _ = _
  rw [List.nil_append]
  refine va_pl_congr (fun b => ?_)
  by_cases hb : b = a
  · subst hb
    rw [va_up_self, pF_6 h]
    simp [p2, va_up]
  · rw [va_up_ne _ _ hb]
    simp [pF, p2, va_up, hb]
theorem pP_6_6 {cy : Nat → ClassId} {K N : Nat → Nat} {T : Nat → Nat → Nat} {I : Nat → Nat → Int32} {Q : Nat → Nat → Option Nat} {J : Nat → Nat → Int32} {A : Nat → Prop} {L : List Nat} {a j : Nat} {x : Int32} (hD : va_D A (va_pl L (pF cy K N T I Q J))) (hL : a ∈ L) (h : K a = 6) (hj : (va_pl L (pF cy K N T I Q J))[j]? = some (a, .inr (6, [.ref (T a 0), .int (I a 1), .int (I a 2), .int (I a 3), .int (I a 4), .int (I a 5), .int (I a 6)]))) : (va_pl L (pF cy K N T I Q J)).set j (a, .inr (6, [.ref (T a 0), .int (I a 1), .int (I a 2), .int (I a 3), .int (I a 4), .int (I a 5), .int x])) = va_pl L (pF cy K N T (p2 I a 6 x) Q J) := by
  have hs := va_pl_set (X := []) (e := .inr (6, [.ref (T a 0), .int (I a 1), .int (I a 2), .int (I a 3), .int (I a 4), .int (I a 5), .int x])) hD hL (hj.trans (by rw [pF_6 h]))
  refine hs.trans ?_
  show [] ++ _ = _
  rw [List.nil_append]
  refine va_pl_congr (fun b => ?_)
  by_cases hb : b = a
  · subst hb
    rw [va_up_self, pF_6 h]
    simp [p2, va_up]
  · rw [va_up_ne _ _ hb]
    simp [pF, p2, va_up, hb]
theorem pF_8 {cy : Nat → ClassId} {K N : Nat → Nat} {T : Nat → Nat → Nat} {I : Nat → Nat → Int32} {Q : Nat → Nat → Option Nat} {J : Nat → Nat → Int32} {a : Nat} (h : K a = 8) : pF cy K N T I Q J a = .inl ((cy 8), 60, .inr (.inr (.inr (.inr (Q a))))) := by simp [pF, h]
theorem pG_8 {cy : Nat → ClassId} {K N : Nat → Nat} {T : Nat → Nat → Nat} {I : Nat → Nat → Int32} {Q : Nat → Nat → Option Nat} {J : Nat → Nat → Int32} {L : List Nat} {a : Nat} (hL : a ∈ L) (h : K a = 8) : ∃ j : Nat, (va_pl L (pF cy K N T I Q J))[j]? = some (a, .inl ((cy 8), 60, .inr (.inr (.inr (.inr (Q a)))))) := by
  obtain ⟨j, hj⟩ := va_pl_get (X := []) (f := pF cy K N T I Q J) hL
  exact ⟨j, hj.trans (by rw [pF_8 h])⟩
theorem pS_8 {cy : Nat → ClassId} {K N : Nat → Nat} {T : Nat → Nat → Nat} {I : Nat → Nat → Int32} {Q : Nat → Nat → Option Nat} {J : Nat → Nat → Int32} {A : Nat → Prop} {L : List Nat} {a j i : Nat} {x : Option Nat} (hD : va_D A (va_pl L (pF cy K N T I Q J))) (hL : a ∈ L) (h : K a = 8) (hj : (va_pl L (pF cy K N T I Q J))[j]? = some (a, .inl ((cy 8), 60, .inr (.inr (.inr (.inr (Q a))))))) : (va_pl L (pF cy K N T I Q J)).set j (a, .inl ((cy 8), 60, .inr (.inr (.inr (.inr (va_up (Q a) i x)))))) = va_pl L (pF cy K N T I (p2 Q a i x) J) := by
  have hs := va_pl_set (X := []) (e := .inl ((cy 8), 60, .inr (.inr (.inr (.inr (va_up (Q a) i x)))))) hD hL (hj.trans (by rw [pF_8 h]))
  refine hs.trans ?_
  show [] ++ _ = _
  rw [List.nil_append]
  refine va_pl_congr (fun b => ?_)
  by_cases hb : b = a
  · subst hb
    rw [va_up_self, pF_8 h]
    simp [p2, va_up]
  · rw [va_up_ne _ _ hb]
    simp [pF, p2, va_up, hb]
theorem pF_9 {cy : Nat → ClassId} {K N : Nat → Nat} {T : Nat → Nat → Nat} {I : Nat → Nat → Int32} {Q : Nat → Nat → Option Nat} {J : Nat → Nat → Int32} {a : Nat} (h : K a = 9) : pF cy K N T I Q J a = .inl ((cy 9), 4, .inr (.inr (.inr (.inr (Q a))))) := by simp [pF, h]
theorem pG_9 {cy : Nat → ClassId} {K N : Nat → Nat} {T : Nat → Nat → Nat} {I : Nat → Nat → Int32} {Q : Nat → Nat → Option Nat} {J : Nat → Nat → Int32} {L : List Nat} {a : Nat} (hL : a ∈ L) (h : K a = 9) : ∃ j : Nat, (va_pl L (pF cy K N T I Q J))[j]? = some (a, .inl ((cy 9), 4, .inr (.inr (.inr (.inr (Q a)))))) := by
  obtain ⟨j, hj⟩ := va_pl_get (X := []) (f := pF cy K N T I Q J) hL
  exact ⟨j, hj.trans (by rw [pF_9 h])⟩
theorem pS_9 {cy : Nat → ClassId} {K N : Nat → Nat} {T : Nat → Nat → Nat} {I : Nat → Nat → Int32} {Q : Nat → Nat → Option Nat} {J : Nat → Nat → Int32} {A : Nat → Prop} {L : List Nat} {a j i : Nat} {x : Option Nat} (hD : va_D A (va_pl L (pF cy K N T I Q J))) (hL : a ∈ L) (h : K a = 9) (hj : (va_pl L (pF cy K N T I Q J))[j]? = some (a, .inl ((cy 9), 4, .inr (.inr (.inr (.inr (Q a))))))) : (va_pl L (pF cy K N T I Q J)).set j (a, .inl ((cy 9), 4, .inr (.inr (.inr (.inr (va_up (Q a) i x)))))) = va_pl L (pF cy K N T I (p2 Q a i x) J) := by
  have hs := va_pl_set (X := []) (e := .inl ((cy 9), 4, .inr (.inr (.inr (.inr (va_up (Q a) i x)))))) hD hL (hj.trans (by rw [pF_9 h]))
  refine hs.trans ?_
  show [] ++ _ = _
  rw [List.nil_append]
  refine va_pl_congr (fun b => ?_)
  by_cases hb : b = a
  · subst hb
    rw [va_up_self, pF_9 h]
    simp [p2, va_up]
  · rw [va_up_ne _ _ hb]
    simp [pF, p2, va_up, hb]
theorem pF_10 {cy : Nat → ClassId} {K N : Nat → Nat} {T : Nat → Nat → Nat} {I : Nat → Nat → Int32} {Q : Nat → Nat → Option Nat} {J : Nat → Nat → Int32} {a : Nat} (h : K a = 10) : pF cy K N T I Q J a = .inl ((cy 10), 4, .inr (.inr (.inr (.inr (Q a))))) := by simp [pF, h]
theorem pG_10 {cy : Nat → ClassId} {K N : Nat → Nat} {T : Nat → Nat → Nat} {I : Nat → Nat → Int32} {Q : Nat → Nat → Option Nat} {J : Nat → Nat → Int32} {L : List Nat} {a : Nat} (hL : a ∈ L) (h : K a = 10) : ∃ j : Nat, (va_pl L (pF cy K N T I Q J))[j]? = some (a, .inl ((cy 10), 4, .inr (.inr (.inr (.inr (Q a)))))) := by
  obtain ⟨j, hj⟩ := va_pl_get (X := []) (f := pF cy K N T I Q J) hL
  exact ⟨j, hj.trans (by rw [pF_10 h])⟩
theorem pS_10 {cy : Nat → ClassId} {K N : Nat → Nat} {T : Nat → Nat → Nat} {I : Nat → Nat → Int32} {Q : Nat → Nat → Option Nat} {J : Nat → Nat → Int32} {A : Nat → Prop} {L : List Nat} {a j i : Nat} {x : Option Nat} (hD : va_D A (va_pl L (pF cy K N T I Q J))) (hL : a ∈ L) (h : K a = 10) (hj : (va_pl L (pF cy K N T I Q J))[j]? = some (a, .inl ((cy 10), 4, .inr (.inr (.inr (.inr (Q a))))))) : (va_pl L (pF cy K N T I Q J)).set j (a, .inl ((cy 10), 4, .inr (.inr (.inr (.inr (va_up (Q a) i x)))))) = va_pl L (pF cy K N T I (p2 Q a i x) J) := by
  have hs := va_pl_set (X := []) (e := .inl ((cy 10), 4, .inr (.inr (.inr (.inr (va_up (Q a) i x)))))) hD hL (hj.trans (by rw [pF_10 h]))
  refine hs.trans ?_
  show [] ++ _ = _
  rw [List.nil_append]
  refine va_pl_congr (fun b => ?_)
  by_cases hb : b = a
  · subst hb
    rw [va_up_self, pF_10 h]
    simp [p2, va_up]
  · rw [va_up_ne _ _ hb]
    simp [pF, p2, va_up, hb]
theorem pF_11 {cy : Nat → ClassId} {K N : Nat → Nat} {T : Nat → Nat → Nat} {I : Nat → Nat → Int32} {Q : Nat → Nat → Option Nat} {J : Nat → Nat → Int32} {a : Nat} (h : K a = 11) : pF cy K N T I Q J a = .inl ((cy 11), 6, .inr (.inr (.inr (.inr (Q a))))) := by simp [pF, h]
theorem pG_11 {cy : Nat → ClassId} {K N : Nat → Nat} {T : Nat → Nat → Nat} {I : Nat → Nat → Int32} {Q : Nat → Nat → Option Nat} {J : Nat → Nat → Int32} {L : List Nat} {a : Nat} (hL : a ∈ L) (h : K a = 11) : ∃ j : Nat, (va_pl L (pF cy K N T I Q J))[j]? = some (a, .inl ((cy 11), 6, .inr (.inr (.inr (.inr (Q a)))))) := by
  obtain ⟨j, hj⟩ := va_pl_get (X := []) (f := pF cy K N T I Q J) hL
  exact ⟨j, hj.trans (by rw [pF_11 h])⟩
theorem pS_11 {cy : Nat → ClassId} {K N : Nat → Nat} {T : Nat → Nat → Nat} {I : Nat → Nat → Int32} {Q : Nat → Nat → Option Nat} {J : Nat → Nat → Int32} {A : Nat → Prop} {L : List Nat} {a j i : Nat} {x : Option Nat} (hD : va_D A (va_pl L (pF cy K N T I Q J))) (hL : a ∈ L) (h : K a = 11) (hj : (va_pl L (pF cy K N T I Q J))[j]? = some (a, .inl ((cy 11), 6, .inr (.inr (.inr (.inr (Q a))))))) : (va_pl L (pF cy K N T I Q J)).set j (a, .inl ((cy 11), 6, .inr (.inr (.inr (.inr (va_up (Q a) i x)))))) = va_pl L (pF cy K N T I (p2 Q a i x) J) := by
  have hs := va_pl_set (X := []) (e := .inl ((cy 11), 6, .inr (.inr (.inr (.inr (va_up (Q a) i x)))))) hD hL (hj.trans (by rw [pF_11 h]))
  refine hs.trans ?_
  show [] ++ _ = _
  rw [List.nil_append]
  refine va_pl_congr (fun b => ?_)
  by_cases hb : b = a
  · subst hb
    rw [va_up_self, pF_11 h]
    simp [p2, va_up]
  · rw [va_up_ne _ _ hb]
    simp [pF, p2, va_up, hb]
theorem pF_12 {cy : Nat → ClassId} {K N : Nat → Nat} {T : Nat → Nat → Nat} {I : Nat → Nat → Int32} {Q : Nat → Nat → Option Nat} {J : Nat → Nat → Int32} {a : Nat} (h : K a = 12) : pF cy K N T I Q J a = .inl ((cy 12), 5, .inr (.inr (.inr (.inr (Q a))))) := by simp [pF, h]
theorem pG_12 {cy : Nat → ClassId} {K N : Nat → Nat} {T : Nat → Nat → Nat} {I : Nat → Nat → Int32} {Q : Nat → Nat → Option Nat} {J : Nat → Nat → Int32} {L : List Nat} {a : Nat} (hL : a ∈ L) (h : K a = 12) : ∃ j : Nat, (va_pl L (pF cy K N T I Q J))[j]? = some (a, .inl ((cy 12), 5, .inr (.inr (.inr (.inr (Q a)))))) := by
  obtain ⟨j, hj⟩ := va_pl_get (X := []) (f := pF cy K N T I Q J) hL
  exact ⟨j, hj.trans (by rw [pF_12 h])⟩
theorem pS_12 {cy : Nat → ClassId} {K N : Nat → Nat} {T : Nat → Nat → Nat} {I : Nat → Nat → Int32} {Q : Nat → Nat → Option Nat} {J : Nat → Nat → Int32} {A : Nat → Prop} {L : List Nat} {a j i : Nat} {x : Option Nat} (hD : va_D A (va_pl L (pF cy K N T I Q J))) (hL : a ∈ L) (h : K a = 12) (hj : (va_pl L (pF cy K N T I Q J))[j]? = some (a, .inl ((cy 12), 5, .inr (.inr (.inr (.inr (Q a))))))) : (va_pl L (pF cy K N T I Q J)).set j (a, .inl ((cy 12), 5, .inr (.inr (.inr (.inr (va_up (Q a) i x)))))) = va_pl L (pF cy K N T I (p2 Q a i x) J) := by
  have hs := va_pl_set (X := []) (e := .inl ((cy 12), 5, .inr (.inr (.inr (.inr (va_up (Q a) i x)))))) hD hL (hj.trans (by rw [pF_12 h]))
  refine hs.trans ?_
  show [] ++ _ = _
  rw [List.nil_append]
  refine va_pl_congr (fun b => ?_)
  by_cases hb : b = a
  · subst hb
    rw [va_up_self, pF_12 h]
    simp [p2, va_up]
  · rw [va_up_ne _ _ hb]
    simp [pF, p2, va_up, hb]
theorem pF_7 {cy : Nat → ClassId} {K N : Nat → Nat} {T : Nat → Nat → Nat} {I : Nat → Nat → Int32} {Q : Nat → Nat → Option Nat} {J : Nat → Nat → Int32} {a : Nat} (h : K a = 7) : pF cy K N T I Q J a = .inl ((cy 7), (N a), .inl (J a)) := by simp [pF, h]
theorem pG_7 {cy : Nat → ClassId} {K N : Nat → Nat} {T : Nat → Nat → Nat} {I : Nat → Nat → Int32} {Q : Nat → Nat → Option Nat} {J : Nat → Nat → Int32} {L : List Nat} {a : Nat} (hL : a ∈ L) (h : K a = 7) : ∃ j : Nat, (va_pl L (pF cy K N T I Q J))[j]? = some (a, .inl ((cy 7), (N a), .inl (J a))) := by
  obtain ⟨j, hj⟩ := va_pl_get (X := []) (f := pF cy K N T I Q J) hL
  exact ⟨j, hj.trans (by rw [pF_7 h])⟩
theorem pS_7 {cy : Nat → ClassId} {K N : Nat → Nat} {T : Nat → Nat → Nat} {I : Nat → Nat → Int32} {Q : Nat → Nat → Option Nat} {J : Nat → Nat → Int32} {A : Nat → Prop} {L : List Nat} {a j i : Nat} {x : Int32} (hD : va_D A (va_pl L (pF cy K N T I Q J))) (hL : a ∈ L) (h : K a = 7) (hj : (va_pl L (pF cy K N T I Q J))[j]? = some (a, .inl ((cy 7), (N a), .inl (J a)))) : (va_pl L (pF cy K N T I Q J)).set j (a, .inl ((cy 7), (N a), .inl (upd (J a) i x))) = va_pl L (pF cy K N T I Q (va_up J a (upd (J a) i x))) := by
  have hs := va_pl_set (X := []) (e := .inl ((cy 7), (N a), .inl (upd (J a) i x))) hD hL (hj.trans (by rw [pF_7 h]))
  refine hs.trans ?_
  show [] ++ _ = _
  rw [List.nil_append]
  refine va_pl_congr (fun b => ?_)
  by_cases hb : b = a
  · subst hb
    rw [va_up_self, pF_7 h]
    simp [p2, va_up]
  · rw [va_up_ne _ _ hb]
    simp [pF, p2, va_up, hb]
