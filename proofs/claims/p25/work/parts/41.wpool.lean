/-- what lies at an address, by its kind -/
def wF (cy : Nat → ClassId) (K N : Nat → Nat) (T : Nat → Nat → Nat) (I : Nat → Nat → Int32) (Q : Nat → Nat → Option Nat) (J : Nat → Nat → Int32) : Nat → va_E := fun a => if K a = 7 then .inr (7, [.ref (T a 0), .ref (T a 1), .ref (T a 2), .ref (T a 3), .ref (T a 4), .ref (T a 5), .ref (T a 6), .ref (T a 7), .ref (T a 8), .ref (T a 9), .ref (T a 10), .ref (T a 11), .ref (T a 12), .ref (T a 13), .ref (T a 14), .ref (T a 15), .int (I a 16), .int (I a 17)]) else if K a = 6 then .inr (6, [.ref (T a 0), .int (I a 1), .int (I a 2), .int (I a 3), .int (I a 4), .int (I a 5), .int (I a 6)]) else if K a = 21 then .inl ((cy 0), 4, .inl (J a)) else if K a = 22 then .inl ((cy 2), 4, .inr (.inr (.inr (.inr (Q a))))) else if K a = 23 then .inl ((cy 3), 5, .inr (.inr (.inr (.inr (Q a))))) else .inl ((cy 1), (N a), .inl (J a))
theorem wF_7 {cy : Nat → ClassId} {K N : Nat → Nat} {T : Nat → Nat → Nat} {I : Nat → Nat → Int32} {Q : Nat → Nat → Option Nat} {J : Nat → Nat → Int32} {a : Nat} (h : K a = 7) : wF cy K N T I Q J a = .inr (7, [.ref (T a 0), .ref (T a 1), .ref (T a 2), .ref (T a 3), .ref (T a 4), .ref (T a 5), .ref (T a 6), .ref (T a 7), .ref (T a 8), .ref (T a 9), .ref (T a 10), .ref (T a 11), .ref (T a 12), .ref (T a 13), .ref (T a 14), .ref (T a 15), .int (I a 16), .int (I a 17)]) := by simp [wF, h]
theorem wG_7 {cy : Nat → ClassId} {K N : Nat → Nat} {T : Nat → Nat → Nat} {I : Nat → Nat → Int32} {Q : Nat → Nat → Option Nat} {J : Nat → Nat → Int32} {L : List Nat} {a : Nat} (hL : a ∈ L) (h : K a = 7) : ∃ j : Nat, (va_pl L (wF cy K N T I Q J))[j]? = some (a, .inr (7, [.ref (T a 0), .ref (T a 1), .ref (T a 2), .ref (T a 3), .ref (T a 4), .ref (T a 5), .ref (T a 6), .ref (T a 7), .ref (T a 8), .ref (T a 9), .ref (T a 10), .ref (T a 11), .ref (T a 12), .ref (T a 13), .ref (T a 14), .ref (T a 15), .int (I a 16), .int (I a 17)])) := by
  obtain ⟨j, hj⟩ := va_pl_get (X := []) (f := wF cy K N T I Q J) hL
  exact ⟨j, hj.trans (by rw [wF_7 h])⟩
theorem wP_7_16 {cy : Nat → ClassId} {K N : Nat → Nat} {T : Nat → Nat → Nat} {I : Nat → Nat → Int32} {Q : Nat → Nat → Option Nat} {J : Nat → Nat → Int32} {A : Nat → Prop} {L : List Nat} {a j : Nat} {x : Int32} (hD : va_D A (va_pl L (wF cy K N T I Q J))) (hL : a ∈ L) (h : K a = 7) (hj : (va_pl L (wF cy K N T I Q J))[j]? = some (a, .inr (7, [.ref (T a 0), .ref (T a 1), .ref (T a 2), .ref (T a 3), .ref (T a 4), .ref (T a 5), .ref (T a 6), .ref (T a 7), .ref (T a 8), .ref (T a 9), .ref (T a 10), .ref (T a 11), .ref (T a 12), .ref (T a 13), .ref (T a 14), .ref (T a 15), .int (I a 16), .int (I a 17)]))) : (va_pl L (wF cy K N T I Q J)).set j (a, .inr (7, [.ref (T a 0), .ref (T a 1), .ref (T a 2), .ref (T a 3), .ref (T a 4), .ref (T a 5), .ref (T a 6), .ref (T a 7), .ref (T a 8), .ref (T a 9), .ref (T a 10), .ref (T a 11), .ref (T a 12), .ref (T a 13), .ref (T a 14), .ref (T a 15), .int x, .int (I a 17)])) = va_pl L (wF cy K N T (p2 I a 16 x) Q J) := by
  have hs := va_pl_set (X := []) (e := .inr (7, [.ref (T a 0), .ref (T a 1), .ref (T a 2), .ref (T a 3), .ref (T a 4), .ref (T a 5), .ref (T a 6), .ref (T a 7), .ref (T a 8), .ref (T a 9), .ref (T a 10), .ref (T a 11), .ref (T a 12), .ref (T a 13), .ref (T a 14), .ref (T a 15), .int x, .int (I a 17)])) hD hL (hj.trans (by rw [wF_7 h]))
  refine hs.trans ?_
  show [] ++ _ = _
  rw [List.nil_append]
  refine va_pl_congr (fun b => ?_)
  by_cases hb : b = a
  · subst hb
    rw [va_up_self, wF_7 h]
    simp [p2, va_up]
  · rw [va_up_ne _ _ hb]
    simp [wF, p2, va_up, hb]
theorem wP_7_17 {cy : Nat → ClassId} {K N : Nat → Nat} {T : Nat → Nat → Nat} {I : Nat → Nat → Int32} {Q : Nat → Nat → Option Nat} {J : Nat → Nat → Int32} {A : Nat → Prop} {L : List Nat} {a j : Nat} {x : Int32} (hD : va_D A (va_pl L (wF cy K N T I Q J))) (hL : a ∈ L) (h : K a = 7) (hj : (va_pl L (wF cy K N T I Q J))[j]? = some (a, .inr (7, [.ref (T a 0), .ref (T a 1), .ref (T a 2), .ref (T a 3), .ref (T a 4), .ref (T a 5), .ref (T a 6), .ref (T a 7), .ref (T a 8), .ref (T a 9), .ref (T a 10), .ref (T a 11), .ref (T a 12), .ref (T a 13), .ref (T a 14), .ref (T a 15), .int (I a 16), .int (I a 17)]))) : (va_pl L (wF cy K N T I Q J)).set j (a, .inr (7, [.ref (T a 0), .ref (T a 1), .ref (T a 2), .ref (T a 3), .ref (T a 4), .ref (T a 5), .ref (T a 6), .ref (T a 7), .ref (T a 8), .ref (T a 9), .ref (T a 10), .ref (T a 11), .ref (T a 12), .ref (T a 13), .ref (T a 14), .ref (T a 15), .int (I a 16), .int x])) = va_pl L (wF cy K N T (p2 I a 17 x) Q J) := by
  have hs := va_pl_set (X := []) (e := .inr (7, [.ref (T a 0), .ref (T a 1), .ref (T a 2), .ref (T a 3), .ref (T a 4), .ref (T a 5), .ref (T a 6), .ref (T a 7), .ref (T a 8), .ref (T a 9), .ref (T a 10), .ref (T a 11), .ref (T a 12), .ref (T a 13), .ref (T a 14), .ref (T a 15), .int (I a 16), .int x])) hD hL (hj.trans (by rw [wF_7 h]))
  refine hs.trans ?_
  show [] ++ _ = _
  rw [List.nil_append]
  refine va_pl_congr (fun b => ?_)
  by_cases hb : b = a
  · subst hb
    rw [va_up_self, wF_7 h]
    simp [p2, va_up]
  · rw [va_up_ne _ _ hb]
    simp [wF, p2, va_up, hb]
theorem wF_6 {cy : Nat → ClassId} {K N : Nat → Nat} {T : Nat → Nat → Nat} {I : Nat → Nat → Int32} {Q : Nat → Nat → Option Nat} {J : Nat → Nat → Int32} {a : Nat} (h : K a = 6) : wF cy K N T I Q J a = .inr (6, [.ref (T a 0), .int (I a 1), .int (I a 2), .int (I a 3), .int (I a 4), .int (I a 5), .int (I a 6)]) := by simp [wF, h]
theorem wG_6 {cy : Nat → ClassId} {K N : Nat → Nat} {T : Nat → Nat → Nat} {I : Nat → Nat → Int32} {Q : Nat → Nat → Option Nat} {J : Nat → Nat → Int32} {L : List Nat} {a : Nat} (hL : a ∈ L) (h : K a = 6) : ∃ j : Nat, (va_pl L (wF cy K N T I Q J))[j]? = some (a, .inr (6, [.ref (T a 0), .int (I a 1), .int (I a 2), .int (I a 3), .int (I a 4), .int (I a 5), .int (I a 6)])) := by
  obtain ⟨j, hj⟩ := va_pl_get (X := []) (f := wF cy K N T I Q J) hL
  exact ⟨j, hj.trans (by rw [wF_6 h])⟩
theorem wP_6_1 {cy : Nat → ClassId} {K N : Nat → Nat} {T : Nat → Nat → Nat} {I : Nat → Nat → Int32} {Q : Nat → Nat → Option Nat} {J : Nat → Nat → Int32} {A : Nat → Prop} {L : List Nat} {a j : Nat} {x : Int32} (hD : va_D A (va_pl L (wF cy K N T I Q J))) (hL : a ∈ L) (h : K a = 6) (hj : (va_pl L (wF cy K N T I Q J))[j]? = some (a, .inr (6, [.ref (T a 0), .int (I a 1), .int (I a 2), .int (I a 3), .int (I a 4), .int (I a 5), .int (I a 6)]))) : (va_pl L (wF cy K N T I Q J)).set j (a, .inr (6, [.ref (T a 0), .int x, .int (I a 2), .int (I a 3), .int (I a 4), .int (I a 5), .int (I a 6)])) = va_pl L (wF cy K N T (p2 I a 1 x) Q J) := by
  have hs := va_pl_set (X := []) (e := .inr (6, [.ref (T a 0), .int x, .int (I a 2), .int (I a 3), .int (I a 4), .int (I a 5), .int (I a 6)])) hD hL (hj.trans (by rw [wF_6 h]))
  refine hs.trans ?_
  show [] ++ _ = _
  rw [List.nil_append]
  refine va_pl_congr (fun b => ?_)
  by_cases hb : b = a
  · subst hb
    rw [va_up_self, wF_6 h]
    simp [p2, va_up]
  · rw [va_up_ne _ _ hb]
    simp [wF, p2, va_up, hb]
theorem wP_6_2 {cy : Nat → ClassId} {K N : Nat → Nat} {T : Nat → Nat → Nat} {I : Nat → Nat → Int32} {Q : Nat → Nat → Option Nat} {J : Nat → Nat → Int32} {A : Nat → Prop} {L : List Nat} {a j : Nat} {x : Int32} (hD : va_D A (va_pl L (wF cy K N T I Q J))) (hL : a ∈ L) (h : K a = 6) (hj : (va_pl L (wF cy K N T I Q J))[j]? = some (a, .inr (6, [.ref (T a 0), .int (I a 1), .int (I a 2), .int (I a 3), .int (I a 4), .int (I a 5), .int (I a 6)]))) : (va_pl L (wF cy K N T I Q J)).set j (a, .inr (6, [.ref (T a 0), .int (I a 1), .int x, .int (I a 3), .int (I a 4), .int (I a 5), .int (I a 6)])) = va_pl L (wF cy K N T (p2 I a 2 x) Q J) := by
  have hs := va_pl_set (X := []) (e := .inr (6, [.ref (T a 0), .int (I a 1), .int x, .int (I a 3), .int (I a 4), .int (I a 5), .int (I a 6)])) hD hL (hj.trans (by rw [wF_6 h]))
  refine hs.trans ?_
  show [] ++ _ = _
  rw [List.nil_append]
  refine va_pl_congr (fun b => ?_)
  by_cases hb : b = a
  · subst hb
    rw [va_up_self, wF_6 h]
    simp [p2, va_up]
  · rw [va_up_ne _ _ hb]
    simp [wF, p2, va_up, hb]
theorem wP_6_3 {cy : Nat → ClassId} {K N : Nat → Nat} {T : Nat → Nat → Nat} {I : Nat → Nat → Int32} {Q : Nat → Nat → Option Nat} {J : Nat → Nat → Int32} {A : Nat → Prop} {L : List Nat} {a j : Nat} {x : Int32} (hD : va_D A (va_pl L (wF cy K N T I Q J))) (hL : a ∈ L) (h : K a = 6) (hj : (va_pl L (wF cy K N T I Q J))[j]? = some (a, .inr (6, [.ref (T a 0), .int (I a 1), .int (I a 2), .int (I a 3), .int (I a 4), .int (I a 5), .int (I a 6)]))) : (va_pl L (wF cy K N T I Q J)).set j (a, .inr (6, [.ref (T a 0), .int (I a 1), .int (I a 2), .int x, .int (I a 4), .int (I a 5), .int (I a 6)])) = va_pl L (wF cy K N T (p2 I a 3 x) Q J) := by
  have hs := va_pl_set (X := []) (e := .inr (6, [.ref (T a 0), .int (I a 1), .int (I a 2), .int x, .int (I a 4), .int (I a 5), .int (I a 6)])) hD hL (hj.trans (by rw [wF_6 h]))
  refine hs.trans ?_
  show [] ++ _ = _
  rw [List.nil_append]
  refine va_pl_congr (fun b => ?_)
  by_cases hb : b = a
  · subst hb
    rw [va_up_self, wF_6 h]
    simp [p2, va_up]
  · rw [va_up_ne _ _ hb]
    simp [wF, p2, va_up, hb]
theorem wP_6_4 {cy : Nat → ClassId} {K N : Nat → Nat} {T : Nat → Nat → Nat} {I : Nat → Nat → Int32} {Q : Nat → Nat → Option Nat} {J : Nat → Nat → Int32} {A : Nat → Prop} {L : List Nat} {a j : Nat} {x : Int32} (hD : va_D A (va_pl L (wF cy K N T I Q J))) (hL : a ∈ L) (h : K a = 6) (hj : (va_pl L (wF cy K N T I Q J))[j]? = some (a, .inr (6, [.ref (T a 0), .int (I a 1), .int (I a 2), .int (I a 3), .int (I a 4), .int (I a 5), .int (I a 6)]))) : (va_pl L (wF cy K N T I Q J)).set j (a, .inr (6, [.ref (T a 0), .int (I a 1), .int (I a 2), .int (I a 3), .int x, .int (I a 5), .int (I a 6)])) = va_pl L (wF cy K N T (p2 I a 4 x) Q J) := by
  have hs := va_pl_set (X := []) (e := .inr (6, [.ref (T a 0), .int (I a 1), .int (I a 2), .int (I a 3), .int x, .int (I a 5), .int (I a 6)])) hD hL (hj.trans (by rw [wF_6 h]))
  refine hs.trans ?_
  show [] ++ _ = _
  rw [List.nil_append]
  refine va_pl_congr (fun b => ?_)
  by_cases hb : b = a
  · subst hb
    rw [va_up_self, wF_6 h]
    simp [p2, va_up]
  · rw [va_up_ne _ _ hb]
    simp [wF, p2, va_up, hb]
theorem wP_6_5 {cy : Nat → ClassId} {K N : Nat → Nat} {T : Nat → Nat → Nat} {I : Nat → Nat → Int32} {Q : Nat → Nat → Option Nat} {J : Nat → Nat → Int32} {A : Nat → Prop} {L : List Nat} {a j : Nat} {x : Int32} (hD : va_D A (va_pl L (wF cy K N T I Q J))) (hL : a ∈ L) (h : K a = 6) (hj : (va_pl L (wF cy K N T I Q J))[j]? = some (a, .inr (6, [.ref (T a 0), .int (I a 1), .int (I a 2), .int (I a 3), .int (I a 4), .int (I a 5), .int (I a 6)]))) : (va_pl L (wF cy K N T I Q J)).set j (a, .inr (6, [.ref (T a 0), .int (I a 1), .int (I a 2), .int (I a 3), .int (I a 4), .int x, .int (I a 6)])) = va_pl L (wF cy K N T (p2 I a 5 x) Q J) := by
  have hs := va_pl_set (X := []) (e := .inr (6, [.ref (T a 0), .int (I a 1), .int (I a 2), .int (I a 3), .int (I a 4), .int x, .int (I a 6)])) hD hL (hj.trans (by rw [wF_6 h]))
  refine hs.trans ?_
  show [] ++ _ = _
  rw [List.nil_append]
  refine va_pl_congr (fun b => ?_)
  by_cases hb : b = a
  · subst hb
    rw [va_up_self, wF_6 h]
    simp [p2, va_up]
  · rw [va_up_ne _ _ hb]
    simp [wF, p2, va_up, hb]
theorem wP_6_6 {cy : Nat → ClassId} {K N : Nat → Nat} {T : Nat → Nat → Nat} {I : Nat → Nat → Int32} {Q : Nat → Nat → Option Nat} {J : Nat → Nat → Int32} {A : Nat → Prop} {L : List Nat} {a j : Nat} {x : Int32} (hD : va_D A (va_pl L (wF cy K N T I Q J))) (hL : a ∈ L) (h : K a = 6) (hj : (va_pl L (wF cy K N T I Q J))[j]? = some (a, .inr (6, [.ref (T a 0), .int (I a 1), .int (I a 2), .int (I a 3), .int (I a 4), .int (I a 5), .int (I a 6)]))) : (va_pl L (wF cy K N T I Q J)).set j (a, .inr (6, [.ref (T a 0), .int (I a 1), .int (I a 2), .int (I a 3), .int (I a 4), .int (I a 5), .int x])) = va_pl L (wF cy K N T (p2 I a 6 x) Q J) := by
  have hs := va_pl_set (X := []) (e := .inr (6, [.ref (T a 0), .int (I a 1), .int (I a 2), .int (I a 3), .int (I a 4), .int (I a 5), .int x])) hD hL (hj.trans (by rw [wF_6 h]))
  refine hs.trans ?_
  show [] ++ _ = _
  rw [List.nil_append]
  refine va_pl_congr (fun b => ?_)
  by_cases hb : b = a
  · subst hb
    rw [va_up_self, wF_6 h]
    simp [p2, va_up]
  · rw [va_up_ne _ _ hb]
    simp [wF, p2, va_up, hb]
theorem wF_21 {cy : Nat → ClassId} {K N : Nat → Nat} {T : Nat → Nat → Nat} {I : Nat → Nat → Int32} {Q : Nat → Nat → Option Nat} {J : Nat → Nat → Int32} {a : Nat} (h : K a = 21) : wF cy K N T I Q J a = .inl ((cy 0), 4, .inl (J a)) := by simp [wF, h]
theorem wG_21 {cy : Nat → ClassId} {K N : Nat → Nat} {T : Nat → Nat → Nat} {I : Nat → Nat → Int32} {Q : Nat → Nat → Option Nat} {J : Nat → Nat → Int32} {L : List Nat} {a : Nat} (hL : a ∈ L) (h : K a = 21) : ∃ j : Nat, (va_pl L (wF cy K N T I Q J))[j]? = some (a, .inl ((cy 0), 4, .inl (J a))) := by
  obtain ⟨j, hj⟩ := va_pl_get (X := []) (f := wF cy K N T I Q J) hL
  exact ⟨j, hj.trans (by rw [wF_21 h])⟩
theorem wS_21 {cy : Nat → ClassId} {K N : Nat → Nat} {T : Nat → Nat → Nat} {I : Nat → Nat → Int32} {Q : Nat → Nat → Option Nat} {J : Nat → Nat → Int32} {A : Nat → Prop} {L : List Nat} {a j i : Nat} {x : Int32} (hD : va_D A (va_pl L (wF cy K N T I Q J))) (hL : a ∈ L) (h : K a = 21) (hj : (va_pl L (wF cy K N T I Q J))[j]? = some (a, .inl ((cy 0), 4, .inl (J a)))) : (va_pl L (wF cy K N T I Q J)).set j (a, .inl ((cy 0), 4, .inl (upd (J a) i x))) = va_pl L (wF cy K N T I Q (va_up J a (upd (J a) i x))) := by
  have hs := va_pl_set (X := []) (e := .inl ((cy 0), 4, .inl (upd (J a) i x))) hD hL (hj.trans (by rw [wF_21 h]))
  refine hs.trans ?_
  show [] ++ _ = _
  rw [List.nil_append]
  refine va_pl_congr (fun b => ?_)
  by_cases hb : b = a
  · subst hb
    rw [va_up_self, wF_21 h]
    simp [p2, va_up]
  · rw [va_up_ne _ _ hb]
    simp [wF, p2, va_up, hb]
theorem wF_22 {cy : Nat → ClassId} {K N : Nat → Nat} {T : Nat → Nat → Nat} {I : Nat → Nat → Int32} {Q : Nat → Nat → Option Nat} {J : Nat → Nat → Int32} {a : Nat} (h : K a = 22) : wF cy K N T I Q J a = .inl ((cy 2), 4, .inr (.inr (.inr (.inr (Q a))))) := by simp [wF, h]
theorem wG_22 {cy : Nat → ClassId} {K N : Nat → Nat} {T : Nat → Nat → Nat} {I : Nat → Nat → Int32} {Q : Nat → Nat → Option Nat} {J : Nat → Nat → Int32} {L : List Nat} {a : Nat} (hL : a ∈ L) (h : K a = 22) : ∃ j : Nat, (va_pl L (wF cy K N T I Q J))[j]? = some (a, .inl ((cy 2), 4, .inr (.inr (.inr (.inr (Q a)))))) := by
  obtain ⟨j, hj⟩ := va_pl_get (X := []) (f := wF cy K N T I Q J) hL
  exact ⟨j, hj.trans (by rw [wF_22 h])⟩
theorem wS_22 {cy : Nat → ClassId} {K N : Nat → Nat} {T : Nat → Nat → Nat} {I : Nat → Nat → Int32} {Q : Nat → Nat → Option Nat} {J : Nat → Nat → Int32} {A : Nat → Prop} {L : List Nat} {a j i : Nat} {x : Option Nat} (hD : va_D A (va_pl L (wF cy K N T I Q J))) (hL : a ∈ L) (h : K a = 22) (hj : (va_pl L (wF cy K N T I Q J))[j]? = some (a, .inl ((cy 2), 4, .inr (.inr (.inr (.inr (Q a))))))) : (va_pl L (wF cy K N T I Q J)).set j (a, .inl ((cy 2), 4, .inr (.inr (.inr (.inr (va_up (Q a) i x)))))) = va_pl L (wF cy K N T I (p2 Q a i x) J) := by
  have hs := va_pl_set (X := []) (e := .inl ((cy 2), 4, .inr (.inr (.inr (.inr (va_up (Q a) i x)))))) hD hL (hj.trans (by rw [wF_22 h]))
  refine hs.trans ?_
  show [] ++ _ = _
  rw [List.nil_append]
  refine va_pl_congr (fun b => ?_)
  by_cases hb : b = a
  · subst hb
    rw [va_up_self, wF_22 h]
    simp [p2, va_up]
  · rw [va_up_ne _ _ hb]
    simp [wF, p2, va_up, hb]
theorem wF_23 {cy : Nat → ClassId} {K N : Nat → Nat} {T : Nat → Nat → Nat} {I : Nat → Nat → Int32} {Q : Nat → Nat → Option Nat} {J : Nat → Nat → Int32} {a : Nat} (h : K a = 23) : wF cy K N T I Q J a = .inl ((cy 3), 5, .inr (.inr (.inr (.inr (Q a))))) := by simp [wF, h]
theorem wG_23 {cy : Nat → ClassId} {K N : Nat → Nat} {T : Nat → Nat → Nat} {I : Nat → Nat → Int32} {Q : Nat → Nat → Option Nat} {J : Nat → Nat → Int32} {L : List Nat} {a : Nat} (hL : a ∈ L) (h : K a = 23) : ∃ j : Nat, (va_pl L (wF cy K N T I Q J))[j]? = some (a, .inl ((cy 3), 5, .inr (.inr (.inr (.inr (Q a)))))) := by
  obtain ⟨j, hj⟩ := va_pl_get (X := []) (f := wF cy K N T I Q J) hL
  exact ⟨j, hj.trans (by rw [wF_23 h])⟩
theorem wS_23 {cy : Nat → ClassId} {K N : Nat → Nat} {T : Nat → Nat → Nat} {I : Nat → Nat → Int32} {Q : Nat → Nat → Option Nat} {J : Nat → Nat → Int32} {A : Nat → Prop} {L : List Nat} {a j i : Nat} {x : Option Nat} (hD : va_D A (va_pl L (wF cy K N T I Q J))) (hL : a ∈ L) (h : K a = 23) (hj : (va_pl L (wF cy K N T I Q J))[j]? = some (a, .inl ((cy 3), 5, .inr (.inr (.inr (.inr (Q a))))))) : (va_pl L (wF cy K N T I Q J)).set j (a, .inl ((cy 3), 5, .inr (.inr (.inr (.inr (va_up (Q a) i x)))))) = va_pl L (wF cy K N T I (p2 Q a i x) J) := by
  have hs := va_pl_set (X := []) (e := .inl ((cy 3), 5, .inr (.inr (.inr (.inr (va_up (Q a) i x)))))) hD hL (hj.trans (by rw [wF_23 h]))
  refine hs.trans ?_
  show [] ++ _ = _
  rw [List.nil_append]
  refine va_pl_congr (fun b => ?_)
  by_cases hb : b = a
  · subst hb
    rw [va_up_self, wF_23 h]
    simp [p2, va_up]
  · rw [va_up_ne _ _ hb]
    simp [wF, p2, va_up, hb]
theorem wF_20 {cy : Nat → ClassId} {K N : Nat → Nat} {T : Nat → Nat → Nat} {I : Nat → Nat → Int32} {Q : Nat → Nat → Option Nat} {J : Nat → Nat → Int32} {a : Nat} (h : K a = 20) : wF cy K N T I Q J a = .inl ((cy 1), (N a), .inl (J a)) := by simp [wF, h]
theorem wG_20 {cy : Nat → ClassId} {K N : Nat → Nat} {T : Nat → Nat → Nat} {I : Nat → Nat → Int32} {Q : Nat → Nat → Option Nat} {J : Nat → Nat → Int32} {L : List Nat} {a : Nat} (hL : a ∈ L) (h : K a = 20) : ∃ j : Nat, (va_pl L (wF cy K N T I Q J))[j]? = some (a, .inl ((cy 1), (N a), .inl (J a))) := by
  obtain ⟨j, hj⟩ := va_pl_get (X := []) (f := wF cy K N T I Q J) hL
  exact ⟨j, hj.trans (by rw [wF_20 h])⟩
theorem wS_20 {cy : Nat → ClassId} {K N : Nat → Nat} {T : Nat → Nat → Nat} {I : Nat → Nat → Int32} {Q : Nat → Nat → Option Nat} {J : Nat → Nat → Int32} {A : Nat → Prop} {L : List Nat} {a j i : Nat} {x : Int32} (hD : va_D A (va_pl L (wF cy K N T I Q J))) (hL : a ∈ L) (h : K a = 20) (hj : (va_pl L (wF cy K N T I Q J))[j]? = some (a, .inl ((cy 1), (N a), .inl (J a)))) : (va_pl L (wF cy K N T I Q J)).set j (a, .inl ((cy 1), (N a), .inl (upd (J a) i x))) = va_pl L (wF cy K N T I Q (va_up J a (upd (J a) i x))) := by
  have hs := va_pl_set (X := []) (e := .inl ((cy 1), (N a), .inl (upd (J a) i x))) hD hL (hj.trans (by rw [wF_20 h]))
  refine hs.trans ?_
  show [] ++ _ = _
  rw [List.nil_append]
  refine va_pl_congr (fun b => ?_)
  by_cases hb : b = a
  · subst hb
    rw [va_up_self, wF_20 h]
    simp [p2, va_up]
  · rw [va_up_ne _ _ hb]
    simp [wF, p2, va_up, hb]

theorem wR_20 {cy : Nat → ClassId} {K N : Nat → Nat} {T : Nat → Nat → Nat} {I : Nat → Nat → Int32} {Q : Nat → Nat → Option Nat} {J : Nat → Nat → Int32} {A : Nat → Prop} {L : List Nat} {a j : Nat} {g : Nat → Int32} (hD : va_D A (va_pl L (wF cy K N T I Q J))) (hL : a ∈ L) (h : K a = 20) (hj : (va_pl L (wF cy K N T I Q J))[j]? = some (a, .inl ((cy 1), (N a), .inl (J a)))) : (va_pl L (wF cy K N T I Q J)).set j (a, .inl ((cy 1), (N a), .inl g)) = va_pl L (wF cy K N T I Q (va_up J a g)) := by
  have hs := va_pl_set (X := []) (e := .inl ((cy 1), (N a), .inl g)) hD hL (hj.trans (by rw [wF_20 h]))
  refine hs.trans ?_
  show [] ++ _ = _
  rw [List.nil_append]
  refine va_pl_congr (fun b => ?_)
  by_cases hb : b = a
  · subst hb
    rw [va_up_self, wF_20 h]
    simp [p2, va_up]
  · rw [va_up_ne _ _ hb]
    simp [wF, p2, va_up, hb]
