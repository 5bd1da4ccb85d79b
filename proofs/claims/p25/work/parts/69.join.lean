theorem jn_pos {a b : va_W} {cc q : Nat × va_E} {k : Nat} (h : (a ++ b)[k]? = some q) : (a ++ cc :: b)[if k < a.length then k else k + 1]? = some q := by
  by_cases hl : k < a.length
  · rw [if_pos hl, List.getElem?_append_left hl]
    rw [List.getElem?_append_left hl] at h
    exact h
  · rw [if_neg hl, List.getElem?_append_right (by omega)]
    rw [List.getElem?_append_right (by omega)] at h
    have e : k + 1 - a.length = (k - a.length) + 1 := by omega
    rw [e, List.getElem?_cons_succ]
    exact h
theorem jn_mid {a b : va_W} {cc : Nat × va_E} : (a ++ cc :: b)[a.length]? = some cc := by
  rw [List.getElem?_append_right (Nat.le_refl _), Nat.sub_self, List.getElem?_cons_zero]
/-- behind a call that had one cell -/
theorem jn_at {A0 : Nat → Prop} {D : va_G} {cl : List vw_C} {H H1 : Heap} (a b w1 : va_W) (cc : Nat × va_E) (hP : va_P D cl (a ++ cc :: b) H) (hD : va_D A0 (a ++ cc :: b))
    (hk : ∀ q : Nat, q < H.size → ¬ va_A [cc] H.size q → H1[q]? = H[q]?) (hF : ∀ q, va_A [cc] H.size q → A0 q) (hP1 : va_P D cl w1 H1) (hD1 : va_D (va_A [cc] H.size) w1) : va_P D cl ((a ++ b) ++ w1) H1 ∧ va_D A0 ((a ++ b) ++ w1) := by
  have apart : ∀ (k : Nat) (q : Nat × va_E), (a ++ b)[k]? = some q → q.1 < H.size ∧ ¬ va_A [cc] H.size q.1 := by
    intro k q hq
    have h2 := jn_pos (cc := cc) hq
    have hl := (hP _ q h2).lt
    refine ⟨hl, fun h => ?_⟩
    rcases h with ⟨k2, e, h⟩ | h
    · cases k2 with
      | zero =>
        rw [List.getElem?_cons_zero] at h
        have h4 : cc = (q.1, e) := Option.some.inj h
        have h3 := hD.1 _ _ q cc h2 jn_mid (congrArg Prod.fst h4).symm
        by_cases hl : k < a.length
        · rw [if_pos hl] at h3; omega
        · rw [if_neg hl] at h3; omega
      | succ n =>
        rw [List.getElem?_cons_succ, List.getElem?_nil] at h
        cases h
    · omega
  refine ⟨va_P.app (fun k q hq => ?_) hP1, va_D.app ⟨fun i j x y hi hj hxy => ?_, fun k q hk => hD.2 _ q (jn_pos hk)⟩ (hD1.weaken (fun k q _ h => hF q.1 h)) (fun i j x y hx hy hxy => ?_)⟩
  · obtain ⟨g1, g2⟩ := apart k q hq
    exact (hP _ q (jn_pos hq)).kept (hk q.1 g1 g2)
  · have h := hD.1 _ _ x y (jn_pos (cc := cc) hi) (jn_pos (cc := cc) hj) hxy
    by_cases hl : i < a.length
    · rw [if_pos hl] at h
      by_cases hm : j < a.length
      · rw [if_pos hm] at h; exact h
      · rw [if_neg hm] at h; omega
    · rw [if_neg hl] at h
      by_cases hm : j < a.length
      · rw [if_pos hm] at h; omega
      · rw [if_neg hm] at h; omega
  · exact (apart i x hx).2 (by rw [hxy]; exact hD1.2 j y hy)
