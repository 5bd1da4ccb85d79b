theorem xP_l {D : va_G} {cl : List vw_C} {a b : va_W} {H : Heap} (h : va_P D cl (a ++ b) H) : va_P D cl a H := fun k q hk => h k q (by rw [List.getElem?_append_left (List.getElem?_eq_some_iff.mp hk).1]; exact hk)
theorem xP_r {D : va_G} {cl : List vw_C} {a b : va_W} {H : Heap} (h : va_P D cl (a ++ b) H) : va_P D cl b H := fun k q hk => h (a.length + k) q (by rw [List.getElem?_append_right (Nat.le_add_right _ _), Nat.add_sub_cancel_left]; exact hk)
theorem xD_l {A : Nat → Prop} {a b : va_W} (h : va_D A (a ++ b)) : va_D A a := by
  have up : ∀ (k : Nat) (q : Nat × va_E), a[k]? = some q → (a ++ b)[k]? = some q := fun k q hk => by rw [List.getElem?_append_left (List.getElem?_eq_some_iff.mp hk).1]; exact hk
  exact ⟨fun i j x y hi hj hxy => h.1 i j x y (up i x hi) (up j y hj) hxy, fun k q hk => h.2 k q (up k q hk)⟩
theorem xD_r {A : Nat → Prop} {a b : va_W} (h : va_D A (a ++ b)) : va_D A b := by
  have up : ∀ (k : Nat) (q : Nat × va_E), b[k]? = some q → (a ++ b)[a.length + k]? = some q := fun k q hk => by rw [List.getElem?_append_right (Nat.le_add_right _ _), Nat.add_sub_cancel_left]; exact hk
  refine ⟨fun i j x y hi hj hxy => ?_, fun k q hk => h.2 _ q (up k q hk)⟩
  have := h.1 _ _ x y (up i x hi) (up j y hj) hxy
  omega
theorem xD_in {A : Nat → Prop} {a : va_W} (h : va_D A a) : va_D (fun q => ∃ (k : Nat) (e : va_E), a[k]? = some (q, e)) a := ⟨h.1, fun k q hk => ⟨k, q.2, hk⟩⟩
theorem xD_two {A : Nat → Prop} {a b a' b' : va_W} (h : va_D A (a ++ b)) (ha : va_D (fun q => ∃ (k : Nat) (e : va_E), a[k]? = some (q, e)) a') (hb : va_D (fun q => ∃ (k : Nat) (e : va_E), b[k]? = some (q, e)) b') : va_D A (a' ++ b') := by
  refine va_D.app (ha.weaken (fun k q _ z => ?_)) (hb.weaken (fun k q _ z => ?_)) (fun i j x y hx hy hxy => ?_)
  · obtain ⟨n, e, hn⟩ := z
    exact (xD_l h).2 n (q.1, e) hn
  · obtain ⟨n, e, hn⟩ := z
    exact (xD_r h).2 n (q.1, e) hn
  · obtain ⟨n, e, hn⟩ := ha.2 i x hx
    obtain ⟨n2, e2, hn2⟩ := hb.2 j y hy
    have hl := (List.getElem?_eq_some_iff.mp hn).1
    have := h.1 n (a.length + n2) (x.1, e) (y.1, e2) (by rw [List.getElem?_append_left hl]; exact hn) (by rw [List.getElem?_append_right (Nat.le_add_right _ _), Nat.add_sub_cancel_left]; exact hn2) hxy
    omega
theorem xj_keep {D : va_G} {cl : List vw_C} {A : Nat → Prop} {a b : va_W} {H H1 : Heap} (hP : va_P D cl (a ++ b) H) (hD : va_D A (a ++ b)) (hk : ∀ q : Nat, q < H.size → ¬ va_A a H.size q → H1[q]? = H[q]?) : va_P D cl b H1 := by
  intro k q hq
  have h1 := xP_r hP k q hq
  refine h1.kept (hk q.1 h1.lt (fun h => ?_))
  rcases h with ⟨i, e, hi⟩ | h
  · have hil := (List.getElem?_eq_some_iff.mp hi).1
    have := hD.1 i (a.length + k) (q.1, e) q (by rw [List.getElem?_append_left hil]; exact hi) (by rw [List.getElem?_append_right (Nat.le_add_right _ _), Nat.add_sub_cancel_left]; exact hq) rfl
    omega
  · have := h1.lt
    omega
theorem xj_D {D : va_G} {cl : List vw_C} {A : Nat → Prop} {a a' b : va_W} {H : Heap} (hP : va_P D cl (a ++ b) H) (hD : va_D A (a ++ b)) (hD1 : va_D (va_A a H.size) a') (hF : ∀ q, va_A a H.size q → A q) : va_D A (a' ++ b) := by
  refine va_D.app (hD1.weaken (fun k q _ h => hF q.1 h)) (xD_r hD) (fun i j x y hx hy hxy => ?_)
  rcases hD1.2 i x hx with ⟨k, e, hk⟩ | h
  · have hl := (List.getElem?_eq_some_iff.mp hk).1
    have := hD.1 k (a.length + j) (x.1, e) y (by rw [List.getElem?_append_left hl]; exact hk) (by rw [List.getElem?_append_right (Nat.le_add_right _ _), Nat.add_sub_cancel_left]; exact hy) hxy
    omega
  · have := (xP_r hP j y hy).lt
    omega
theorem xswapP {D : va_G} {cl : List vw_C} {a b : va_W} {H : Heap} (h : va_P D cl (a ++ b) H) : va_P D cl (b ++ a) H := va_P.swap (a := []) (b := a) (c := b) h
theorem xswapD {A : Nat → Prop} {a b : va_W} (h : va_D A (a ++ b)) : va_D A (b ++ a) := va_D.swap (a := []) (b := a) (c := b) h
theorem xfree {A : Nat → Prop} {a : va_W} {H0 H : Heap} {locs : List Loc} (hD : va_D A a) (hS : va_S A H0 H locs) (hA : ∀ q, H0.size ≤ q → A q) : ∀ q, va_A a H.size q → A q := pfree hD hS hA
theorem xlen7 {L : Nat} (h : L ≤ 448) : (Int32.ofNat L - 7).toInt = (L : Int) - 7 := by
  have e : (Int32.ofNat L).toInt = (L : Int) := nI_toInt (n := L) (by omega)
  rw [xsub (by rw [e, xk_7]; omega) (by rw [e, xk_7]; omega), e, xk_7]
theorem xo_spec {A : Array Value} {s : State} {t : FieldType} (h : (Cond.arrayOver (.array t)).before A s = true) : ∃ (comp cA : ClassId) (k : Class), s.vm.findClass (FieldType.array t).toString = some comp ∧ s.vm.classes[cA]? = some k ∧ k.kind = .array comp (.array t) ∧ s.vm.findClass ("[" ++ (FieldType.array t).toString) = some cA := by
  simp only [Cond.before, Cond.holds, Cond.value, beq_iff_eq] at h
  cases hc : s.vm.findClass (FieldType.array t).toString with
  | none => simp [hc] at h
  | some comp =>
    simp only [hc, Option.bind_some, Option.bind_eq_some_iff, Option.map_eq_some_iff] at h
    obtain ⟨cA, hi, k, hk, hb⟩ := h
    obtain ⟨hlt, hp, -⟩ := Array.findIdx?_eq_some_iff_getElem.mp hi
    rw [(Array.getElem?_eq_some_iff.mp hk).2] at hp
    cases hkind : k.kind with
    | array component ty =>
      rw [hkind] at hb hp
      simp at hb hp
      exact ⟨comp, cA, k, rfl, hk, by rw [hkind, hp, hb.1], hb.2⟩
    | _ => rw [hkind] at hb; simp at hb
theorem xgA_of {A : Array Value} {s : State} (h1 : (Cond.arrayOver (.array (.object "TallyLogsModel$Log"))).before A s = true) (h2 : (Cond.arrayOver (.object "TallyLogsModel$Log")).before A s = true) : ∃ cO cW cC, xgA cO cW cC s := by
  obtain ⟨comp, cA, k, a1, a2, a3, a4⟩ := xo_spec h1
  obtain ⟨cC, cB, kB, b1, b2, b3, b4, b5⟩ := Cond.arrayOver_spec h2
  have e : comp = cB := Option.some.inj (a1.symm.trans b5)
  subst e
  exact ⟨cA, comp, cC, a4, ⟨k, a2, a3⟩, ⟨kB, b3, b4⟩, b1, b5⟩
theorem xnw_warm {w : Cond} (hw : (w.onTables && w.keeps) = true) {s U : State} (hW : s.WarmedH U.vm) (h : va_Nw w s) : va_Nw w U := word_at hW (Or.inl hw) h
def lwI (dC : Nat → ClassId) (dI : Nat → Nat → Nat) (cy : Nat → ClassId) (v : Nat → Nat) (N : Nat → Nat) (cz : Nat → ClassId) (w : Nat → Nat) (Lm : List Nat) (Km Nm : Nat → Nat) (Tm : Nat → Nat → Nat) (Qm : Nat → Nat → Option Nat) (A : Nat → Prop) (H : Heap) (k : Nat) (L : List Nat) (K : Nat → Nat) (T : Nat → Nat → Nat) (I : Nat → Nat → Int32) (Q : Nat → Nat → Option Nat) (J Im Jm : Nat → Nat → Int32) : Prop := CT v L K N T I Q ∧ MI w (5 * (k : Int)) Im Jm ∧ xFR v N w L K T I Q J Im Jm ∧ va_P (dC, dI) vwCl (va_pl L (pF cy K N T I Q J) ++ va_pl Lm (wF cz Km Nm Tm Im Qm Jm)) H ∧ va_D A (va_pl L (pF cy K N T I Q J) ++ va_pl Lm (wF cz Km Nm Tm Im Qm Jm))
