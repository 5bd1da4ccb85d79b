/-! the pool grows: what was there stays as it was -/
def PX (L : List Nat) (K N : Nat → Nat) (T : Nat → Nat → Nat) (L' : List Nat) (K' N' : Nat → Nat) (T' : Nat → Nat → Nat) : Prop := ∀ a, a ∈ L → a ∈ L' ∧ K' a = K a ∧ N' a = N a ∧ T' a = T a
section XG
variable {v : Nat → Nat} {L L1 L2 : List Nat} {K N K1 N1 K2 N2 : Nat → Nat} {T T1 T2 : Nat → Nat → Nat} {I I0 : Nat → Nat → Int32} {Q Q0 : Nat → Nat → Option Nat} {J J0 : Nat → Nat → Int32} {cy : Nat → ClassId} {q k : Nat} {t : Nat → Nat} {i : Nat → Int32} {r : Nat → Option Nat}
theorem PX.rf : PX L K N T L K N T := fun _ h => ⟨h, rfl, rfl, rfl⟩
theorem PX.trans (h : PX L K N T L1 K1 N1 T1) (h2 : PX L1 K1 N1 T1 L2 K2 N2 T2) : PX L K N T L2 K2 N2 T2 := fun a ha =>
  ⟨(h2 a (h a ha).1).1, (h2 a (h a ha).1).2.1.trans (h a ha).2.1, (h2 a (h a ha).1).2.2.1.trans (h a ha).2.2.1, (h2 a (h a ha).1).2.2.2.trans (h a ha).2.2.2⟩
theorem PX.push (hq : q ∉ L) : PX L K N T (L ++ [q]) (va_up K q k) N (va_up T q t) := fun a ha => by
  have hn : a ≠ q := fun e => hq (e ▸ ha)
  exact ⟨List.mem_append_left _ ha, va_up_ne _ _ hn, rfl, va_up_ne _ _ hn⟩
theorem pPush (hq : q ∉ L) : va_pl L (pF cy K N T I Q J) ++ [(q, pF cy (va_up K q k) N (va_up T q t) (va_up I q i) (va_up Q q r) J q)] = va_pl (L ++ [q]) (pF cy (va_up K q k) N (va_up T q t) (va_up I q i) (va_up Q q r) J) := by
  have e : pF cy (va_up K q k) N (va_up T q t) (va_up I q i) (va_up Q q r) J = va_up (pF cy K N T I Q J) q (pF cy (va_up K q k) N (va_up T q t) (va_up I q i) (va_up Q q r) J q) := funext fun b => by
    by_cases hb : b = q
    · subst hb; rw [va_up_self]
    · rw [va_up_ne _ _ hb]; simp [pF, va_up, hb]
  rw [va_pl_push hq, ← e]
theorem CT.push (h : CT v L K N T I Q) (hq : q ∉ L) (hk : k = 0 ∨ ((k = 8 ∨ k = 12) ∧ r = fun _ => none) ∨ (k = 2 ∧ t 2 ∈ L ∧ K (t 2) = 12) ∨ (k = 4 ∧ t 0 ∈ L ∧ K (t 0) = 8 ∧ 0 ≤ (i 1).toInt)) : CT v (L ++ [q]) (va_up K q k) N (va_up T q t) (va_up I q i) (va_up Q q r) := by
  obtain ⟨⟨h1a, h1b, h1c, h1d⟩, ⟨h2a, h2b⟩, h3, h4, h5, h6, h7, h8, h9⟩ := h
  have nl : ∀ a, a ∈ L → a ≠ q := fun a ha e => hq (e ▸ ha)
  have nv : ∀ j, j < 18 → v j ≠ q := fun j hj => nl _ (h1a j hj).1
  have up : ∀ {k' : Nat} {b : Nat}, (b ∈ L ∧ K b = k') → b ∈ L ++ [q] ∧ va_up K q k b = k' := fun {_ b} hb => ⟨List.mem_append_left _ hb.1, by rw [va_up_ne _ _ (nl b hb.1)]; exact hb.2⟩
  have cs : ∀ a, a ∈ L ++ [q] → a ∈ L ∨ a = q := fun a ha => by
    rcases List.mem_append.mp ha with h | h
    · exact Or.inl h
    · exact Or.inr (List.mem_singleton.mp h)
  refine ⟨⟨fun j hj => up (h1a j hj), h1b, ?_, fun j hj => ?_⟩, ⟨fun j hj => ?_, fun j hj => ?_⟩, fun b hb => ?_, fun j b hj hb => ?_, fun a ha hka => ?_, fun a ha hka j b hj hb => ?_, fun a ha hka => ?_, fun a ha hka => ?_, fun a ha hka j b hj hb => ?_⟩
  · rw [va_up_ne _ _ (nv 0 (by decide))]; exact h1c
  · rw [va_up_ne _ _ (nv (10 + j) (by omega))]; exact h1d j hj
  · rw [va_up_ne _ _ (nv 2 (by decide))]; exact h2a j hj
  · rw [va_up_ne _ _ (nv 3 (by decide))]; exact h2b j hj
  · rw [va_up_ne _ _ (nv 0 (by decide))] at hb; exact up (h3 b hb)
  · rw [va_up_ne _ _ (nv 1 (by decide))] at hb; exact up (h4 j b hj hb)
  · rcases cs a ha with z | rfl
    · rw [va_up_ne _ _ (nl a z)] at hka
      rw [va_up_ne _ _ (nl a z)]; exact up (h5 a z hka)
    · rw [va_up_self] at hka
      rw [va_up_self]
      rcases hk with e | ⟨e | e, -⟩ | ⟨-, e⟩ | ⟨e, -⟩
      · omega
      · omega
      · omega
      · exact up e
      · omega
  · rcases cs a ha with z | rfl
    · rw [va_up_ne _ _ (nl a z)] at hka hb; exact up (h6 a z hka j b hj hb)
    · rw [va_up_self] at hka hb
      rcases hk with e | ⟨e | e, e2⟩ | ⟨e, -⟩ | ⟨e, -⟩
      · omega
      · omega
      · rw [e2] at hb; cases hb
      · omega
      · omega
  · rcases cs a ha with z | rfl
    · rw [va_up_ne _ _ (nl a z)] at hka
      rw [va_up_ne _ _ (nl a z)]; exact up (h7 a z hka)
    · rw [va_up_self] at hka
      rw [va_up_self]
      rcases hk with e | ⟨e | e, -⟩ | ⟨e, -⟩ | ⟨-, e1, e2, -⟩
      · omega
      · omega
      · omega
      · omega
      · exact up ⟨e1, e2⟩
  · rcases cs a ha with z | rfl
    · rw [va_up_ne _ _ (nl a z)] at hka
      rw [va_up_ne _ _ (nl a z)]; exact h8 a z hka
    · rw [va_up_self] at hka
      rw [va_up_self]
      rcases hk with e | ⟨e | e, -⟩ | ⟨e, -⟩ | ⟨-, -, -, e⟩
      · omega
      · omega
      · omega
      · omega
      · exact e
  · rcases cs a ha with z | rfl
    · rw [va_up_ne _ _ (nl a z)] at hka hb; exact up (h9 a z hka j b hj hb)
    · rw [va_up_self] at hka hb
      rcases hk with e | ⟨e | e, e2⟩ | ⟨e, -⟩ | ⟨e, -⟩
      · omega
      · rw [e2] at hb; cases hb
      · omega
      · omega
      · omega
theorem RS.push (h : RS v I0 Q0 J0 I Q J) (hC : CT v L K N T I Q) (hq : q ∉ L) : RS v I0 Q0 J0 (va_up I q i) (va_up Q q r) J := by
  have nv : ∀ j, j < 18 → v j ≠ q := fun j hj e => hq (e ▸ hC.at j hj)
  obtain ⟨h1, h2, h3, h4, h5⟩ := h
  refine ⟨?_, fun k hk => ?_, fun g hg => ⟨?_, ?_⟩, h4, fun p hp => ?_⟩
  · rw [va_up_ne _ _ (nv 0 (by decide))]; exact h1
  · rw [va_up_ne _ _ (nv (4 + k) (by omega))]; exact h2 k hk
  · rw [va_up_ne _ _ (nv (10 + g) (by omega))]; exact (h3 g hg).1
  · rw [va_up_ne _ _ (nv (10 + g) (by omega))]; exact (h3 g hg).2
  · rw [va_up_ne _ _ (nv 1 (by decide))]; exact h5 p hp
variable {A : Nat → Prop} {dC : Nat → ClassId} {dI : Nat → Nat → Nat} {H : Heap} {Lo : List Nat} {Ko No : Nat → Nat} {To : Nat → Nat → Nat}
/-- what holds of a pool in the midst of a walk -/
def PG (dC : Nat → ClassId) (dI : Nat → Nat → Nat) (cy : Nat → ClassId) (v : Nat → Nat) (N : Nat → Nat) (A : Nat → Prop) (H : Heap) (J I0 : Nat → Nat → Int32) (Q0 : Nat → Nat → Option Nat) (J0 : Nat → Nat → Int32) (L : List Nat) (K : Nat → Nat) (T : Nat → Nat → Nat) (I : Nat → Nat → Int32) (Q : Nat → Nat → Option Nat) : Prop :=
  va_P (dC, dI) vwCl (va_pl L (pF cy K N T I Q J)) H ∧ va_D A (va_pl L (pF cy K N T I Q J)) ∧ CT v L K N T I Q ∧ RS v I0 Q0 J0 I Q J
/-- one cell more -/
theorem pNew (hC : CT v L K N T I Q) (hR : RS v I0 Q0 J0 I Q J) (hk : k = 0 ∨ ((k = 8 ∨ k = 12) ∧ r = fun _ => none) ∨ (k = 2 ∧ t 2 ∈ L ∧ K (t 2) = 12) ∨ (k = 4 ∧ t 0 ∈ L ∧ K (t 0) = 8 ∧ 0 ≤ (i 1).toInt)) (hP : va_P (dC, dI) vwCl (va_pl L (pF cy K N T I Q J) ++ [(q, pF cy (va_up K q k) N (va_up T q t) (va_up I q i) (va_up Q q r) J q)]) H) (hD : va_D A (va_pl L (pF cy K N T I Q J) ++ [(q, pF cy (va_up K q k) N (va_up T q t) (va_up I q i) (va_up Q q r) J q)])) : PG dC dI cy v N A H J I0 Q0 J0 (L ++ [q]) (va_up K q k) (va_up T q t) (va_up I q i) (va_up Q q r) ∧ PX L K N T (L ++ [q]) (va_up K q k) N (va_up T q t) := by
  have hq : q ∉ L := va_pl_fresh2 (X := []) hD
  rw [pPush hq] at hP hD
  exact ⟨⟨hP, hD, hC.push hq hk, hR.push hC hq⟩, PX.push hq⟩
/-- an Entry is made -/
theorem pNew0 (hC : CT v L K N T I Q) (hR : RS v I0 Q0 J0 I Q J) (hP : va_P (dC, dI) vwCl (va_pl L (pF cy K N T I Q J) ++ [(q, .inr (0, [.int 0, .int 0, .int 0, .int 0, .int 0, .int 0, .int 0, .int 0]))]) H) (hD : va_D A (va_pl L (pF cy K N T I Q J) ++ [(q, .inr (0, [.int 0, .int 0, .int 0, .int 0, .int 0, .int 0, .int 0, .int 0]))])) : ∃ L' K' T' I' Q', PG dC dI cy v N A H J I0 Q0 J0 L' K' T' I' Q' ∧ PX L K N T L' K' N T' ∧ q ∈ L' ∧ K' q = 0 := by
  have e : pF cy (va_up K q 0) N (va_up T q (T q)) (va_up I q (fun _ => 0)) (va_up Q q (Q q)) J q = .inr (0, [.int 0, .int 0, .int 0, .int 0, .int 0, .int 0, .int 0, .int 0]) := by
    rw [pF_0 (va_up_self _ _ _)]; simp only [va_up_self]
  rw [← e] at hP hD
  obtain ⟨h1, h2⟩ := pNew hC hR (Or.inl rfl) hP hD
  exact ⟨_, _, _, _, _, h1, h2, List.mem_append_right _ (List.mem_singleton.mpr rfl), va_up_self _ _ _⟩
/-- an object is made with a row of nulls: a Replica with its Entry[60] -/
theorem pNew4 {b : Nat} {x1 x2 x3 x4 x5 x6 : Int32} (hx : 0 ≤ x1.toInt) (hC : CT v L K N T I Q) (hR : RS v I0 Q0 J0 I Q J) (hP : va_P (dC, dI) vwCl ((b, .inr (4, [.ref q, .int x1, .int x2, .int x3, .int x4, .int x5, .int x6])) :: va_pl L (pF cy K N T I Q J) ++ [(q, .inl (cy 8, 60, .inr (.inr (.inr (.inr (fun _ => none))))))]) H) (hD : va_D A ((b, .inr (4, [.ref q, .int x1, .int x2, .int x3, .int x4, .int x5, .int x6])) :: va_pl L (pF cy K N T I Q J) ++ [(q, .inl (cy 8, 60, .inr (.inr (.inr (.inr (fun _ => none))))))])) : ∃ L' K' T' I' Q', PG dC dI cy v N A H J I0 Q0 J0 L' K' T' I' Q' ∧ PX L K N T L' K' N T' ∧ b ∈ L' ∧ K' b = 4 := by
  have hP := va_P.swap (a := []) (b := [(b, .inr (4, [.ref q, .int x1, .int x2, .int x3, .int x4, .int x5, .int x6]))]) (c := va_pl L (pF cy K N T I Q J) ++ [(q, .inl (cy 8, 60, .inr (.inr (.inr (.inr (fun _ => none))))))]) hP
  have hD := va_D.swap (a := []) (b := [(b, .inr (4, [.ref q, .int x1, .int x2, .int x3, .int x4, .int x5, .int x6]))]) (c := va_pl L (pF cy K N T I Q J) ++ [(q, .inl (cy 8, 60, .inr (.inr (.inr (.inr (fun _ => none))))))]) hD
  rw [List.nil_append] at hP hD
  have hDq : va_D A (va_pl L (pF cy K N T I Q J) ++ [(q, .inl (cy 8, 60, .inr (.inr (.inr (.inr (fun _ => none))))))]) := ⟨fun i j x y hi hj => hD.1 i j x y (by rw [List.getElem?_append_left (List.getElem?_eq_some_iff.mp hi).1]; exact hi) (by rw [List.getElem?_append_left (List.getElem?_eq_some_iff.mp hj).1]; exact hj), fun k x hk => hD.2 k x (by rw [List.getElem?_append_left (List.getElem?_eq_some_iff.mp hk).1]; exact hk)⟩
  have hq : q ∉ L := va_pl_fresh2 (X := []) hDq
  have e : pF cy (va_up K q 8) N (va_up T q (T q)) (va_up I q (I q)) (va_up Q q (fun _ => none)) J q = .inl (cy 8, 60, .inr (.inr (.inr (.inr (fun _ => none))))) := by
    rw [pF_8 (va_up_self _ _ _)]; simp only [va_up_self]
  rw [← e, pPush hq] at hP hD
  have hC1 := hC.push (k := 8) (t := T q) (i := I q) (r := fun _ => none) hq (Or.inr (Or.inl ⟨Or.inl rfl, rfl⟩))
  have hR1 := hR.push (i := I q) (r := fun _ => none) hC hq
  have hX1 : PX L K N T (L ++ [q]) (va_up K q 8) N (va_up T q (T q)) := PX.push hq
  generalize hL1 : L ++ [q] = L1 at hP hD hC1 hX1
  generalize hK1 : va_up K q 8 = K1 at hP hD hC1 hX1
  generalize va_up T q (T q) = T1 at hP hD hC1 hX1
  generalize va_up I q (I q) = I1 at hP hD hC1 hR1
  generalize va_up Q q (fun _ => none) = Q1 at hP hD hC1 hR1
  have hqL : q ∈ L1 := by rw [← hL1]; exact List.mem_append_right _ (List.mem_singleton.mpr rfl)
  have hqK : K1 q = 8 := by rw [← hK1]; exact va_up_self _ _ _
  have e2 : pF cy (va_up K1 b 4) N (va_up T1 b (fun _ => q)) (va_up I1 b (fun f => [0, x1, x2, x3, x4, x5, x6].getD f 0)) (va_up Q1 b (Q1 b)) J b = .inr (4, [.ref q, .int x1, .int x2, .int x3, .int x4, .int x5, .int x6]) := by
    rw [pF_4 (va_up_self _ _ _)]; simp only [va_up_self]; rfl
  rw [← e2] at hP hD
  obtain ⟨g1, g2⟩ := pNew hC1 hR1 (Or.inr (Or.inr (Or.inr ⟨rfl, hqL, hqK, hx⟩))) hP hD
  exact ⟨_, _, _, _, _, g1, hX1.trans g2, List.mem_append_right _ (List.mem_singleton.mpr rfl), va_up_self _ _ _⟩
/-- a Partition with its Replica[5] -/
theorem pNew2 {b : Nat} {x0 x1 x3 x4 x5 : Int32} (hC : CT v L K N T I Q) (hR : RS v I0 Q0 J0 I Q J) (hP : va_P (dC, dI) vwCl ((b, .inr (2, [.int x0, .int x1, .ref q, .int x3, .int x4, .int x5])) :: va_pl L (pF cy K N T I Q J) ++ [(q, .inl (cy 12, 5, .inr (.inr (.inr (.inr (fun _ => none))))))]) H) (hD : va_D A ((b, .inr (2, [.int x0, .int x1, .ref q, .int x3, .int x4, .int x5])) :: va_pl L (pF cy K N T I Q J) ++ [(q, .inl (cy 12, 5, .inr (.inr (.inr (.inr (fun _ => none))))))])) : ∃ L' K' T' I' Q', PG dC dI cy v N A H J I0 Q0 J0 L' K' T' I' Q' ∧ PX L K N T L' K' N T' ∧ b ∈ L' ∧ K' b = 2 := by
  have hP := va_P.swap (a := []) (b := [(b, .inr (2, [.int x0, .int x1, .ref q, .int x3, .int x4, .int x5]))]) (c := va_pl L (pF cy K N T I Q J) ++ [(q, .inl (cy 12, 5, .inr (.inr (.inr (.inr (fun _ => none))))))]) hP
  have hD := va_D.swap (a := []) (b := [(b, .inr (2, [.int x0, .int x1, .ref q, .int x3, .int x4, .int x5]))]) (c := va_pl L (pF cy K N T I Q J) ++ [(q, .inl (cy 12, 5, .inr (.inr (.inr (.inr (fun _ => none))))))]) hD
  rw [List.nil_append] at hP hD
  have hDq : va_D A (va_pl L (pF cy K N T I Q J) ++ [(q, .inl (cy 12, 5, .inr (.inr (.inr (.inr (fun _ => none))))))]) := ⟨fun i j x y hi hj => hD.1 i j x y (by rw [List.getElem?_append_left (List.getElem?_eq_some_iff.mp hi).1]; exact hi) (by rw [List.getElem?_append_left (List.getElem?_eq_some_iff.mp hj).1]; exact hj), fun k x hk => hD.2 k x (by rw [List.getElem?_append_left (List.getElem?_eq_some_iff.mp hk).1]; exact hk)⟩
  have hq : q ∉ L := va_pl_fresh2 (X := []) hDq
  have e : pF cy (va_up K q 12) N (va_up T q (T q)) (va_up I q (I q)) (va_up Q q (fun _ => none)) J q = .inl (cy 12, 5, .inr (.inr (.inr (.inr (fun _ => none))))) := by
    rw [pF_12 (va_up_self _ _ _)]; simp only [va_up_self]
  rw [← e, pPush hq] at hP hD
  have hC1 := hC.push (k := 12) (t := T q) (i := I q) (r := fun _ => none) hq (Or.inr (Or.inl ⟨Or.inr rfl, rfl⟩))
  have hR1 := hR.push (i := I q) (r := fun _ => none) hC hq
  have hX1 : PX L K N T (L ++ [q]) (va_up K q 12) N (va_up T q (T q)) := PX.push hq
  generalize hL1 : L ++ [q] = L1 at hP hD hC1 hX1
  generalize hK1 : va_up K q 12 = K1 at hP hD hC1 hX1
  generalize va_up T q (T q) = T1 at hP hD hC1 hX1
  generalize va_up I q (I q) = I1 at hP hD hC1 hR1
  generalize va_up Q q (fun _ => none) = Q1 at hP hD hC1 hR1
  have hqL : q ∈ L1 := by rw [← hL1]; exact List.mem_append_right _ (List.mem_singleton.mpr rfl)
  have hqK : K1 q = 12 := by rw [← hK1]; exact va_up_self _ _ _
  have e2 : pF cy (va_up K1 b 2) N (va_up T1 b (fun _ => q)) (va_up I1 b (fun f => [x0, x1, 0, x3, x4, x5].getD f 0)) (va_up Q1 b (Q1 b)) J b = .inr (2, [.int x0, .int x1, .ref q, .int x3, .int x4, .int x5]) := by
    rw [pF_2 (va_up_self _ _ _)]; simp only [va_up_self]; rfl
  rw [← e2] at hP hD
  obtain ⟨g1, g2⟩ := pNew hC1 hR1 (Or.inr (Or.inr (Or.inl ⟨rfl, hqL, hqK⟩))) hP hD
  exact ⟨_, _, _, _, _, g1, hX1.trans g2, List.mem_append_right _ (List.mem_singleton.mpr rfl), va_up_self _ _ _⟩
end XG
theorem xk_sameQ {D : va_G} {cl : List vw_C} {tys : List (ClassId × FieldType)} {s : State} {a b : ClassId} {C : String} (hK : va_K D cl tys s) (i j : Nat) (hi : tys[i]? = some (a, .object C)) (hj : tys[j]? = some (b, .object C)) : a = b := by
  obtain ⟨_, _, _, _, _, h1⟩ := (hK.2 i _ hi).2
  obtain ⟨_, _, _, _, _, h2⟩ := (hK.2 j _ hj).2
  exact Option.some.inj (h1.symm.trans h2)
section XG
variable {v : Nat → Nat} {L : List Nat} {K N : Nat → Nat} {T : Nat → Nat → Nat} {I : Nat → Nat → Int32} {Q : Nat → Nat → Option Nat} {J : Nat → Nat → Int32}
/-- a place of a Replica[] gets a Replica or null -/
theorem CT.q12 (h : CT v L K N T I Q) {a i : Nat} {y : Option Nat} (ha : K a = 12) (hy : ∀ b, y = some b → b ∈ L ∧ K b = 4) : CT v L K N T I (p2 Q a i y) := by
  obtain ⟨h1, h2, h3, h4, h5, h6, h7, h8, h9⟩ := h
  have nv : ∀ k, k < 18 → ¬ v k = a := fun k hk q => by
    have e := (h1.1 k hk).2
    rw [q, ha] at e
    unfold xK at e
    repeat' split at e
    all_goals omega
  refine ⟨h1, ⟨fun j hj => ?_, fun j hj => ?_⟩, fun b hb => ?_, fun j b hj hb => ?_, h5, fun c hc hk j b hj hb => ?_, h7, h8, fun c hc hk j b hj hb => ?_⟩
  · rw [p2_na _ _ (nv 2 (by decide))]; exact h2.1 j hj
  · rw [p2_na _ _ (nv 3 (by decide))]; exact h2.2 j hj
  · rw [p2_na _ _ (nv 0 (by decide))] at hb; exact h3 b hb
  · rw [p2_na _ _ (nv 1 (by decide))] at hb; exact h4 j b hj hb
  · by_cases hca : c = a
    · subst hca
      by_cases hji : j = i
      · subst hji; rw [p2_at] at hb; exact hy b hb
      · rw [p2_ne _ _ (fun q => hji q.2)] at hb; exact h6 c hc hk j b hj hb
    · rw [p2_na _ _ hca] at hb; exact h6 c hc hk j b hj hb
  · have hca : ¬ c = a := fun q => by rw [q, ha] at hk; omega
    rw [p2_na _ _ hca] at hb
    exact h9 c hc hk j b hj hb
/-- a place of the Partition[] gets a Partition -/
theorem CT.q10 (h : CT v L K N T I Q) {i : Nat} {y : Option Nat} (hy : ∀ b, y = some b → b ∈ L ∧ K b = 2) : CT v L K N T I (p2 Q (v 1) i y) := by
  obtain ⟨h1, h2, h3, h4, h5, h6, h7, h8, h9⟩ := h
  have nv : ∀ k, k < 18 → ¬ k = 1 → ¬ v k = v 1 := fun k hk h0 q => h0 (h1.2.1 k 1 hk (by decide) q)
  have kv : K (v 1) = 10 := (h1.1 1 (by decide)).2
  refine ⟨h1, ⟨fun j hj => ?_, fun j hj => ?_⟩, fun b hb => ?_, fun j b hj hb => ?_, h5, fun c hc hk j b hj hb => ?_, h7, h8, fun c hc hk j b hj hb => ?_⟩
  · rw [p2_na _ _ (nv 2 (by decide) (by decide))]; exact h2.1 j hj
  · rw [p2_na _ _ (nv 3 (by decide) (by decide))]; exact h2.2 j hj
  · rw [p2_na _ _ (nv 0 (by decide) (by decide))] at hb; exact h3 b hb
  · by_cases hji : j = i
    · subst hji; rw [p2_at] at hb; exact hy b hb
    · rw [p2_ne _ _ (fun q => hji q.2)] at hb; exact h4 j b hj hb
  · have hca : ¬ c = v 1 := fun q => by rw [q, kv] at hk; omega
    rw [p2_na _ _ hca] at hb
    exact h6 c hc hk j b hj hb
  · have hca : ¬ c = v 1 := fun q => by rw [q, kv] at hk; omega
    rw [p2_na _ _ hca] at hb
    exact h9 c hc hk j b hj hb
end XG
/-- a constructor's start: its own cell, not yet well, ahead of the pool -/
abbrev pW1 (dC : Nat → ClassId) (dI : Nat → Nat → Nat) (cy : Nat → ClassId) (x : Nat × va_E) (L : List Nat) (F : Nat → va_E) (sz : Nat) (U : State) : Prop := U.heap.size = sz ∧ (va_P (dC, dI) vwCl (x :: va_pl L F) U.heap ∧ va_K (dC, dI) vwCl (pTy cy) U ∧ xN U) ∧ va_D (fun _ => True) (x :: va_pl L F)
theorem pw1_blind {dC : Nat → ClassId} {dI : Nat → Nat → Nat} {cy : Nat → ClassId} {x : Nat × va_E} {L : List Nat} {F : Nat → va_E} {sz : Nat} {av : List Value} : FrameBlind (va_Pc av (pW1 dC dI cy x L F sz)) := fun a U g mk q => by
  obtain ⟨q0, q1, ⟨qP, qK, qN⟩, qD⟩ := q
  exact ⟨q0, q1, ⟨qP, va_K.moved (u := U) (U := U.calling g mk a) (Vm.Alike.refl U.vm) qK, qN.same⟩, qD⟩
theorem pw1_pre {dC : Nat → ClassId} {dI : Nat → Nat → Nat} {cy : Nat → ClassId} {x : Nat × va_E} {L : List Nat} {F : Nat → va_E} {A : Nat → Prop} {s U : State} {H : Heap} (hP : va_P (dC, dI) vwCl (x :: va_pl L F) H) (hK : va_K (dC, dI) vwCl (pTy cy) s) (hN : xN s) (hD : va_D A (x :: va_pl L F)) (hU : U.heap = H) (hW : s.WarmedH U.vm) : pW1 dC dI cy x L F H.size U := ⟨by rw [hU], ⟨by rw [hU]; exact hP, va_K.moved hW.alike hK, hN.warm hW⟩, hD.weaken (fun _ _ _ _ => trivial)⟩
