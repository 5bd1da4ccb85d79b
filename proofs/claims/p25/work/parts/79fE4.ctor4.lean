section XG
variable {v : Nat → Nat} {L L1 L2 : List Nat} {K N K1 N1 K2 N2 : Nat → Nat} {T T1 T2 : Nat → Nat → Nat} {I I1 I2 I0 : Nat → Nat → Int32} {Q Q1 Q2 Q0 : Nat → Nat → Option Nat} {J J1 J2 J0 : Nat → Nat → Int32} {cy : Nat → ClassId} {q k : Nat} {t : Nat → Nat} {i : Nat → Int32} {r : Nat → Option Nat}
variable {A : Nat → Prop} {dC : Nat → ClassId} {dI : Nat → Nat → Nat} {H : Heap}
/-- a Replica with its Entry[60] -/
theorem pNew4x {b : Nat} {x1 x2 x3 x4 x5 x6 : Int32} (hx : 0 ≤ x1.toInt) (hC : CT v L K N T I Q) (hP : va_P (dC, dI) vwCl ((b, .inr (4, [.ref q, .int x1, .int x2, .int x3, .int x4, .int x5, .int x6])) :: va_pl L (pF cy K N T I Q J) ++ [(q, .inl (cy 8, 60, .inr (.inr (.inr (.inr (fun _ => none))))))]) H) (hD : va_D A ((b, .inr (4, [.ref q, .int x1, .int x2, .int x3, .int x4, .int x5, .int x6])) :: va_pl L (pF cy K N T I Q J) ++ [(q, .inl (cy 8, 60, .inr (.inr (.inr (.inr (fun _ => none))))))])) : ∃ L' K' T' I' Q', PGx dC dI cy v N A H J L K T I Q L' K' T' I' Q' ∧ (b ∈ L' ∧ K' b = 4) ∧ (b ∉ L ∧ T' b 0 ∉ L) := by
  have hP := va_P.swap (a := []) (b := [(b, .inr (4, [.ref q, .int x1, .int x2, .int x3, .int x4, .int x5, .int x6]))]) (c := va_pl L (pF cy K N T I Q J) ++ [(q, .inl (cy 8, 60, .inr (.inr (.inr (.inr (fun _ => none))))))]) hP
  have hD := va_D.swap (a := []) (b := [(b, .inr (4, [.ref q, .int x1, .int x2, .int x3, .int x4, .int x5, .int x6]))]) (c := va_pl L (pF cy K N T I Q J) ++ [(q, .inl (cy 8, 60, .inr (.inr (.inr (.inr (fun _ => none))))))]) hD
  rw [List.nil_append] at hP hD
  have hDq : va_D A (va_pl L (pF cy K N T I Q J) ++ [(q, .inl (cy 8, 60, .inr (.inr (.inr (.inr (fun _ => none))))))]) := ⟨fun i j x y hi hj => hD.1 i j x y (by rw [List.getElem?_append_left (List.getElem?_eq_some_iff.mp hi).1]; exact hi) (by rw [List.getElem?_append_left (List.getElem?_eq_some_iff.mp hj).1]; exact hj), fun k x hk => hD.2 k x (by rw [List.getElem?_append_left (List.getElem?_eq_some_iff.mp hk).1]; exact hk)⟩
  have hq : q ∉ L := va_pl_fresh2 (X := []) hDq
  have e : pF cy (va_up K q 8) N (va_up T q (T q)) (va_up I q (I q)) (va_up Q q (fun _ => none)) J q = .inl (cy 8, 60, .inr (.inr (.inr (.inr (fun _ => none))))) := by
    rw [pF_8 (va_up_self _ _ _)]; simp only [va_up_self]
  rw [← e, pPush hq] at hP hD
  have hC1 := hC.push (k := 8) (t := T q) (i := I q) (r := fun _ => none) hq (Or.inr (Or.inl ⟨Or.inl rfl, rfl⟩))
  have hX1 : PX L K N T (L ++ [q]) (va_up K q 8) N (va_up T q (T q)) := PX.push hq
  have ho1 : ∀ a, a ∈ L → va_up I q (I q) a = I a ∧ va_up Q q (fun _ => none) a = Q a := fun a ha => ⟨va_up_ne _ _ (fun z => hq (z ▸ ha)), va_up_ne _ _ (fun z => hq (z ▸ ha))⟩
  generalize hL1 : L ++ [q] = L1 at hP hD hC1 hX1
  generalize hK1 : va_up K q 8 = K1 at hP hD hC1 hX1
  generalize va_up T q (T q) = T1 at hP hD hC1 hX1
  generalize va_up I q (I q) = I1 at hP hD hC1 ho1
  generalize va_up Q q (fun _ => none) = Q1 at hP hD hC1 ho1
  have hqL : q ∈ L1 := by rw [← hL1]; exact List.mem_append_right _ (List.mem_singleton.mpr rfl)
  have hqK : K1 q = 8 := by rw [← hK1]; exact va_up_self _ _ _
  have e2 : pF cy (va_up K1 b 4) N (va_up T1 b (fun _ => q)) (va_up I1 b (fun f => [0, x1, x2, x3, x4, x5, x6].getD f 0)) (va_up Q1 b (Q1 b)) J b = .inr (4, [.ref q, .int x1, .int x2, .int x3, .int x4, .int x5, .int x6]) := by
    rw [pF_4 (va_up_self _ _ _)]; simp only [va_up_self]; rfl
  rw [← e2] at hP hD
  obtain ⟨⟨g1, g2, g3⟩, g4⟩ := pNewx hC1 (Or.inr (Or.inr (Or.inr ⟨rfl, hqL, hqK, hx⟩))) hP hD
  refine ⟨_, _, _, _, _, ⟨g1, hX1.trans g2, fun a ha => ⟨((g3 a (hX1 a ha).1).1).trans (ho1 a ha).1, ((g3 a (hX1 a ha).1).2).trans (ho1 a ha).2⟩⟩, ⟨List.mem_append_right _ (List.mem_singleton.mpr rfl), va_up_self _ _ _⟩, fun z => g4 (hX1 b z).1, ?_⟩
  rw [va_up_self]; exact hq
/-- a Partition with its Replica[5] -/
theorem pNew2x {b : Nat} {x0 x1 x3 x4 x5 : Int32} (hC : CT v L K N T I Q) (hP : va_P (dC, dI) vwCl ((b, .inr (2, [.int x0, .int x1, .ref q, .int x3, .int x4, .int x5])) :: va_pl L (pF cy K N T I Q J) ++ [(q, .inl (cy 12, 5, .inr (.inr (.inr (.inr (fun _ => none))))))]) H) (hD : va_D A ((b, .inr (2, [.int x0, .int x1, .ref q, .int x3, .int x4, .int x5])) :: va_pl L (pF cy K N T I Q J) ++ [(q, .inl (cy 12, 5, .inr (.inr (.inr (.inr (fun _ => none))))))])) : ∃ L' K' T' I' Q', PGx dC dI cy v N A H J L K T I Q L' K' T' I' Q' ∧ (b ∈ L' ∧ K' b = 2) ∧ (b ∉ L ∧ T' b 2 ∉ L) ∧ (∀ n, Q' (T' b 2) n = none) := by
  have hP := va_P.swap (a := []) (b := [(b, .inr (2, [.int x0, .int x1, .ref q, .int x3, .int x4, .int x5]))]) (c := va_pl L (pF cy K N T I Q J) ++ [(q, .inl (cy 12, 5, .inr (.inr (.inr (.inr (fun _ => none))))))]) hP
  have hD := va_D.swap (a := []) (b := [(b, .inr (2, [.int x0, .int x1, .ref q, .int x3, .int x4, .int x5]))]) (c := va_pl L (pF cy K N T I Q J) ++ [(q, .inl (cy 12, 5, .inr (.inr (.inr (.inr (fun _ => none))))))]) hD
  rw [List.nil_append] at hP hD
  have hDq : va_D A (va_pl L (pF cy K N T I Q J) ++ [(q, .inl (cy 12, 5, .inr (.inr (.inr (.inr (fun _ => none))))))]) := ⟨fun i j x y hi hj => hD.1 i j x y (by rw [List.getElem?_append_left (List.getElem?_eq_some_iff.mp hi).1]; exact hi) (by rw [List.getElem?_append_left (List.getElem?_eq_some_iff.mp hj).1]; exact hj), fun k x hk => hD.2 k x (by rw [List.getElem?_append_left (List.getElem?_eq_some_iff.mp hk).1]; exact hk)⟩
  have hq : q ∉ L := va_pl_fresh2 (X := []) hDq
  have e : pF cy (va_up K q 12) N (va_up T q (T q)) (va_up I q (I q)) (va_up Q q (fun _ => none)) J q = .inl (cy 12, 5, .inr (.inr (.inr (.inr (fun _ => none))))) := by
    rw [pF_12 (va_up_self _ _ _)]; simp only [va_up_self]
  rw [← e, pPush hq] at hP hD
  have hC1 := hC.push (k := 12) (t := T q) (i := I q) (r := fun _ => none) hq (Or.inr (Or.inl ⟨Or.inr rfl, rfl⟩))
  have hX1 : PX L K N T (L ++ [q]) (va_up K q 12) N (va_up T q (T q)) := PX.push hq
  have ho1 : ∀ a, a ∈ L → va_up I q (I q) a = I a ∧ va_up Q q (fun _ => none) a = Q a := fun a ha => ⟨va_up_ne _ _ (fun z => hq (z ▸ ha)), va_up_ne _ _ (fun z => hq (z ▸ ha))⟩
  have hQq : va_up Q q (fun _ => none) q = fun _ => none := va_up_self _ _ _
  generalize hL1 : L ++ [q] = L1 at hP hD hC1 hX1
  generalize hK1 : va_up K q 12 = K1 at hP hD hC1 hX1
  generalize va_up T q (T q) = T1 at hP hD hC1 hX1
  generalize va_up I q (I q) = I1 at hP hD hC1 ho1
  generalize va_up Q q (fun _ => none) = Q1 at hP hD hC1 ho1 hQq
  have hqL : q ∈ L1 := by rw [← hL1]; exact List.mem_append_right _ (List.mem_singleton.mpr rfl)
  have hqK : K1 q = 12 := by rw [← hK1]; exact va_up_self _ _ _
  have e2 : pF cy (va_up K1 b 2) N (va_up T1 b (fun _ => q)) (va_up I1 b (fun f => [x0, x1, 0, x3, x4, x5].getD f 0)) (va_up Q1 b (Q1 b)) J b = .inr (2, [.int x0, .int x1, .ref q, .int x3, .int x4, .int x5]) := by
    rw [pF_2 (va_up_self _ _ _)]; simp only [va_up_self]; rfl
  rw [← e2] at hP hD
  obtain ⟨⟨g1, g2, g3⟩, g4⟩ := pNewx hC1 (Or.inr (Or.inr (Or.inl ⟨rfl, hqL, hqK⟩))) hP hD
  refine ⟨_, _, _, _, _, ⟨g1, hX1.trans g2, fun a ha => ⟨((g3 a (hX1 a ha).1).1).trans (ho1 a ha).1, ((g3 a (hX1 a ha).1).2).trans (ho1 a ha).2⟩⟩, ⟨List.mem_append_right _ (List.mem_singleton.mpr rfl), va_up_self _ _ _⟩, ⟨fun z => g4 (hX1 b z).1, ?_⟩, fun n => ?_⟩
  · rw [va_up_self]; exact hq
  · have eT : va_up T1 b (fun _ => q) b 2 = q := by rw [va_up_self]
    rw [eT, va_up_ne _ _ (fun z => g4 (by rw [← z]; exact hqL)), hQq]
/-- the logs of a partition in the making: the first k places of its row -/
def NPk (L0 L : List Nat) (K : Nat → Nat) (T : Nat → Nat → Nat) (I : Nat → Nat → Int32) (Q : Nat → Nat → Option Nat) (b : Nat) (mk nw : Int32) (c : Nat → Nat) (k : Nat) : Prop :=
  (∀ n, n < 5 → (n < k ∧ bt mk n → Q (T b 2) n = some (c n)) ∧ (¬ (n < k ∧ bt mk n) → Q (T b 2) n = none)) ∧
  (∀ n, n < k → bt mk n → (c n ∈ L ∧ K (c n) = 4) ∧ (c n ∉ L0 ∧ T (c n) 0 ∉ L0) ∧ ∀ f, 1 ≤ f → f ≤ 6 → I (c n) f = if f = 6 then nw else 0) ∧
  (∀ n m, n < k → m < k → bt mk n → bt mk m → (c n = c m ∨ T (c n) 0 = T (c m) 0) → n = m)
/-- a partition in the making, beside an elder pool that stays as it was -/
def XB (v : Nat → Nat) (N : Nat → Nat) (L : List Nat) (K : Nat → Nat) (T : Nat → Nat → Nat) (I : Nat → Nat → Int32) (Q : Nat → Nat → Option Nat) (J : Nat → Nat → Int32) (mk st mn nw : Int32) (b k : Nat) (c : Nat → Nat) (L' : List Nat) (K' : Nat → Nat) (T' : Nat → Nat → Nat) (I' : Nat → Nat → Int32) (Q' : Nat → Nat → Option Nat) (J' : Nat → Nat → Int32) : Prop :=
  CT v L' K' N T' I' Q' ∧ PX L K N T L' K' N T' ∧ (∀ a, a ∈ L → I' a = I a ∧ Q' a = Q a) ∧ J' = J ∧ ((b ∈ L' ∧ K' b = 2) ∧ b ∉ L ∧ T' b 2 ∉ L) ∧ (I' b 0 = mk ∧ I' b 1 = mn ∧ I' b 3 = sp_lo st ∧ I' b 4 = 0 ∧ I' b 5 = st) ∧ NPk L L' K' T' I' Q' b mk nw c k
section
variable {mk st mn nw : Int32} {b : Nat} {c : Nat → Nat}
theorem XB.ct (h : XB v N L K T I Q J mk st mn nw b k c L1 K1 T1 I1 Q1 J1) : CT v L1 K1 N T1 I1 Q1 := h.1
theorem XB.row (h : XB v N L K T I Q J mk st mn nw b k c L1 K1 T1 I1 Q1 J1) : T1 b 2 ∈ L1 ∧ K1 (T1 b 2) = 12 := h.1.2.2.2.2.1 b h.2.2.2.2.1.1.1 h.2.2.2.2.1.1.2
/-- no log here -/
theorem XB.nul (h : XB v N L K T I Q J mk st mn nw b k c L1 K1 T1 I1 Q1 J1) (hk : k < 5) (hb : ¬ bt mk k) {t : Nat} (et : t = T1 b 2) (hC : CT v L1 K1 N T1 I1 (p2 Q1 t k none)) : XB v N L K T I Q J mk st mn nw b (k + 1) c L1 K1 T1 I1 (p2 Q1 t k none) J1 := by
  subst et
  have hr := h.row
  obtain ⟨h1, h2, h3, h4, h5, h6, n1, n2, n3⟩ := h
  refine ⟨hC, h2, fun a ha => ⟨(h3 a ha).1, ?_⟩, h4, h5, h6, fun n hn => ⟨fun z => ?_, fun z => ?_⟩, fun n hn hb2 => ?_, fun n m hn hm z1 z2 => ?_⟩
  · rw [p2_na _ _ (fun z => h5.2.2 (by rw [← z]; exact ha))]; exact (h3 a ha).2
  · have e : ¬ n = k := fun e => hb (e ▸ z.2)
    rw [p2_ne _ _ (fun y => e y.2)]; exact (n1 n hn).1 ⟨by omega, z.2⟩
  · by_cases e : n = k
    · rw [e, p2_at]
    · rw [p2_ne _ _ (fun y => e y.2)]; exact (n1 n hn).2 (fun y => z ⟨by omega, y.2⟩)
  · exact n2 n (by have e : ¬ n = k := fun e => hb (e ▸ hb2); omega) hb2
  · exact n3 n m (by have e : ¬ n = k := fun e => hb (e ▸ z1); omega) (by have e : ¬ m = k := fun e => hb (e ▸ z2); omega) z1 z2
/-- one more log -/
theorem XB.rep (h : XB v N L K T I Q J mk st mn nw b k c L1 K1 T1 I1 Q1 J1) (hk : k < 5) (hb : bt mk k) {r t : Nat} (et : t = T1 b 2) (hX : PX L1 K1 N T1 L2 K2 N T2) (ho : ∀ a, a ∈ L1 → I2 a = I1 a ∧ Q2 a = Q1 a) (hJ : J2 = J1) (hr : r ∈ L2 ∧ K2 r = 4) (hn : r ∉ L1 ∧ T2 r 0 ∉ L1) (hf : ∀ f, 1 ≤ f → f ≤ 6 → I2 r f = if f = 6 then nw else 0) (hC : CT v L2 K2 N T2 I2 (p2 Q2 t k (some r))) : XB v N L K T I Q J mk st mn nw b (k + 1) (va_up c k r) L2 K2 T2 I2 (p2 Q2 t k (some r)) J2 := by
  have hrow := h.row
  obtain ⟨h1, h2, h3, h4, h5, h6, n1, n2, n3⟩ := h
  have sub : ∀ a, a ∈ L → a ∈ L1 := fun a ha => (h2 a ha).1
  have eb : T2 b = T1 b := (hX b h5.1.1).2.2.2
  have ib : I2 b = I1 b := (ho b h5.1.1).1
  have et2 : T2 b 2 = t := by rw [eb]; exact et.symm
  have htL : t ∈ L1 := by rw [et]; exact hrow.1
  have qt : Q2 t = Q1 t := (ho t htL).2
  refine ⟨hC, h2.trans hX, fun a ha => ⟨((ho a (sub a ha)).1).trans (h3 a ha).1, ?_⟩, hJ.trans h4, ⟨⟨(hX b h5.1.1).1, (hX b h5.1.1).2.1.trans h5.1.2⟩, h5.2.1, by rw [eb]; exact h5.2.2⟩, by rw [ib]; exact h6, fun n hn5 => ⟨fun z => ?_, fun z => ?_⟩, fun n hn5 hb2 => ?_, fun n m hn5 hm5 z1 z2 z3 => ?_⟩
  · rw [p2_na _ _ (fun z => h5.2.2 (by rw [← et, ← z]; exact ha))]
    exact ((ho a (sub a ha)).2).trans (h3 a ha).2
  · rw [et2]
    by_cases e : n = k
    · rw [e, p2_at, va_up_self]
    · rw [p2_ne _ _ (fun y => e y.2), va_up_ne _ _ e, qt, et]; exact (n1 n hn5).1 ⟨by omega, z.2⟩
  · rw [et2]
    have e : ¬ n = k := fun e => z ⟨by omega, e ▸ hb⟩
    rw [p2_ne _ _ (fun y => e y.2), qt, et]; exact (n1 n hn5).2 (fun y => z ⟨by omega, y.2⟩)
  · by_cases e : n = k
    · rw [e, va_up_self]; exact ⟨hr, ⟨fun z => hn.1 (sub r z), fun z => hn.2 (sub _ z)⟩, hf⟩
    · rw [va_up_ne _ _ e]
      obtain ⟨m1, m2, m3⟩ := n2 n (by omega) hb2
      have ec := hX (c n) m1.1
      exact ⟨⟨ec.1, ec.2.1.trans m1.2⟩, ⟨m2.1, by rw [ec.2.2.2]; exact m2.2⟩, fun f f1 f2 => by rw [(ho (c n) m1.1).1]; exact m3 f f1 f2⟩
  · have old : ∀ n, n < k + 1 → ¬ n = k → bt mk n → c n ∈ L1 ∧ T1 (c n) 0 ∈ L1 ∧ T2 (c n) = T1 (c n) := fun n hn e hb2 => by
      have m1 := (n2 n (by omega) hb2).1
      exact ⟨m1.1, (h1.2.2.2.2.2.2.1 _ m1.1 m1.2).1, (hX (c n) m1.1).2.2.2⟩
    by_cases e : n = k
    · by_cases e2 : m = k
      · omega
      · rw [e, va_up_self, va_up_ne _ _ e2] at z3
        obtain ⟨o1, o2, o3⟩ := old m hm5 e2 z2
        rcases z3 with z | z
        · exact absurd (z ▸ o1) hn.1
        · rw [o3] at z; exact absurd (z ▸ o2) hn.2
    · by_cases e2 : m = k
      · rw [e2, va_up_self, va_up_ne _ _ e] at z3
        obtain ⟨o1, o2, o3⟩ := old n hn5 e z1
        rcases z3 with z | z
        · exact absurd (z ▸ o1) hn.1
        · rw [o3] at z; exact absurd (z ▸ o2) hn.2
      · rw [va_up_ne _ _ e, va_up_ne _ _ e2] at z3
        obtain ⟨o1, o2, o3⟩ := old n hn5 e z1
        obtain ⟨p1, p2', p3⟩ := old m hm5 e2 z2
        rw [o3, p3] at z3
        exact n3 n m (by omega) (by omega) z1 z2 z3
end
end XG
section XC
variable {v pa ra : Nat → Nat} {L L1 : List Nat} {K N K1 : Nat → Nat} {T T1 : Nat → Nat → Nat} {I I1 : Nat → Nat → Int32} {Q Q1 : Nat → Nat → Option Nat} {J J1 : Nat → Nat → Int32} {σ : SG} {P b : Nat} {c : Nat → Nat} {mk mn : Int32}
/-- create, once nothing stands against it -/
def oCe (σ : SG) (P : Nat) (mk mn : Int32) : SG := gTwo (sA (sA (sA (sA (sA (sA σ 2 P 1) 3 P mk) 6 P mn) 5 P 0) 7 P (mk &&& σ.1 0 0)) 4 P (sp_nz (mk &&& σ.1 0 0))) P 6 5 (σ.1 0 1) 0 5
theorem oCe_t : (∀ i q, ¬ ((2 ≤ i ∧ i ≤ 7) ∧ q = P) → (oCe σ P mk mn).1 i q = σ.1 i q) ∧ (oCe σ P mk mn).1 2 P = 1 ∧ (oCe σ P mk mn).1 3 P = mk ∧ (oCe σ P mk mn).1 6 P = mn ∧ (oCe σ P mk mn).1 5 P = 0 ∧ (oCe σ P mk mn).1 7 P = mk &&& σ.1 0 0 ∧ (oCe σ P mk mn).1 4 P = sp_nz (mk &&& σ.1 0 0) := by
  unfold oCe
  rw [gTwo_1]
  refine ⟨fun i q h => by rw [sA_q (by omega), sA_q (by omega), sA_q (by omega), sA_q (by omega), sA_q (by omega), sA_q (by omega)], ?_, ?_, ?_, ?_, ?_, ?_⟩
  · rw [sA_n (by decide), sA_n (by decide), sA_n (by decide), sA_n (by decide), sA_n (by decide), sA_s]
  · rw [sA_n (by decide), sA_n (by decide), sA_n (by decide), sA_n (by decide), sA_s]
  · rw [sA_n (by decide), sA_n (by decide), sA_n (by decide), sA_s]
  · rw [sA_n (by decide), sA_n (by decide), sA_s]
  · rw [sA_n (by decide), sA_s]
  · rw [sA_s]
theorem gTwo_f {σ : SG} {p f1 f2 : Nat} {x y : Int32} (h : ¬ f1 = f2) : ∀ k n, n < k → (gTwo σ p f1 f2 x y k).2.1 (5 * p + n) f1 = x ∧ (gTwo σ p f1 f2 x y k).2.1 (5 * p + n) f2 = y := by
  intro k
  induction k with
  | zero => exact fun n hn => absurd hn (Nat.not_lt_zero _)
  | succ k ih =>
    intro n hn
    show (sG (sG (gTwo σ p f1 f2 x y k) (5 * p + k) f1 x) (5 * p + k) f2 y).2.1 (5 * p + n) f1 = x ∧ (sG (sG (gTwo σ p f1 f2 x y k) (5 * p + k) f1 x) (5 * p + k) f2 y).2.1 (5 * p + n) f2 = y
    by_cases e : n = k
    · rw [e]; exact ⟨by rw [sG_o h, sG_s], sG_s⟩
    · rw [sG_n (by omega), sG_n (by omega)]; exact ih n (by omega)
theorem gTwo_o {σ : SG} {p f1 f2 : Nat} {x y : Int32} {i : Nat} (h : ¬ i / 5 = p) : ∀ k, k ≤ 5 → (gTwo σ p f1 f2 x y k).2.1 i = σ.2.1 i := by
  intro k
  induction k with
  | zero => exact fun _ => rfl
  | succ k ih =>
    intro hk
    show (sG (sG (gTwo σ p f1 f2 x y k) (5 * p + k) f1 x) (5 * p + k) f2 y).2.1 i = _
    rw [sG_n (by omega), sG_n (by omega)]; exact ih (by omega)
theorem REP.ce (h : REP v pa ra L K N T I Q J (kxo σ) σ) (hSK : SK σ) (hB : B5 (σ.1 0 0)) (hP : P < 4) (ht : σ.1 2 P = 0) (hst : ¬ mk &&& σ.1 0 0 = 0) (hX : XB v N L K T I Q J mk (mk &&& σ.1 0 0) mn (σ.1 0 1) b 5 c L1 K1 T1 I1 Q1 J1) (hC : CT v L1 K1 N T1 I1 (p2 Q1 (v 1) P (some b))) : REP v (va_up pa P b) (fun j => if j / 5 = P then c (j % 5) else ra j) L1 K1 N T1 I1 (p2 Q1 (v 1) P (some b)) J1 (kxo (oCe σ P mk mn)) (oCe σ P mk mn) := by
  obtain ⟨h1, h2, h3, h4, h5, h6, n1, n2, n3⟩ := hX
  have hE : REP v pa ra L1 K1 N T1 I1 Q1 J1 (kxo σ) σ := h.mv h1 (fun a ha => (h2 a ha).2.2.2) (fun a ha => (h3 a ha).1) (fun a ha => (h3 a ha).2) (fun _ _ => by rw [h4])
  obtain ⟨t0, t2, t3, t6, t5, t7, t4⟩ := oCe_t (σ := σ) (P := P) (mk := mk) (mn := mn)
  have hlo : sp_lo (mk &&& σ.1 0 0) = sp_nz (mk &&& σ.1 0 0) := B5.lo (B5.and' hB) hst
  have hz := ((hSK.1 P hP).1 ht).2
  have hld := ((hSK.1 P hP).1 ht).1
  have gf : ∀ n, n < 5 → ∀ f, 1 ≤ f → f ≤ 6 → (oCe σ P mk mn).2.1 (5 * P + n) f = if f = 6 then σ.1 0 1 else 0 := fun n hn f f1 f2 => by
    unfold oCe
    obtain ⟨g6, g5⟩ := gTwo_f (σ := sA (sA (sA (sA (sA (sA σ 2 P 1) 3 P mk) 6 P mn) 5 P 0) 7 P (mk &&& σ.1 0 0)) 4 P (sp_nz (mk &&& σ.1 0 0))) (p := P) (f1 := 6) (f2 := 5) (x := σ.1 0 1) (y := 0) (by decide) 5 n hn
    by_cases e6 : f = 6
    · rw [if_pos e6, e6]; exact g6
    · rw [if_neg e6]
      by_cases e5 : f = 5
      · rw [e5]; exact g5
      · rw [gTwo_g e6 e5]; exact hz n hn f f1 (by omega)
  refine hE.wc (σ' := oCe σ P mk mn) hP ht h5.1 (c := c) (by rw [t2]; decide) ⟨by rw [t3]; exact h6.1, by rw [t6]; exact h6.2.1, by rw [t4, ← hlo]; exact h6.2.2.1, by rw [t5]; exact h6.2.2.2.1, by rw [t7]; exact h6.2.2.2.2⟩ (fun n hn => ?_) (fun n hn hb => ⟨fun f f1 f2 => ?_, ?_⟩) (fun z => h5.2.2 (by rw [z]; exact h.ct.at 1 (by decide))) (fun q hq hq2 z => h5.2.1 (by rw [← z]; exact (h.pL hq hq2).1)) (fun q m n hq hm hl hn hb => ⟨fun z => ?_, fun z => ?_⟩) (fun n m hn hm z1 z2 => n3 n m hn hm (by rw [t3] at z1; exact z1) (by rw [t3] at z2; exact z2)) t0 (fun q m hq hm => ?_) (fun q m hq hm => ?_) (fun i z => ?_) hC
  · rw [t3]
    exact ⟨fun z => (n1 n hn).1 ⟨hn, z⟩, fun z => (n1 n hn).2 (fun y => z y.2)⟩
  · rw [t3] at hb
    rw [gf n hn f f1 f2]; exact (n2 n hn hb).2.2 f f1 f2
  · unfold ze zb
    rw [gf n hn 1 (by decide) (by decide), gf n hn 2 (by decide) (by decide)]
    exact Nat.le_refl _
  · rw [t3] at hb
    exact (n2 n hn hb).2.1.1 (by rw [← z]; exact (h.rL hq hm hl).1)
  · rw [t3] at hb
    exact (n2 n hn hb).2.1.2 (by rw [← z, (h2 _ (h.rL hq hm hl).1).2.2.2]; exact (h.rS hq hm hl).1)
  · exact gTwo_o (σ := sA (sA (sA (sA (sA (sA σ 2 P 1) 3 P mk) 6 P mn) 5 P 0) 7 P (mk &&& σ.1 0 0)) 4 P (sp_nz (mk &&& σ.1 0 0))) (by omega) 5 (Nat.le_refl _)
  · unfold oCe; rw [gTwo_z]; rfl
  · unfold kxo at z ⊢
    rw [t0 0 0 (by omega)]
    rcases z with z | z
    · by_cases e : i / 5 = P
      · rw [e] at z; rw [z] at hld; exact absurd hld (nI_pos (by omega))
      · rw [t0 4 (i / 5) (by omega)]; exact Or.inl z
    · exact Or.inr z
end XC
set_option maxHeartbeats 4000000 in
set_option maxRecDepth 100000 in
/-- Replica(now), exactly -/
theorem g_X4_init (l : Launch) (dC : Nat → ClassId) (dI : Nat → Nat → Nat) (cy : Nat → ClassId) (v : Nat → Nat) (L : List Nat) (K N : Nat → Nat) (T : Nat → Nat → Nat) (I : Nat → Nat → Int32) (Q : Nat → Nat → Option Nat) (J : Nat → Nat → Int32) (sz : Nat) (h0 : Nat) (nw : Int32) (hC : CT v L K N T I Q) : Met l yX4_init wsX4_init ({ frames := 1, cells := 1, slots := 60, locals := 12 }) (va_Pc [.ref h0, .int nw] (pW1 dC dI cy (h0, .inr (4, [.null, .int 0, .int 0, .int 0, .int 0, .int 0, .int 0])) L (pF cy K N T I Q J) sz)) (va_Qv (fun d : List Nat × (Nat → Nat) × (Nat → Nat → Nat) × (Nat → Nat → Int32) × (Nat → Nat → Option Nat) × (Nat → Nat → Int32) => CT v d.1 d.2.1 N d.2.2.1 d.2.2.2.1 d.2.2.2.2.1 ∧ PX L K N T d.1 d.2.1 N d.2.2.1 ∧ (∀ b, b ∈ L → d.2.2.2.1 b = I b ∧ d.2.2.2.2.1 b = Q b) ∧ d.2.2.2.2.2 = J ∧ ((h0 ∈ d.1 ∧ d.2.1 h0 = 4) ∧ h0 ∉ L ∧ d.2.2.1 h0 0 ∉ L) ∧ ∀ f, 1 ≤ f → f ≤ 6 → d.2.2.2.1 h0 f = if f = 6 then nw else 0) (fun (d : List Nat × (Nat → Nat) × (Nat → Nat → Nat) × (Nat → Nat → Int32) × (Nat → Nat → Option Nat) × (Nat → Nat → Int32)) t => va_P (dC, dI) vwCl (va_pl d.1 (pF cy d.2.1 N d.2.2.1 d.2.2.2.1 d.2.2.2.2.1 d.2.2.2.2.2)) t.heap ∧ va_K (dC, dI) vwCl (pTy cy) t ∧ va_D (va_A ((h0, .inr (4, [.null, .int 0, .int 0, .int 0, .int 0, .int 0, .int 0])) :: va_pl L (pF cy K N T I Q J)) sz) (va_pl d.1 (pF cy d.2.1 N d.2.2.1 d.2.2.2.1 d.2.2.2.2.1 d.2.2.2.2.2))) (va_A ((h0, .inr (4, [.null, .int 0, .int 0, .int 0, .int 0, .int 0, .int 0])) :: va_pl L (pF cy K N T I Q J)) sz)) 1 60 (va_A ((h0, .inr (4, [.null, .int 0, .int 0, .int 0, .int 0, .int 0, .int 0])) :: va_pl L (pF cy K N T I Q J)) sz) := by
  refine Met.ofW (cc := cX4_init) (maxL := 2) (ret := none) (by decide) rfl ?_
  intro p e s m args below meth c s₁ B hml hv
  obtain ⟨rfl, hsz, ⟨hP, hK, hN⟩, hD0⟩ := hv
  have hx := B.exec
  have hb := B.bytes
  have hr := B.returns
  have hts := atoms_spec (ws := wsX4_init) B.pre
  have hown : s.vm.findClass RX4 = some m.cls := findClass_of_methodNamed B.named
  have hlocks := B.notSynchronized
  have hi4 : ∀ w ∈ wsX40, w ∈ wsX4_init := by decide +kernel
  have hl := lv_entry ([.ref h0, .int nw]) (n := 2) (Nat.le_of_ble_eq_true rfl)
  rw [lg_entry_eq]
  generalize (lg_sl ([.ref h0, .int nw]) ++ List.replicate (2 - (lg_sl ([.ref h0, .int nw])).length) Slot.unset).toArray = ls at hl ⊢
  have hl : lv_has ls 2 [(0, .ref h0), (1, .int nw)] := hl
  subst hsz
  have hD := hD0.self (sz := s.heap.size)
  generalize hAe : va_A ((h0, .inr (4, [.null, .int 0, .int 0, .int 0, .int 0, .int 0, .int 0])) :: va_pl L (pF cy K N T I Q J)) s.heap.size = A at hD ⊢
  have hA : ∀ q : Nat, s.heap.size ≤ q → A q := fun q h => by rw [← hAe]; exact Or.inr h
  have hS : va_S A s.heap s.heap [] := va_S.rf
  have hR : RS v I Q J I Q J := RS.rf
  have hn28 := hN.1
  have hn30 := hN.2.1
  have hn37 := hN.2.2.1
  have hin : meth.name = "<init>" := (name_of_methodNamed B.named B.method).1
  refine lv_aload_n hx hb dX4_init_0 rfl (lv_at hl 0 rfl) ?_
  refine W.objInit hx hb hown (hts (.methodLink RX4 3 objectInit) (by decide +kernel)) (hts (.instanceMethod objectInit) (by decide +kernel)) (hts _ (List.mem_of_getElem? (i := 3) rfl)) rfl (by rw [hml]; exact hl.1) rfl dX4_init_1 (Nat.le_of_ble_eq_true rfl) (Nat.le_of_ble_eq_true rfl) ?_
  refine W.eq (g2 := F0 m 4 ls []) rfl ?_
  refine lv_aload_n hx hb dX4_init_4 rfl (lv_at hl 0 rfl) ?_
  refine lv_bipush (v := 60) hx hb dX4_init_5 (by decide) ?_
  refine va_newq (C := "TallyLogs$Entry") (n := 60) (N' := 60) hx hb hown (hts (.classLink RX4 9 RX0) (by decide +kernel)) hN.2.2.2.2 hK hP hD hS hA (by decide) (by decide) (by decide) (Nat.le_of_ble_eq_true rfl) (Nat.le_of_ble_eq_true rfl) dX4_init_7 (fun q700001 cA H hKn hP hD hS => ?_)
  obtain rfl : cA = cy 8 := xk_sameQ hKn 6 1 rfl rfl
  refine W.widen (k := 1) (n := 60) (by omega) (by omega) ?_
  refine va_putF (D := (dC, dI)) (ci := 4) (v := .ref q700001) (ty := (.array (.object "TallyLogs$Entry"))) (C := RX4) (T := TX4) (N := 7) hx hb hts hi4 tyX4 tyX4_ok nmX4 hown hK hP hD hS 0 rfl rfl 0 (by decide) (hts (.fieldLink RX4 11 "TallyLogs$Replica" "slots" "[LTallyLogs$Entry;") (by decide +kernel)) (fun _ h9 => h9) rfl hin rfl (by decide +kernel) rfl rfl (Nat.le_of_ble_eq_true rfl) dX4_init_10 (fun H locs hP hD hS => ?_)
  have hP : va_P (dC, dI) vwCl ((h0, .inr (4, [.ref q700001, .int 0, .int 0, .int 0, .int 0, .int 0, .int 0])) :: va_pl L (pF cy K N T I Q J) ++ [(q700001, .inl (cy 8, 60, .inr (.inr (.inr (.inr (fun _ => none))))))]) H := hP
  have hD : va_D A ((h0, .inr (4, [.ref q700001, .int 0, .int 0, .int 0, .int 0, .int 0, .int 0])) :: va_pl L (pF cy K N T I Q J) ++ [(q700001, .inl (cy 8, 60, .inr (.inr (.inr (.inr (fun _ => none))))))]) := hD
  obtain ⟨L, K, T, I700002, Q700002, ⟨⟨hP, hD, hC⟩, hXe, hIQ⟩, ⟨hLq700001, hkq700001⟩, hnq⟩ := pNew4x (by decide) hC hP hD
  have hR : RS v I700002 Q700002 J I700002 Q700002 J := RS.rf
  refine lv_aload_n hx hb dX4_init_13 rfl (lv_at hl 0 rfl) ?_
  refine lv_iconst (v := 0) hx hb dX4_init_14 (by decide) ?_
  obtain ⟨j700003, hj700003⟩ := pG_4 (cy := cy) (N := N) (T := T) (I := I700002) (Q := Q700002) (J := J) hLq700001 hkq700001
  have hDo := hD
  refine va_put (D := (dC, dI)) (ci := 4) (v := .int 0) (ty := .int) (C := RX4) (T := TX4) (N := 7) hx hb hts hi4 tyX4 tyX4_ok nmX4 hown hK hP hD hS j700003 hj700003 rfl 1 (by decide) (hts (.fieldLink RX4 17 "TallyLogs$Replica" "start" "I") (by decide +kernel)) (fun _ h9 => h9) rfl (by decide +kernel) rfl rfl (Nat.le_of_ble_eq_true rfl) dX4_init_15 (fun H locs hP hD hS => ?_)
  have hP := Eq.mp (congrArg (fun w => va_P (dC, dI) vwCl w H) (pP_4_1 (x := 0) hDo hLq700001 hkq700001 hj700003)) hP
  obtain ⟨I700004, eI700004⟩ : ∃ z, z = p2 I700002 h0 1 0 := ⟨_, rfl⟩
  rw [← eI700004] at hP
  have hR : RS v I700004 Q700002 J I700004 Q700002 J := RS.rf
  have hC : CT v L K N T I700004 Q700002 := by rw [eI700004]; exact hC.ps (by decide)
  have hD : va_D A (va_pl L (pF cy K N T I700004 Q700002 J)) := pD hDo
  refine lv_aload_n hx hb dX4_init_18 rfl (lv_at hl 0 rfl) ?_
  refine lv_iconst (v := 0) hx hb dX4_init_19 (by decide) ?_
  obtain ⟨j700005, hj700005⟩ := pG_4 (cy := cy) (N := N) (T := T) (I := I700004) (Q := Q700002) (J := J) hLq700001 hkq700001
  have hDo := hD
  refine va_put (D := (dC, dI)) (ci := 4) (v := .int 0) (ty := .int) (C := RX4) (T := TX4) (N := 7) hx hb hts hi4 tyX4 tyX4_ok nmX4 hown hK hP hD hS j700005 hj700005 rfl 2 (by decide) (hts (.fieldLink RX4 21 "TallyLogs$Replica" "end" "I") (by decide +kernel)) (fun _ h9 => h9) rfl (by decide +kernel) rfl rfl (Nat.le_of_ble_eq_true rfl) dX4_init_20 (fun H locs hP hD hS => ?_)
  have hP := Eq.mp (congrArg (fun w => va_P (dC, dI) vwCl w H) (pP_4_2 (x := 0) hDo hLq700001 hkq700001 hj700005)) hP
  obtain ⟨I700006, eI700006⟩ : ∃ z, z = p2 I700004 h0 2 0 := ⟨_, rfl⟩
  rw [← eI700006] at hP
  have hR : RS v I700006 Q700002 J I700006 Q700002 J := RS.rf
  have hC : CT v L K N T I700006 Q700002 := by rw [eI700006]; exact hC.pi (by rw [hkq700001]; decide)
  have hD : va_D A (va_pl L (pF cy K N T I700006 Q700002 J)) := pD hDo
  refine lv_aload_n hx hb dX4_init_23 rfl (lv_at hl 0 rfl) ?_
  refine lv_iconst (v := 0) hx hb dX4_init_24 (by decide) ?_
  obtain ⟨j700007, hj700007⟩ := pG_4 (cy := cy) (N := N) (T := T) (I := I700006) (Q := Q700002) (J := J) hLq700001 hkq700001
  have hDo := hD
  refine va_put (D := (dC, dI)) (ci := 4) (v := .int 0) (ty := .int) (C := RX4) (T := TX4) (N := 7) hx hb hts hi4 tyX4 tyX4_ok nmX4 hown hK hP hD hS j700007 hj700007 rfl 3 (by decide) (hts (.fieldLink RX4 24 "TallyLogs$Replica" "hw" "I") (by decide +kernel)) (fun _ h9 => h9) rfl (by decide +kernel) rfl rfl (Nat.le_of_ble_eq_true rfl) dX4_init_25 (fun H locs hP hD hS => ?_)
  have hP := Eq.mp (congrArg (fun w => va_P (dC, dI) vwCl w H) (pP_4_3 (x := 0) hDo hLq700001 hkq700001 hj700007)) hP
  obtain ⟨I700008, eI700008⟩ : ∃ z, z = p2 I700006 h0 3 0 := ⟨_, rfl⟩
  rw [← eI700008] at hP
  have hR : RS v I700008 Q700002 J I700008 Q700002 J := RS.rf
  have hC : CT v L K N T I700008 Q700002 := by rw [eI700008]; exact hC.pi (by rw [hkq700001]; decide)
  have hD : va_D A (va_pl L (pF cy K N T I700008 Q700002 J)) := pD hDo
  refine lv_aload_n hx hb dX4_init_28 rfl (lv_at hl 0 rfl) ?_
  refine lv_iconst (v := 0) hx hb dX4_init_29 (by decide) ?_
  obtain ⟨j700009, hj700009⟩ := pG_4 (cy := cy) (N := N) (T := T) (I := I700008) (Q := Q700002) (J := J) hLq700001 hkq700001
  have hDo := hD
  refine va_put (D := (dC, dI)) (ci := 4) (v := .int 0) (ty := .int) (C := RX4) (T := TX4) (N := 7) hx hb hts hi4 tyX4 tyX4_ok nmX4 hown hK hP hD hS j700009 hj700009 rfl 4 (by decide) (hts (.fieldLink RX4 27 "TallyLogs$Replica" "flushed" "I") (by decide +kernel)) (fun _ h9 => h9) rfl (by decide +kernel) rfl rfl (Nat.le_of_ble_eq_true rfl) dX4_init_30 (fun H locs hP hD hS => ?_)
  have hP := Eq.mp (congrArg (fun w => va_P (dC, dI) vwCl w H) (pP_4_4 (x := 0) hDo hLq700001 hkq700001 hj700009)) hP
  obtain ⟨I700010, eI700010⟩ : ∃ z, z = p2 I700008 h0 4 0 := ⟨_, rfl⟩
  rw [← eI700010] at hP
  have hR : RS v I700010 Q700002 J I700010 Q700002 J := RS.rf
  have hC : CT v L K N T I700010 Q700002 := by rw [eI700010]; exact hC.pi (by rw [hkq700001]; decide)
  have hD : va_D A (va_pl L (pF cy K N T I700010 Q700002 J)) := pD hDo
  refine lv_aload_n hx hb dX4_init_33 rfl (lv_at hl 0 rfl) ?_
  refine lv_iconst (v := 0) hx hb dX4_init_34 (by decide) ?_
  obtain ⟨j700011, hj700011⟩ := pG_4 (cy := cy) (N := N) (T := T) (I := I700010) (Q := Q700002) (J := J) hLq700001 hkq700001
  have hDo := hD
  refine va_put (D := (dC, dI)) (ci := 4) (v := .int 0) (ty := .int) (C := RX4) (T := TX4) (N := 7) hx hb hts hi4 tyX4 tyX4_ok nmX4 hown hK hP hD hS j700011 hj700011 rfl 5 (by decide) (hts (.fieldLink RX4 30 "TallyLogs$Replica" "known" "I") (by decide +kernel)) (fun _ h9 => h9) rfl (by decide +kernel) rfl rfl (Nat.le_of_ble_eq_true rfl) dX4_init_35 (fun H locs hP hD hS => ?_)
  have hP := Eq.mp (congrArg (fun w => va_P (dC, dI) vwCl w H) (pP_4_5 (x := 0) hDo hLq700001 hkq700001 hj700011)) hP
  obtain ⟨I700012, eI700012⟩ : ∃ z, z = p2 I700010 h0 5 0 := ⟨_, rfl⟩
  rw [← eI700012] at hP
  have hR : RS v I700012 Q700002 J I700012 Q700002 J := RS.rf
  have hC : CT v L K N T I700012 Q700002 := by rw [eI700012]; exact hC.pi (by rw [hkq700001]; decide)
  have hD : va_D A (va_pl L (pF cy K N T I700012 Q700002 J)) := pD hDo
  refine lv_aload_n hx hb dX4_init_38 rfl (lv_at hl 0 rfl) ?_
  refine lv_iload_n hx hb dX4_init_39 rfl (lv_at hl 1 rfl) ?_
  obtain ⟨j700013, hj700013⟩ := pG_4 (cy := cy) (N := N) (T := T) (I := I700012) (Q := Q700002) (J := J) hLq700001 hkq700001
  have hDo := hD
  refine va_put (D := (dC, dI)) (ci := 4) (v := .int nw) (ty := .int) (C := RX4) (T := TX4) (N := 7) hx hb hts hi4 tyX4 tyX4_ok nmX4 hown hK hP hD hS j700013 hj700013 rfl 6 (by decide) (hts (.fieldLink RX4 33 "TallyLogs$Replica" "caught" "I") (by decide +kernel)) (fun _ h9 => h9) rfl (by decide +kernel) rfl rfl (Nat.le_of_ble_eq_true rfl) dX4_init_40 (fun H locs hP hD hS => ?_)
  have hP := Eq.mp (congrArg (fun w => va_P (dC, dI) vwCl w H) (pP_4_6 (x := nw) hDo hLq700001 hkq700001 hj700013)) hP
  obtain ⟨I700014, eI700014⟩ : ∃ z, z = p2 I700012 h0 6 nw := ⟨_, rfl⟩
  rw [← eI700014] at hP
  have hR : RS v I700014 Q700002 J I700014 Q700002 J := RS.rf
  have hC : CT v L K N T I700014 Q700002 := by rw [eI700014]; exact hC.pi (by rw [hkq700001]; decide)
  have hD : va_D A (va_pl L (pF cy K N T I700014 Q700002 J)) := pD hDo
  refine W.widen (k := 1) (n := 60) (by omega) (by omega) ?_
  exact W.vret hx hb hr (fun t ht hW => ⟨⟨(L, K, T, I700014, Q700002, J), rfl, ⟨hC, hXe, (fun b hb => ⟨by show I700014 b = I b; rw [eI700014, p2_na _ _ (fun z => hnq.1 (by rw [← z]; exact hb)), eI700012, p2_na _ _ (fun z => hnq.1 (by rw [← z]; exact hb)), eI700010, p2_na _ _ (fun z => hnq.1 (by rw [← z]; exact hb)), eI700008, p2_na _ _ (fun z => hnq.1 (by rw [← z]; exact hb)), eI700006, p2_na _ _ (fun z => hnq.1 (by rw [← z]; exact hb)), eI700004, p2_na _ _ (fun z => hnq.1 (by rw [← z]; exact hb))]; exact (hIQ b hb).1, (hIQ b hb).2⟩), rfl, ⟨⟨hLq700001, hkq700001⟩, hnq⟩, (fun f f1 f2 => by show I700014 h0 f = _; rcases (show f = 1 ∨ f = 2 ∨ f = 3 ∨ f = 4 ∨ f = 5 ∨ f = 6 by omega) with rfl | rfl | rfl | rfl | rfl | rfl; (rw [eI700014, p2_ne _ _ (by omega), eI700012, p2_ne _ _ (by omega), eI700010, p2_ne _ _ (by omega), eI700008, p2_ne _ _ (by omega), eI700006, p2_ne _ _ (by omega), eI700004, p2_at] <;> rfl); (rw [eI700014, p2_ne _ _ (by omega), eI700012, p2_ne _ _ (by omega), eI700010, p2_ne _ _ (by omega), eI700008, p2_ne _ _ (by omega), eI700006, p2_at] <;> rfl); (rw [eI700014, p2_ne _ _ (by omega), eI700012, p2_ne _ _ (by omega), eI700010, p2_ne _ _ (by omega), eI700008, p2_at] <;> rfl); (rw [eI700014, p2_ne _ _ (by omega), eI700012, p2_ne _ _ (by omega), eI700010, p2_at] <;> rfl); (rw [eI700014, p2_ne _ _ (by omega), eI700012, p2_at] <;> rfl); (rw [eI700014, p2_at] <;> rfl))⟩, by rw [ht]; exact hP, va_K.moved hW.alike hK, hD⟩, hS.F ht⟩) hS.2.2 dX4_init_43
