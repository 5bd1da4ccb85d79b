/-! the class at any time: what lies where, and of what kind -/
/-- the kind of the cell v k: the object, its three rows, six producers, four groups, their offsets -/
def xK (k : Nat) : Nat := if k = 0 then 5 else if k = 1 then 10 else if k = 2 then 11 else if k = 3 then 9 else if k < 10 then 3 else if k < 14 then 1 else 7
def CT (v : Nat → Nat) (L : List Nat) (K N : Nat → Nat) (T : Nat → Nat → Nat) (I : Nat → Nat → Int32) (Q : Nat → Nat → Option Nat) : Prop :=
  ((∀ k, k < 18 → v k ∈ L ∧ K (v k) = xK k) ∧ (∀ i j, i < 18 → j < 18 → v i = v j → i = j) ∧ (T (v 0) 0 = v 1 ∧ T (v 0) 1 = v 2 ∧ T (v 0) 2 = v 3) ∧ (∀ j, j < 4 → T (v (10 + j)) 2 = v (14 + j) ∧ N (v (14 + j)) = 4)) ∧
  ((∀ j, j < 6 → Q (v 2) j = some (v (4 + j))) ∧ (∀ j, j < 4 → Q (v 3) j = some (v (10 + j)))) ∧
  (∀ b, Q (v 0) 5 = some b → b ∈ L ∧ K b = 0) ∧
  (∀ j b, j < 4 → Q (v 1) j = some b → b ∈ L ∧ K b = 2) ∧
  (∀ a, a ∈ L → K a = 2 → T a 2 ∈ L ∧ K (T a 2) = 12) ∧
  (∀ a, a ∈ L → K a = 12 → ∀ j b, j < 5 → Q a j = some b → b ∈ L ∧ K b = 4) ∧
  (∀ a, a ∈ L → K a = 4 → T a 0 ∈ L ∧ K (T a 0) = 8) ∧
  (∀ a, a ∈ L → K a = 4 → 0 ≤ (I a 1).toInt) ∧
  (∀ a, a ∈ L → K a = 8 → ∀ j b, j < 60 → Q a j = some b → b ∈ L ∧ K b = 0)
/-- the simple state is as it was: up, generations, members, rounds, positions, which partitions are there -/
def RS (v : Nat → Nat) (I : Nat → Nat → Int32) (Q : Nat → Nat → Option Nat) (J : Nat → Nat → Int32) (I' : Nat → Nat → Int32) (Q' : Nat → Nat → Option Nat) (J' : Nat → Nat → Int32) : Prop :=
  I' (v 0) 3 = I (v 0) 3 ∧ (∀ k, k < 6 → I' (v (4 + k)) 1 = I (v (4 + k)) 1) ∧ (∀ g, g < 4 → I' (v (10 + g)) 0 = I (v (10 + g)) 0 ∧ I' (v (10 + g)) 1 = I (v (10 + g)) 1) ∧ (∀ g p, g < 4 → p < 4 → J' (v (14 + g)) p = J (v (14 + g)) p) ∧ (∀ p, p < 4 → Q' (v 1) p = Q (v 1) p)
theorem RS.rf {v : Nat → Nat} {I : Nat → Nat → Int32} {Q : Nat → Nat → Option Nat} {J : Nat → Nat → Int32} : RS v I Q J I Q J := ⟨rfl, fun _ _ => rfl, fun _ _ => ⟨rfl, rfl⟩, fun _ _ _ _ => rfl, fun _ _ => rfl⟩
theorem RS.trans {v : Nat → Nat} {I I1 I2 : Nat → Nat → Int32} {Q Q1 Q2 : Nat → Nat → Option Nat} {J J1 J2 : Nat → Nat → Int32} (h : RS v I Q J I1 Q1 J1) (h2 : RS v I1 Q1 J1 I2 Q2 J2) : RS v I Q J I2 Q2 J2 :=
  ⟨h2.1.trans h.1, fun k hk => (h2.2.1 k hk).trans (h.2.1 k hk), fun g hg => ⟨(h2.2.2.1 g hg).1.trans (h.2.2.1 g hg).1, (h2.2.2.1 g hg).2.trans (h.2.2.1 g hg).2⟩, fun g p hg hp => (h2.2.2.2.1 g p hg hp).trans (h.2.2.2.1 g p hg hp), fun p hp => (h2.2.2.2.2 p hp).trans (h.2.2.2.2 p hp)⟩
section XI
variable {v : Nat → Nat} {L : List Nat} {K N : Nat → Nat} {T : Nat → Nat → Nat} {I : Nat → Nat → Int32} {Q : Nat → Nat → Option Nat} {J : Nat → Nat → Int32}
theorem CT.at (h : CT v L K N T I Q) (k : Nat) (hk : k < 18) : v k ∈ L := (h.1.1 k hk).1
theorem CT.k (h : CT v L K N T I Q) (k : Nat) (hk : k < 18) {x : Nat} (hx : xK k = x) : K (v k) = x := (h.1.1 k hk).2.trans hx
theorem CT.kp (h : CT v L K N T I Q) {j : Nat} (hj : j < 6) : v (4 + j) ∈ L ∧ K (v (4 + j)) = 3 := by
  refine ⟨(h.1.1 (4 + j) (by omega)).1, (h.1.1 (4 + j) (by omega)).2.trans ?_⟩
  unfold xK
  rw [if_neg (by omega), if_neg (by omega), if_neg (by omega), if_neg (by omega), if_pos (by omega)]
theorem CT.kg (h : CT v L K N T I Q) {j : Nat} (hj : j < 4) : v (10 + j) ∈ L ∧ K (v (10 + j)) = 1 := by
  refine ⟨(h.1.1 (10 + j) (by omega)).1, (h.1.1 (10 + j) (by omega)).2.trans ?_⟩
  unfold xK
  rw [if_neg (by omega), if_neg (by omega), if_neg (by omega), if_neg (by omega), if_neg (by omega), if_pos (by omega)]
theorem CT.ko (h : CT v L K N T I Q) {j : Nat} (hj : j < 4) : v (14 + j) ∈ L ∧ K (v (14 + j)) = 7 := by
  refine ⟨(h.1.1 (14 + j) (by omega)).1, (h.1.1 (14 + j) (by omega)).2.trans ?_⟩
  unfold xK
  rw [if_neg (by omega), if_neg (by omega), if_neg (by omega), if_neg (by omega), if_neg (by omega), if_neg (by omega)]
/-- an int field of anything but a Replica's start -/
theorem CT.pi (h : CT v L K N T I Q) {a f : Nat} {x : Int32} (hf : ¬ (K a = 4 ∧ f = 1)) : CT v L K N T (p2 I a f x) Q := by
  obtain ⟨h1, h2, h3, h4, h5, h6, h7, h8, h9⟩ := h
  refine ⟨h1, h2, h3, h4, h5, h6, h7, fun b hb hk => ?_, h9⟩
  rw [p2_ne _ _ (fun q => hf ⟨by rw [← q.1]; exact hk, q.2.symm⟩)]
  exact h8 b hb hk
/-- a Replica's start, not below 0 -/
theorem CT.ps (h : CT v L K N T I Q) {a : Nat} {x : Int32} (hx : 0 ≤ x.toInt) : CT v L K N T (p2 I a 1 x) Q := by
  obtain ⟨h1, h2, h3, h4, h5, h6, h7, h8, h9⟩ := h
  refine ⟨h1, h2, h3, h4, h5, h6, h7, fun b hb hk => ?_, h9⟩
  by_cases hba : b = a
  · subst hba; rw [p2_at]; exact hx
  · rw [p2_na _ _ hba]; exact h8 b hb hk
/-- a place of an Entry[] gets an Entry or null -/
theorem CT.q8 (h : CT v L K N T I Q) {a i : Nat} {y : Option Nat} (ha : K a = 8) (hy : ∀ b, y = some b → b ∈ L ∧ K b = 0) : CT v L K N T I (p2 Q a i y) := by
  obtain ⟨h1, h2, h3, h4, h5, h6, h7, h8, h9⟩ := h
  have nv : ∀ k, k < 18 → ¬ v k = a := fun k hk q => by
    have e := (h1.1 k hk).2
    rw [q, ha] at e
    unfold xK at e
    repeat' split at e
    all_goals omega
  refine ⟨h1, ⟨fun j hj => ?_, fun j hj => ?_⟩, fun b hb => ?_, fun j b hj hb => ?_, h5, fun c hc hk j b hj hb => ?_, h7, h8, fun c hc hk j b hj hb => ?_⟩
  · rw [p2_na _ _ (nv 2 (by decide))]; exact h2.1 j hj
  · rw [p2_na _ _ (nv 3 (by decide))]; exact h2.2 j hj
  · rw [p2_na _ _ (nv 0 (by decide))] at hb; exact h3 b hb
  · rw [p2_na _ _ (nv 1 (by decide))] at hb; exact h4 j b hj hb
  · have hca : ¬ c = a := fun q => by rw [q, ha] at hk; omega
    rw [p2_na _ _ hca] at hb
    exact h6 c hc hk j b hj hb
  · by_cases hca : c = a
    · subst hca
      by_cases hji : j = i
      · subst hji; rw [p2_at] at hb; exact hy b hb
      · rw [p2_ne _ _ (fun q => hji q.2)] at hb; exact h9 c hc hk j b hj hb
    · rw [p2_na _ _ hca] at hb; exact h9 c hc hk j b hj hb
/-- lastSeen gets an Entry -/
theorem CT.q5 (h : CT v L K N T I Q) {y : Option Nat} (hy : ∀ b, y = some b → b ∈ L ∧ K b = 0) : CT v L K N T I (p2 Q (v 0) 5 y) := by
  obtain ⟨h1, h2, h3, h4, h5, h6, h7, h8, h9⟩ := h
  have nv : ∀ k, k < 18 → ¬ k = 0 → ¬ v k = v 0 := fun k hk h0 q => h0 (h1.2.1 k 0 hk (by decide) q)
  have kv : K (v 0) = 5 := (h1.1 0 (by decide)).2
  refine ⟨h1, ⟨fun j hj => ?_, fun j hj => ?_⟩, fun b hb => ?_, fun j b hj hb => ?_, h5, fun c hc hk j b hj hb => ?_, h7, h8, fun c hc hk j b hj hb => ?_⟩
  · rw [p2_na _ _ (nv 2 (by decide) (by decide))]; exact h2.1 j hj
  · rw [p2_na _ _ (nv 3 (by decide) (by decide))]; exact h2.2 j hj
  · rw [p2_at] at hb; exact hy b hb
  · rw [p2_na _ _ (nv 1 (by decide) (by decide))] at hb; exact h4 j b hj hb
  · have hca : ¬ c = v 0 := fun q => by rw [q, kv] at hk; omega
    rw [p2_na _ _ hca] at hb
    exact h6 c hc hk j b hj hb
  · have hca : ¬ c = v 0 := fun q => by rw [q, kv] at hk; omega
    rw [p2_na _ _ hca] at hb
    exact h9 c hc hk j b hj hb
/-- an int field that is none of the simple state's -/
theorem RS.pi (hC : CT v L K N T I Q) {I0 : Nat → Nat → Int32} {Q0 : Nat → Nat → Option Nat} {J0 : Nat → Nat → Int32} (h : RS v I0 Q0 J0 I Q J) {a f : Nat} {x : Int32} (hf : ¬ (K a = 5 ∧ f = 3) ∧ ¬ (K a = 3 ∧ f = 1) ∧ ¬ (K a = 1 ∧ (f = 0 ∨ f = 1))) : RS v I0 Q0 J0 (p2 I a f x) Q J := by
  obtain ⟨h1, h2, h3, h4, h5⟩ := h
  refine ⟨?_, fun k hk => ?_, fun g hg => ⟨?_, ?_⟩, h4, h5⟩
  · rw [p2_ne _ _ (fun q => hf.1 ⟨by rw [← q.1]; exact hC.k 0 (by decide) rfl, q.2.symm⟩)]; exact h1
  · rw [p2_ne _ _ (fun q => hf.2.1 ⟨by rw [← q.1]; exact (hC.kp hk).2, q.2.symm⟩)]; exact h2 k hk
  · rw [p2_ne _ _ (fun q => hf.2.2 ⟨by rw [← q.1]; exact (hC.kg hg).2, Or.inl q.2.symm⟩)]; exact (h3 g hg).1
  · rw [p2_ne _ _ (fun q => hf.2.2 ⟨by rw [← q.1]; exact (hC.kg hg).2, Or.inr q.2.symm⟩)]; exact (h3 g hg).2
theorem RS.pq (hC : CT v L K N T I Q) {I0 : Nat → Nat → Int32} {Q0 : Nat → Nat → Option Nat} {J0 : Nat → Nat → Int32} (h : RS v I0 Q0 J0 I Q J) {a f : Nat} {y : Option Nat} (hf : ¬ K a = 10) : RS v I0 Q0 J0 I (p2 Q a f y) J := by
  obtain ⟨h1, h2, h3, h4, h5⟩ := h
  refine ⟨h1, h2, h3, h4, fun p hp => ?_⟩
  rw [p2_na _ _ (fun q => hf (by rw [← q]; exact hC.k 1 (by decide) rfl))]
  exact h5 p hp
end XI
