/-! both objects as they are made, as pools -/
def vix (v : Nat → Nat) : Nat → Nat → Nat
  | 0, _ => 0
  | n + 1, a => if v n = a then n else vix v n a
theorem vix_at {v : Nat → Nat} : ∀ (n : Nat), (∀ i j, i < n → j < n → v i = v j → i = j) → ∀ k, k < n → vix v n (v k) = k := by
  intro n
  induction n with
  | zero => intro _ k hk; omega
  | succ n ih =>
    intro inj k hk
    unfold vix
    by_cases h : v n = v k
    · rw [if_pos h]; exact inj n k (by omega) hk h
    · rw [if_neg h]
      refine ih (fun i j hi hj => inj i j (by omega) (by omega)) k ?_
      have : ¬ k = n := fun e => h (by rw [e])
      omega
theorem ao_K {C : String} {s : State} (h : va_AO C s) : ∃ cB : ClassId, ArrOfT s cB (.object C) ∧ va_RA s cB (.object C) := by
  obtain ⟨cC, cB, kB, b1, b2, b3, b4, b5⟩ := Cond.arrayOver_spec (va_AO.use (A := #[]) h)
  exact ⟨cB, fun n z => ⟨fun x hx => (by cases hx), kB, b3, cC, b4⟩, kB, cC, b3, b4, b1, b5⟩
theorem xK_no (k : Nat) : ¬ xK k = 0 ∧ ¬ xK k = 2 ∧ ¬ xK k = 4 ∧ ¬ xK k = 8 ∧ ¬ xK k = 12 := by
  unfold xK
  repeat' split
  all_goals decide
def xT0 (v : Nat → Nat) (k f : Nat) : Nat := if k = 0 then v (f + 1) else v (k + 4)
def xI0 (k f : Nat) : Int32 := if k = 0 then (if f = 3 then 31 else 0) else if 4 ≤ k ∧ k < 10 then (if f = 0 then nI (k - 4) else if f = 1 then (-1) else if f = 4 then (-1) else 0) else 0
def xQ0 (v : Nat → Nat) (k : Nat) : Nat → Option Nat := if k = 2 then fR v else if k = 3 then fG v else fun _ => none
def xC0 (c : Nat → ClassId) (cE cR : ClassId) (k : Nat) : ClassId := if k = 7 then c 3 else if k = 8 then cE else if k = 9 then c 2 else if k = 10 then c 0 else if k = 11 then c 1 else cR
theorem fx_inj {A : Nat → Prop} {v : Nat → Nat} {c : Nat → ClassId} (hD : va_D A (fxW v c)) : ∀ i j, i < 18 → j < 18 → v i = v j → i = j := by
  have h : ∀ k, k < 18 → ∃ e : va_E, (fxW v c)[k]? = some (v k, e) := fun k hk => by
    rcases (show k = 0 ∨ k = 1 ∨ k = 2 ∨ k = 3 ∨ k = 4 ∨ k = 5 ∨ k = 6 ∨ k = 7 ∨ k = 8 ∨ k = 9 ∨ k = 10 ∨ k = 11 ∨ k = 12 ∨ k = 13 ∨ k = 14 ∨ k = 15 ∨ k = 16 ∨ k = 17 by omega) with rfl | rfl | rfl | rfl | rfl | rfl | rfl | rfl | rfl | rfl | rfl | rfl | rfl | rfl | rfl | rfl | rfl | rfl <;> exact ⟨_, rfl⟩
  intro i j hi hj hij
  obtain ⟨e1, h1⟩ := h i hi
  obtain ⟨e2, h2⟩ := h j hj
  exact hD.1 i j _ _ h1 h2 hij
set_option maxHeartbeats 4000000 in
theorem fx_eq {v : Nat → Nat} {c : Nat → ClassId} {cE cR : ClassId} (hv : ∀ k, k < 18 → vix v 18 (v k) = k) : va_pl [v 0, v 1, v 2, v 3, v 4, v 5, v 6, v 7, v 8, v 9, v 10, v 11, v 12, v 13, v 14, v 15, v 16, v 17] (pF (xC0 c cE cR) (fun a => xK (vix v 18 a)) (fun _ => 4) (fun a f => xT0 v (vix v 18 a) f) (fun a f => xI0 (vix v 18 a) f) (fun a => xQ0 v (vix v 18 a)) (fun _ _ => 0)) = fxW v c := by
  have e0 : pF (xC0 c cE cR) (fun a => xK (vix v 18 a)) (fun _ => 4) (fun a f => xT0 v (vix v 18 a) f) (fun a f => xI0 (vix v 18 a) f) (fun a => xQ0 v (vix v 18 a)) (fun _ _ => 0) (v 0) = _ := pF_5 (show xK (vix v 18 (v 0)) = 5 by rw [hv 0 (by decide)]; rfl)
  try simp only [hv 0 (by decide)] at e0
  have e1 : pF (xC0 c cE cR) (fun a => xK (vix v 18 a)) (fun _ => 4) (fun a f => xT0 v (vix v 18 a) f) (fun a f => xI0 (vix v 18 a) f) (fun a => xQ0 v (vix v 18 a)) (fun _ _ => 0) (v 1) = _ := pF_10 (show xK (vix v 18 (v 1)) = 10 by rw [hv 1 (by decide)]; rfl)
  try simp only [hv 1 (by decide)] at e1
  have e2 : pF (xC0 c cE cR) (fun a => xK (vix v 18 a)) (fun _ => 4) (fun a f => xT0 v (vix v 18 a) f) (fun a f => xI0 (vix v 18 a) f) (fun a => xQ0 v (vix v 18 a)) (fun _ _ => 0) (v 2) = _ := pF_11 (show xK (vix v 18 (v 2)) = 11 by rw [hv 2 (by decide)]; rfl)
  try simp only [hv 2 (by decide)] at e2
  have e3 : pF (xC0 c cE cR) (fun a => xK (vix v 18 a)) (fun _ => 4) (fun a f => xT0 v (vix v 18 a) f) (fun a f => xI0 (vix v 18 a) f) (fun a => xQ0 v (vix v 18 a)) (fun _ _ => 0) (v 3) = _ := pF_9 (show xK (vix v 18 (v 3)) = 9 by rw [hv 3 (by decide)]; rfl)
  try simp only [hv 3 (by decide)] at e3
  have e4 : pF (xC0 c cE cR) (fun a => xK (vix v 18 a)) (fun _ => 4) (fun a f => xT0 v (vix v 18 a) f) (fun a f => xI0 (vix v 18 a) f) (fun a => xQ0 v (vix v 18 a)) (fun _ _ => 0) (v 4) = _ := pF_3 (show xK (vix v 18 (v 4)) = 3 by rw [hv 4 (by decide)]; rfl)
  try simp only [hv 4 (by decide)] at e4
  have e5 : pF (xC0 c cE cR) (fun a => xK (vix v 18 a)) (fun _ => 4) (fun a f => xT0 v (vix v 18 a) f) (fun a f => xI0 (vix v 18 a) f) (fun a => xQ0 v (vix v 18 a)) (fun _ _ => 0) (v 5) = _ := pF_3 (show xK (vix v 18 (v 5)) = 3 by rw [hv 5 (by decide)]; rfl)
  try simp only [hv 5 (by decide)] at e5
  have e6 : pF (xC0 c cE cR) (fun a => xK (vix v 18 a)) (fun _ => 4) (fun a f => xT0 v (vix v 18 a) f) (fun a f => xI0 (vix v 18 a) f) (fun a => xQ0 v (vix v 18 a)) (fun _ _ => 0) (v 6) = _ := pF_3 (show xK (vix v 18 (v 6)) = 3 by rw [hv 6 (by decide)]; rfl)
  try simp only [hv 6 (by decide)] at e6
  have e7 : pF (xC0 c cE cR) (fun a => xK (vix v 18 a)) (fun _ => 4) (fun a f => xT0 v (vix v 18 a) f) (fun a f => xI0 (vix v 18 a) f) (fun a => xQ0 v (vix v 18 a)) (fun _ _ => 0) (v 7) = _ := pF_3 (show xK (vix v 18 (v 7)) = 3 by rw [hv 7 (by decide)]; rfl)
  try simp only [hv 7 (by decide)] at e7
  have e8 : pF (xC0 c cE cR) (fun a => xK (vix v 18 a)) (fun _ => 4) (fun a f => xT0 v (vix v 18 a) f) (fun a f => xI0 (vix v 18 a) f) (fun a => xQ0 v (vix v 18 a)) (fun _ _ => 0) (v 8) = _ := pF_3 (show xK (vix v 18 (v 8)) = 3 by rw [hv 8 (by decide)]; rfl)
  try simp only [hv 8 (by decide)] at e8
  have e9 : pF (xC0 c cE cR) (fun a => xK (vix v 18 a)) (fun _ => 4) (fun a f => xT0 v (vix v 18 a) f) (fun a f => xI0 (vix v 18 a) f) (fun a => xQ0 v (vix v 18 a)) (fun _ _ => 0) (v 9) = _ := pF_3 (show xK (vix v 18 (v 9)) = 3 by rw [hv 9 (by decide)]; rfl)
  try simp only [hv 9 (by decide)] at e9
  have e10 : pF (xC0 c cE cR) (fun a => xK (vix v 18 a)) (fun _ => 4) (fun a f => xT0 v (vix v 18 a) f) (fun a f => xI0 (vix v 18 a) f) (fun a => xQ0 v (vix v 18 a)) (fun _ _ => 0) (v 10) = _ := pF_1 (show xK (vix v 18 (v 10)) = 1 by rw [hv 10 (by decide)]; rfl)
  try simp only [hv 10 (by decide)] at e10
  have e11 : pF (xC0 c cE cR) (fun a => xK (vix v 18 a)) (fun _ => 4) (fun a f => xT0 v (vix v 18 a) f) (fun a f => xI0 (vix v 18 a) f) (fun a => xQ0 v (vix v 18 a)) (fun _ _ => 0) (v 11) = _ := pF_1 (show xK (vix v 18 (v 11)) = 1 by rw [hv 11 (by decide)]; rfl)
  try simp only [hv 11 (by decide)] at e11
  have e12 : pF (xC0 c cE cR) (fun a => xK (vix v 18 a)) (fun _ => 4) (fun a f => xT0 v (vix v 18 a) f) (fun a f => xI0 (vix v 18 a) f) (fun a => xQ0 v (vix v 18 a)) (fun _ _ => 0) (v 12) = _ := pF_1 (show xK (vix v 18 (v 12)) = 1 by rw [hv 12 (by decide)]; rfl)
  try simp only [hv 12 (by decide)] at e12
  have e13 : pF (xC0 c cE cR) (fun a => xK (vix v 18 a)) (fun _ => 4) (fun a f => xT0 v (vix v 18 a) f) (fun a f => xI0 (vix v 18 a) f) (fun a => xQ0 v (vix v 18 a)) (fun _ _ => 0) (v 13) = _ := pF_1 (show xK (vix v 18 (v 13)) = 1 by rw [hv 13 (by decide)]; rfl)
  try simp only [hv 13 (by decide)] at e13
  have e14 : pF (xC0 c cE cR) (fun a => xK (vix v 18 a)) (fun _ => 4) (fun a f => xT0 v (vix v 18 a) f) (fun a f => xI0 (vix v 18 a) f) (fun a => xQ0 v (vix v 18 a)) (fun _ _ => 0) (v 14) = _ := pF_7 (show xK (vix v 18 (v 14)) = 7 by rw [hv 14 (by decide)]; rfl)
  try simp only [hv 14 (by decide)] at e14
  have e15 : pF (xC0 c cE cR) (fun a => xK (vix v 18 a)) (fun _ => 4) (fun a f => xT0 v (vix v 18 a) f) (fun a f => xI0 (vix v 18 a) f) (fun a => xQ0 v (vix v 18 a)) (fun _ _ => 0) (v 15) = _ := pF_7 (show xK (vix v 18 (v 15)) = 7 by rw [hv 15 (by decide)]; rfl)
  try simp only [hv 15 (by decide)] at e15
  have e16 : pF (xC0 c cE cR) (fun a => xK (vix v 18 a)) (fun _ => 4) (fun a f => xT0 v (vix v 18 a) f) (fun a f => xI0 (vix v 18 a) f) (fun a => xQ0 v (vix v 18 a)) (fun _ _ => 0) (v 16) = _ := pF_7 (show xK (vix v 18 (v 16)) = 7 by rw [hv 16 (by decide)]; rfl)
  try simp only [hv 16 (by decide)] at e16
  have e17 : pF (xC0 c cE cR) (fun a => xK (vix v 18 a)) (fun _ => 4) (fun a f => xT0 v (vix v 18 a) f) (fun a f => xI0 (vix v 18 a) f) (fun a => xQ0 v (vix v 18 a)) (fun _ _ => 0) (v 17) = _ := pF_7 (show xK (vix v 18 (v 17)) = 7 by rw [hv 17 (by decide)]; rfl)
  try simp only [hv 17 (by decide)] at e17
  simp only [va_pl, List.map_cons, List.map_nil, e0, e1, e2, e3, e4, e5, e6, e7, e8, e9, e10, e11, e12, e13, e14, e15, e16, e17]
  rfl
