/-! follow: all logs but one are well -/
def MLx (w : Nat → Nat) (E : Int) (q : Nat) (I : Nat → Nat → Int32) : Prop := ∀ j, j < 20 → ¬ j = q → LI E (I (w (21 + j)))
section XM
variable {w : Nat → Nat} {L : List Nat} {K N : Nat → Nat} {T : Nat → Nat → Nat} {Q : Nat → Nat → Option Nat} {I J I' J' : Nat → Nat → Int32} {E E' : Int} {p q : Nat}
theorem ML.x (h : ML w E I) : MLx w E q I := fun j hj _ => h j hj
theorem MLx.to (h : MLx w E q I) (hl : LI E (I (w (21 + q)))) : ML w E I := fun j hj => by
  by_cases e : j = q
  · subst e; exact hl
  · exact h j hj e
theorem MLx.put (h : MLx w E q I) (hM : MS w L K N T Q) (hq : q < 20) {f : Nat} {x : Int32} : MLx w E q (p2 I (w (21 + q)) f x) := fun j hj e => by
  rw [p2_na _ _ (hM.ne (by omega) (by omega) (by omega))]; exact h j hj e
theorem MLx.lw (h : MLx w E q I) (hM : MS w L K N T Q) (hq : q < 20) {a b : Int} (hW : LW w I J I' J' q a b) : MLx w E q I' := fun j hj e => by
  have z : I' (w (21 + j)) = I (w (21 + j)) := funext fun f => hW.other hM hq hj e
  rw [z]; exact h j hj e
theorem RZ.f (hM : MS w L K N T Q) (hp : p < 4) (hW : RZ w I J I' J' p) {j k : Nat} (hj : j < 20) (hk : ¬ k = 3) : I' (w (21 + j)) k = I (w (21 + j)) k := by
  obtain ⟨-, rfl | ⟨n, x, hn, -, -, rfl⟩⟩ := hW
  · rfl
  · exact p2_ne _ _ (fun z => hk z.2)
theorem RZ.oth (hM : MS w L K N T Q) (hp : p < 4) (hW : RZ w I J I' J' p) {n : Nat} (hn : n < 5) (el : J (w 4) p = nI n) {j : Nat} (hj : j < 20) (hne : ¬ j = 5 * p + n) : I' (w (21 + j)) = I (w (21 + j)) := by
  obtain ⟨-, rfl | ⟨n', x, hn', el', -, rfl⟩⟩ := hW
  · rfl
  · have e : nI n = nI n' := el.symm.trans el'
    have e2 : n = n' := by
      have := congrArg Int32.toInt e
      rw [nI_toInt (by omega), nI_toInt (by omega)] at this
      omega
    subst e2
    exact p2_na _ _ (hM.ne (by omega) (by omega) (by omega))
theorem MLx.rz (h : MLx w E q I) (hM : MS w L K N T Q) (hp : p < 4) (hW : RZ w I J I' J' p) : MLx w E q I' := fun j hj e => by
  obtain ⟨h1, h2, h3, h4, h5, h6⟩ := h j hj e
  have e1 := RZ.f hM hp hW hj (k := 1) (by decide)
  have e2 := RZ.f hM hp hW hj (k := 2) (by decide)
  have e4 := RZ.f hM hp hW hj (k := 4) (by decide)
  have e3 : (I' (w (21 + j)) 3).toInt ≤ (I (w (21 + j)) 2).toInt := by
    obtain ⟨-, rfl | ⟨n, x, hn, -, hx, rfl⟩⟩ := hW
    · exact h6
    · by_cases z : j = 5 * p + n
      · subst z; rw [p2_at]; exact hx
      · rw [p2_na _ _ (hM.ne (by omega) (by omega) (by omega))]; exact h6
  unfold LI
  rw [e1, e2, e4]
  exact ⟨h1, h2, h3, h4, h5, e3⟩
end XM
/-- a follower in the midst of follow: its numbers q, the leader's l -/
def FS (w : Nat → Nat) (E : Int) (q l : Nat) (I : Nat → Nat → Int32) : Prop := MLx w E q I ∧ 0 ≤ (I (w (21 + q)) 1).toInt ∧ (I (w (21 + q)) 1).toInt ≤ (I (w (21 + q)) 2).toInt ∧ (I (w (21 + q)) 2).toInt ≤ (I (w (21 + q)) 1).toInt + 60 ∧ (I (w (21 + q)) 2).toInt ≤ E ∧ (I (w (21 + l)) 1).toInt ≤ (I (w (21 + q)) 2).toInt
