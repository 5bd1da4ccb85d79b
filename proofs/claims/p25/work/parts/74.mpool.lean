def yT0 (w : Nat → Nat) (k f : Nat) : Nat := if k = 0 then w (f + 1) else w (k + 20)
def yI0 (k f : Nat) : Int32 := if k = 0 then (if f = 16 then 31 else 0) else 0
def yQ0 (w : Nat → Nat) (k : Nat) : Nat → Option Nat := if k = 1 then mO w else if k = 17 then mR0 w else if k = 18 then mR1 w else if k = 19 then mR2 w else mR3 w
def yJ0 (k : Nat) : Nat → Int32 := if k = 4 then spF (fun _ => 0) 4 (-1) else if k = 8 then spF (fun _ => 0) 6 (-1) else fun _ => 0
def yC0 (cz ci cO cW : ClassId) (k : Nat) : ClassId := if k = 0 then cz else if k = 1 then ci else if k = 2 then cO else cW
theorem mO_at (w : Nat → Nat) : ∀ j, j < 4 → mO w j = some (w (17 + j)) := fun j hj => by
  rcases (show j = 0 ∨ j = 1 ∨ j = 2 ∨ j = 3 by omega) with rfl | rfl | rfl | rfl <;> rfl
theorem mR0_at (w : Nat → Nat) : ∀ j, j < 5 → mR0 w j = some (w (21 + j)) := fun j hj => by
  rcases (show j = 0 ∨ j = 1 ∨ j = 2 ∨ j = 3 ∨ j = 4 by omega) with rfl | rfl | rfl | rfl | rfl <;> rfl
theorem mR1_at (w : Nat → Nat) : ∀ j, j < 5 → mR1 w j = some (w (26 + j)) := fun j hj => by
  rcases (show j = 0 ∨ j = 1 ∨ j = 2 ∨ j = 3 ∨ j = 4 by omega) with rfl | rfl | rfl | rfl | rfl <;> rfl
theorem mR2_at (w : Nat → Nat) : ∀ j, j < 5 → mR2 w j = some (w (31 + j)) := fun j hj => by
  rcases (show j = 0 ∨ j = 1 ∨ j = 2 ∨ j = 3 ∨ j = 4 by omega) with rfl | rfl | rfl | rfl | rfl <;> rfl
theorem mR3_at (w : Nat → Nat) : ∀ j, j < 5 → mR3 w j = some (w (36 + j)) := fun j hj => by
  rcases (show j = 0 ∨ j = 1 ∨ j = 2 ∨ j = 3 ∨ j = 4 by omega) with rfl | rfl | rfl | rfl | rfl <;> rfl
theorem my_inj {A : Nat → Prop} {w : Nat → Nat} {cz ci cO cW : ClassId} (hD : va_D A (myW w cz ci cO cW)) : ∀ i j, i < 61 → j < 61 → w i = w j → i = j := by
  have h : ∀ k, k < 61 → ∃ e : va_E, (myW w cz ci cO cW)[k]? = some (w k, e) := fun k hk => by
    rcases (show k = 0 ∨ k = 1 ∨ k = 2 ∨ k = 3 ∨ k = 4 ∨ k = 5 ∨ k = 6 ∨ k = 7 ∨ k = 8 ∨ k = 9 ∨ k = 10 ∨ k = 11 ∨ k = 12 ∨ k = 13 ∨ k = 14 ∨ k = 15 ∨ k = 16 ∨ k = 17 ∨ k = 18 ∨ k = 19 ∨ k = 20 ∨ k = 21 ∨ k = 22 ∨ k = 23 ∨ k = 24 ∨ k = 25 ∨ k = 26 ∨ k = 27 ∨ k = 28 ∨ k = 29 ∨ k = 30 ∨ k = 31 ∨ k = 32 ∨ k = 33 ∨ k = 34 ∨ k = 35 ∨ k = 36 ∨ k = 37 ∨ k = 38 ∨ k = 39 ∨ k = 40 ∨ k = 41 ∨ k = 42 ∨ k = 43 ∨ k = 44 ∨ k = 45 ∨ k = 46 ∨ k = 47 ∨ k = 48 ∨ k = 49 ∨ k = 50 ∨ k = 51 ∨ k = 52 ∨ k = 53 ∨ k = 54 ∨ k = 55 ∨ k = 56 ∨ k = 57 ∨ k = 58 ∨ k = 59 ∨ k = 60 by omega) with rfl | rfl | rfl | rfl | rfl | rfl | rfl | rfl | rfl | rfl | rfl | rfl | rfl | rfl | rfl | rfl | rfl | rfl | rfl | rfl | rfl | rfl | rfl | rfl | rfl | rfl | rfl | rfl | rfl | rfl | rfl | rfl | rfl | rfl | rfl | rfl | rfl | rfl | rfl | rfl | rfl | rfl | rfl | rfl | rfl | rfl | rfl | rfl | rfl | rfl | rfl | rfl | rfl | rfl | rfl | rfl | rfl | rfl | rfl | rfl | rfl <;> exact ⟨_, rfl⟩
  intro i j hi hj hij
  obtain ⟨e1, h1⟩ := h i hi
  obtain ⟨e2, h2⟩ := h j hj
  exact hD.1 i j _ _ h1 h2 hij
set_option maxHeartbeats 8000000 in
set_option maxRecDepth 100000 in
theorem my_eq {w : Nat → Nat} {cz ci cO cW : ClassId} (hv : ∀ k, k < 61 → vix w 61 (w k) = k) : va_pl [w 0, w 1, w 2, w 3, w 4, w 5, w 6, w 7, w 8, w 9, w 10, w 11, w 12, w 13, w 14, w 15, w 16, w 17, w 18, w 19, w 20, w 21, w 22, w 23, w 24, w 25, w 26, w 27, w 28, w 29, w 30, w 31, w 32, w 33, w 34, w 35, w 36, w 37, w 38, w 39, w 40, w 41, w 42, w 43, w 44, w 45, w 46, w 47, w 48, w 49, w 50, w 51, w 52, w 53, w 54, w 55, w 56, w 57, w 58, w 59, w 60] (wF (yC0 cz ci cO cW) (fun a => wK (vix w 61 a)) (fun a => wN (vix w 61 a)) (fun a f => yT0 w (vix w 61 a) f) (fun a f => yI0 (vix w 61 a) f) (fun a => yQ0 w (vix w 61 a)) (fun a => yJ0 (vix w 61 a))) = myW w cz ci cO cW := by
  have e0 : wF (yC0 cz ci cO cW) (fun a => wK (vix w 61 a)) (fun a => wN (vix w 61 a)) (fun a f => yT0 w (vix w 61 a) f) (fun a f => yI0 (vix w 61 a) f) (fun a => yQ0 w (vix w 61 a)) (fun a => yJ0 (vix w 61 a)) (w 0) = _ := wF_7 (show wK (vix w 61 (w 0)) = 7 by rw [hv 0 (by decide)]; rfl)
  try simp only [hv 0 (by decide)] at e0
  have e1 : wF (yC0 cz ci cO cW) (fun a => wK (vix w 61 a)) (fun a => wN (vix w 61 a)) (fun a f => yT0 w (vix w 61 a) f) (fun a f => yI0 (vix w 61 a) f) (fun a => yQ0 w (vix w 61 a)) (fun a => yJ0 (vix w 61 a)) (w 1) = _ := wF_22 (show wK (vix w 61 (w 1)) = 22 by rw [hv 1 (by decide)]; rfl)
  try simp only [hv 1 (by decide)] at e1
  have e2 : wF (yC0 cz ci cO cW) (fun a => wK (vix w 61 a)) (fun a => wN (vix w 61 a)) (fun a f => yT0 w (vix w 61 a) f) (fun a f => yI0 (vix w 61 a) f) (fun a => yQ0 w (vix w 61 a)) (fun a => yJ0 (vix w 61 a)) (w 2) = _ := wF_21 (show wK (vix w 61 (w 2)) = 21 by rw [hv 2 (by decide)]; rfl)
  try simp only [hv 2 (by decide)] at e2
  have e3 : wF (yC0 cz ci cO cW) (fun a => wK (vix w 61 a)) (fun a => wN (vix w 61 a)) (fun a f => yT0 w (vix w 61 a) f) (fun a f => yI0 (vix w 61 a) f) (fun a => yQ0 w (vix w 61 a)) (fun a => yJ0 (vix w 61 a)) (w 3) = _ := wF_20 (show wK (vix w 61 (w 3)) = 20 by rw [hv 3 (by decide)]; rfl)
  try simp only [hv 3 (by decide)] at e3
  have e4 : wF (yC0 cz ci cO cW) (fun a => wK (vix w 61 a)) (fun a => wN (vix w 61 a)) (fun a f => yT0 w (vix w 61 a) f) (fun a f => yI0 (vix w 61 a) f) (fun a => yQ0 w (vix w 61 a)) (fun a => yJ0 (vix w 61 a)) (w 4) = _ := wF_20 (show wK (vix w 61 (w 4)) = 20 by rw [hv 4 (by decide)]; rfl)
  try simp only [hv 4 (by decide)] at e4
  have e5 : wF (yC0 cz ci cO cW) (fun a => wK (vix w 61 a)) (fun a => wN (vix w 61 a)) (fun a f => yT0 w (vix w 61 a) f) (fun a f => yI0 (vix w 61 a) f) (fun a => yQ0 w (vix w 61 a)) (fun a => yJ0 (vix w 61 a)) (w 5) = _ := wF_20 (show wK (vix w 61 (w 5)) = 20 by rw [hv 5 (by decide)]; rfl)
  try simp only [hv 5 (by decide)] at e5
  have e6 : wF (yC0 cz ci cO cW) (fun a => wK (vix w 61 a)) (fun a => wN (vix w 61 a)) (fun a f => yT0 w (vix w 61 a) f) (fun a f => yI0 (vix w 61 a) f) (fun a => yQ0 w (vix w 61 a)) (fun a => yJ0 (vix w 61 a)) (w 6) = _ := wF_20 (show wK (vix w 61 (w 6)) = 20 by rw [hv 6 (by decide)]; rfl)
  try simp only [hv 6 (by decide)] at e6
  have e7 : wF (yC0 cz ci cO cW) (fun a => wK (vix w 61 a)) (fun a => wN (vix w 61 a)) (fun a f => yT0 w (vix w 61 a) f) (fun a f => yI0 (vix w 61 a) f) (fun a => yQ0 w (vix w 61 a)) (fun a => yJ0 (vix w 61 a)) (w 7) = _ := wF_20 (show wK (vix w 61 (w 7)) = 20 by rw [hv 7 (by decide)]; rfl)
  try simp only [hv 7 (by decide)] at e7
  have e8 : wF (yC0 cz ci cO cW) (fun a => wK (vix w 61 a)) (fun a => wN (vix w 61 a)) (fun a f => yT0 w (vix w 61 a) f) (fun a f => yI0 (vix w 61 a) f) (fun a => yQ0 w (vix w 61 a)) (fun a => yJ0 (vix w 61 a)) (w 8) = _ := wF_20 (show wK (vix w 61 (w 8)) = 20 by rw [hv 8 (by decide)]; rfl)
  try simp only [hv 8 (by decide)] at e8
  have e9 : wF (yC0 cz ci cO cW) (fun a => wK (vix w 61 a)) (fun a => wN (vix w 61 a)) (fun a f => yT0 w (vix w 61 a) f) (fun a f => yI0 (vix w 61 a) f) (fun a => yQ0 w (vix w 61 a)) (fun a => yJ0 (vix w 61 a)) (w 9) = _ := wF_20 (show wK (vix w 61 (w 9)) = 20 by rw [hv 9 (by decide)]; rfl)
  try simp only [hv 9 (by decide)] at e9
  have e10 : wF (yC0 cz ci cO cW) (fun a => wK (vix w 61 a)) (fun a => wN (vix w 61 a)) (fun a f => yT0 w (vix w 61 a) f) (fun a f => yI0 (vix w 61 a) f) (fun a => yQ0 w (vix w 61 a)) (fun a => yJ0 (vix w 61 a)) (w 10) = _ := wF_20 (show wK (vix w 61 (w 10)) = 20 by rw [hv 10 (by decide)]; rfl)
  try simp only [hv 10 (by decide)] at e10
  have e11 : wF (yC0 cz ci cO cW) (fun a => wK (vix w 61 a)) (fun a => wN (vix w 61 a)) (fun a f => yT0 w (vix w 61 a) f) (fun a f => yI0 (vix w 61 a) f) (fun a => yQ0 w (vix w 61 a)) (fun a => yJ0 (vix w 61 a)) (w 11) = _ := wF_20 (show wK (vix w 61 (w 11)) = 20 by rw [hv 11 (by decide)]; rfl)
  try simp only [hv 11 (by decide)] at e11
  have e12 : wF (yC0 cz ci cO cW) (fun a => wK (vix w 61 a)) (fun a => wN (vix w 61 a)) (fun a f => yT0 w (vix w 61 a) f) (fun a f => yI0 (vix w 61 a) f) (fun a => yQ0 w (vix w 61 a)) (fun a => yJ0 (vix w 61 a)) (w 12) = _ := wF_20 (show wK (vix w 61 (w 12)) = 20 by rw [hv 12 (by decide)]; rfl)
  try simp only [hv 12 (by decide)] at e12
  have e13 : wF (yC0 cz ci cO cW) (fun a => wK (vix w 61 a)) (fun a => wN (vix w 61 a)) (fun a f => yT0 w (vix w 61 a) f) (fun a f => yI0 (vix w 61 a) f) (fun a => yQ0 w (vix w 61 a)) (fun a => yJ0 (vix w 61 a)) (w 13) = _ := wF_20 (show wK (vix w 61 (w 13)) = 20 by rw [hv 13 (by decide)]; rfl)
  try simp only [hv 13 (by decide)] at e13
  have e14 : wF (yC0 cz ci cO cW) (fun a => wK (vix w 61 a)) (fun a => wN (vix w 61 a)) (fun a f => yT0 w (vix w 61 a) f) (fun a f => yI0 (vix w 61 a) f) (fun a => yQ0 w (vix w 61 a)) (fun a => yJ0 (vix w 61 a)) (w 14) = _ := wF_20 (show wK (vix w 61 (w 14)) = 20 by rw [hv 14 (by decide)]; rfl)
  try simp only [hv 14 (by decide)] at e14
  have e15 : wF (yC0 cz ci cO cW) (fun a => wK (vix w 61 a)) (fun a => wN (vix w 61 a)) (fun a f => yT0 w (vix w 61 a) f) (fun a f => yI0 (vix w 61 a) f) (fun a => yQ0 w (vix w 61 a)) (fun a => yJ0 (vix w 61 a)) (w 15) = _ := wF_20 (show wK (vix w 61 (w 15)) = 20 by rw [hv 15 (by decide)]; rfl)
  try simp only [hv 15 (by decide)] at e15
  have e16 : wF (yC0 cz ci cO cW) (fun a => wK (vix w 61 a)) (fun a => wN (vix w 61 a)) (fun a f => yT0 w (vix w 61 a) f) (fun a f => yI0 (vix w 61 a) f) (fun a => yQ0 w (vix w 61 a)) (fun a => yJ0 (vix w 61 a)) (w 16) = _ := wF_20 (show wK (vix w 61 (w 16)) = 20 by rw [hv 16 (by decide)]; rfl)
  try simp only [hv 16 (by decide)] at e16
  have e17 : wF (yC0 cz ci cO cW) (fun a => wK (vix w 61 a)) (fun a => wN (vix w 61 a)) (fun a f => yT0 w (vix w 61 a) f) (fun a f => yI0 (vix w 61 a) f) (fun a => yQ0 w (vix w 61 a)) (fun a => yJ0 (vix w 61 a)) (w 17) = _ := wF_23 (show wK (vix w 61 (w 17)) = 23 by rw [hv 17 (by decide)]; rfl)
  try simp only [hv 17 (by decide)] at e17
  have e18 : wF (yC0 cz ci cO cW) (fun a => wK (vix w 61 a)) (fun a => wN (vix w 61 a)) (fun a f => yT0 w (vix w 61 a) f) (fun a f => yI0 (vix w 61 a) f) (fun a => yQ0 w (vix w 61 a)) (fun a => yJ0 (vix w 61 a)) (w 18) = _ := wF_23 (show wK (vix w 61 (w 18)) = 23 by rw [hv 18 (by decide)]; rfl)
  try simp only [hv 18 (by decide)] at e18
  have e19 : wF (yC0 cz ci cO cW) (fun a => wK (vix w 61 a)) (fun a => wN (vix w 61 a)) (fun a f => yT0 w (vix w 61 a) f) (fun a f => yI0 (vix w 61 a) f) (fun a => yQ0 w (vix w 61 a)) (fun a => yJ0 (vix w 61 a)) (w 19) = _ := wF_23 (show wK (vix w 61 (w 19)) = 23 by rw [hv 19 (by decide)]; rfl)
  try simp only [hv 19 (by decide)] at e19
  have e20 : wF (yC0 cz ci cO cW) (fun a => wK (vix w 61 a)) (fun a => wN (vix w 61 a)) (fun a f => yT0 w (vix w 61 a) f) (fun a f => yI0 (vix w 61 a) f) (fun a => yQ0 w (vix w 61 a)) (fun a => yJ0 (vix w 61 a)) (w 20) = _ := wF_23 (show wK (vix w 61 (w 20)) = 23 by rw [hv 20 (by decide)]; rfl)
  try simp only [hv 20 (by decide)] at e20
  have e21 : wF (yC0 cz ci cO cW) (fun a => wK (vix w 61 a)) (fun a => wN (vix w 61 a)) (fun a f => yT0 w (vix w 61 a) f) (fun a f => yI0 (vix w 61 a) f) (fun a => yQ0 w (vix w 61 a)) (fun a => yJ0 (vix w 61 a)) (w 21) = _ := wF_6 (show wK (vix w 61 (w 21)) = 6 by rw [hv 21 (by decide)]; rfl)
  try simp only [hv 21 (by decide)] at e21
  have e22 : wF (yC0 cz ci cO cW) (fun a => wK (vix w 61 a)) (fun a => wN (vix w 61 a)) (fun a f => yT0 w (vix w 61 a) f) (fun a f => yI0 (vix w 61 a) f) (fun a => yQ0 w (vix w 61 a)) (fun a => yJ0 (vix w 61 a)) (w 22) = _ := wF_6 (show wK (vix w 61 (w 22)) = 6 by rw [hv 22 (by decide)]; rfl)
  try simp only [hv 22 (by decide)] at e22
  have e23 : wF (yC0 cz ci cO cW) (fun a => wK (vix w 61 a)) (fun a => wN (vix w 61 a)) (fun a f => yT0 w (vix w 61 a) f) (fun a f => yI0 (vix w 61 a) f) (fun a => yQ0 w (vix w 61 a)) (fun a => yJ0 (vix w 61 a)) (w 23) = _ := wF_6 (show wK (vix w 61 (w 23)) = 6 by rw [hv 23 (by decide)]; rfl)
  try simp only [hv 23 (by decide)] at e23
  have e24 : wF (yC0 cz ci cO cW) (fun a => wK (vix w 61 a)) (fun a => wN (vix w 61 a)) (fun a f => yT0 w (vix w 61 a) f) (fun a f => yI0 (vix w 61 a) f) (fun a => yQ0 w (vix w 61 a)) (fun a => yJ0 (vix w 61 a)) (w 24) = _ := wF_6 (show wK (vix w 61 (w 24)) = 6 by rw [hv 24 (by decide)]; rfl)
  try simp only [hv 24 (by decide)] at e24
  have e25 : wF (yC0 cz ci cO cW) (fun a => wK (vix w 61 a)) (fun a => wN (vix w 61 a)) (fun a f => yT0 w (vix w 61 a) f) (fun a f => yI0 (vix w 61 a) f) (fun a => yQ0 w (vix w 61 a)) (fun a => yJ0 (vix w 61 a)) (w 25) = _ := wF_6 (show wK (vix w 61 (w 25)) = 6 by rw [hv 25 (by decide)]; rfl)
  try simp only [hv 25 (by decide)] at e25
  have e26 : wF (yC0 cz ci cO cW) (fun a => wK (vix w 61 a)) (fun a => wN (vix w 61 a)) (fun a f => yT0 w (vix w 61 a) f) (fun a f => yI0 (vix w 61 a) f) (fun a => yQ0 w (vix w 61 a)) (fun a => yJ0 (vix w 61 a)) (w 26) = _ := wF_6 (show wK (vix w 61 (w 26)) = 6 by rw [hv 26 (by decide)]; rfl)
  try simp only [hv 26 (by decide)] at e26
  have e27 : wF (yC0 cz ci cO cW) (fun a => wK (vix w 61 a)) (fun a => wN (vix w 61 a)) (fun a f => yT0 w (vix w 61 a) f) (fun a f => yI0 (vix w 61 a) f) (fun a => yQ0 w (vix w 61 a)) (fun a => yJ0 (vix w 61 a)) (w 27) = _ := wF_6 (show wK (vix w 61 (w 27)) = 6 by rw [hv 27 (by decide)]; rfl)
  try simp only [hv 27 (by decide)] at e27
  have e28 : wF (yC0 cz ci cO cW) (fun a => wK (vix w 61 a)) (fun a => wN (vix w 61 a)) (fun a f => yT0 w (vix w 61 a) f) (fun a f => yI0 (vix w 61 a) f) (fun a => yQ0 w (vix w 61 a)) (fun a => yJ0 (vix w 61 a)) (w 28) = _ := wF_6 (show wK (vix w 61 (w 28)) = 6 by rw [hv 28 (by decide)]; rfl)
  try simp only [hv 28 (by decide)] at e28
  have e29 : wF (yC0 cz ci cO cW) (fun a => wK (vix w 61 a)) (fun a => wN (vix w 61 a)) (fun a f => yT0 w (vix w 61 a) f) (fun a f => yI0 (vix w 61 a) f) (fun a => yQ0 w (vix w 61 a)) (fun a => yJ0 (vix w 61 a)) (w 29) = _ := wF_6 (show wK (vix w 61 (w 29)) = 6 by rw [hv 29 (by decide)]; rfl)
  try simp only [hv 29 (by decide)] at e29
  have e30 : wF (yC0 cz ci cO cW) (fun a => wK (vix w 61 a)) (fun a => wN (vix w 61 a)) (fun a f => yT0 w (vix w 61 a) f) (fun a f => yI0 (vix w 61 a) f) (fun a => yQ0 w (vix w 61 a)) (fun a => yJ0 (vix w 61 a)) (w 30) = _ := wF_6 (show wK (vix w 61 (w 30)) = 6 by rw [hv 30 (by decide)]; rfl)
  try simp only [hv 30 (by decide)] at e30
  have e31 : wF (yC0 cz ci cO cW) (fun a => wK (vix w 61 a)) (fun a => wN (vix w 61 a)) (fun a f => yT0 w (vix w 61 a) f) (fun a f => yI0 (vix w 61 a) f) (fun a => yQ0 w (vix w 61 a)) (fun a => yJ0 (vix w 61 a)) (w 31) = _ := wF_6 (show wK (vix w 61 (w 31)) = 6 by rw [hv 31 (by decide)]; rfl)
  try simp only [hv 31 (by decide)] at e31
  have e32 : wF (yC0 cz ci cO cW) (fun a => wK (vix w 61 a)) (fun a => wN (vix w 61 a)) (fun a f => yT0 w (vix w 61 a) f) (fun a f => yI0 (vix w 61 a) f) (fun a => yQ0 w (vix w 61 a)) (fun a => yJ0 (vix w 61 a)) (w 32) = _ := wF_6 (show wK (vix w 61 (w 32)) = 6 by rw [hv 32 (by decide)]; rfl)
  try simp only [hv 32 (by decide)] at e32
  have e33 : wF (yC0 cz ci cO cW) (fun a => wK (vix w 61 a)) (fun a => wN (vix w 61 a)) (fun a f => yT0 w (vix w 61 a) f) (fun a f => yI0 (vix w 61 a) f) (fun a => yQ0 w (vix w 61 a)) (fun a => yJ0 (vix w 61 a)) (w 33) = _ := wF_6 (show wK (vix w 61 (w 33)) = 6 by rw [hv 33 (by decide)]; rfl)
  try simp only [hv 33 (by decide)] at e33
  have e34 : wF (yC0 cz ci cO cW) (fun a => wK (vix w 61 a)) (fun a => wN (vix w 61 a)) (fun a f => yT0 w (vix w 61 a) f) (fun a f => yI0 (vix w 61 a) f) (fun a => yQ0 w (vix w 61 a)) (fun a => yJ0 (vix w 61 a)) (w 34) = _ := wF_6 (show wK (vix w 61 (w 34)) = 6 by rw [hv 34 (by decide)]; rfl)
  try simp only [hv 34 (by decide)] at e34
  have e35 : wF (yC0 cz ci cO cW) (fun a => wK (vix w 61 a)) (fun a => wN (vix w 61 a)) (fun a f => yT0 w (vix w 61 a) f) (fun a f => yI0 (vix w 61 a) f) (fun a => yQ0 w (vix w 61 a)) (fun a => yJ0 (vix w 61 a)) (w 35) = _ := wF_6 (show wK (vix w 61 (w 35)) = 6 by rw [hv 35 (by decide)]; rfl)
  try simp only [hv 35 (by decide)] at e35
  have e36 : wF (yC0 cz ci cO cW) (fun a => wK (vix w 61 a)) (fun a => wN (vix w 61 a)) (fun a f => yT0 w (vix w 61 a) f) (fun a f => yI0 (vix w 61 a) f) (fun a => yQ0 w (vix w 61 a)) (fun a => yJ0 (vix w 61 a)) (w 36) = _ := wF_6 (show wK (vix w 61 (w 36)) = 6 by rw [hv 36 (by decide)]; rfl)
  try simp only [hv 36 (by decide)] at e36
  have e37 : wF (yC0 cz ci cO cW) (fun a => wK (vix w 61 a)) (fun a => wN (vix w 61 a)) (fun a f => yT0 w (vix w 61 a) f) (fun a f => yI0 (vix w 61 a) f) (fun a => yQ0 w (vix w 61 a)) (fun a => yJ0 (vix w 61 a)) (w 37) = _ := wF_6 (show wK (vix w 61 (w 37)) = 6 by rw [hv 37 (by decide)]; rfl)
  try simp only [hv 37 (by decide)] at e37
  have e38 : wF (yC0 cz ci cO cW) (fun a => wK (vix w 61 a)) (fun a => wN (vix w 61 a)) (fun a f => yT0 w (vix w 61 a) f) (fun a f => yI0 (vix w 61 a) f) (fun a => yQ0 w (vix w 61 a)) (fun a => yJ0 (vix w 61 a)) (w 38) = _ := wF_6 (show wK (vix w 61 (w 38)) = 6 by rw [hv 38 (by decide)]; rfl)
  try simp only [hv 38 (by decide)] at e38
  have e39 : wF (yC0 cz ci cO cW) (fun a => wK (vix w 61 a)) (fun a => wN (vix w 61 a)) (fun a f => yT0 w (vix w 61 a) f) (fun a f => yI0 (vix w 61 a) f) (fun a => yQ0 w (vix w 61 a)) (fun a => yJ0 (vix w 61 a)) (w 39) = _ := wF_6 (show wK (vix w 61 (w 39)) = 6 by rw [hv 39 (by decide)]; rfl)
  try simp only [hv 39 (by decide)] at e39
  have e40 : wF (yC0 cz ci cO cW) (fun a => wK (vix w 61 a)) (fun a => wN (vix w 61 a)) (fun a f => yT0 w (vix w 61 a) f) (fun a f => yI0 (vix w 61 a) f) (fun a => yQ0 w (vix w 61 a)) (fun a => yJ0 (vix w 61 a)) (w 40) = _ := wF_6 (show wK (vix w 61 (w 40)) = 6 by rw [hv 40 (by decide)]; rfl)
  try simp only [hv 40 (by decide)] at e40
  have e41 : wF (yC0 cz ci cO cW) (fun a => wK (vix w 61 a)) (fun a => wN (vix w 61 a)) (fun a f => yT0 w (vix w 61 a) f) (fun a f => yI0 (vix w 61 a) f) (fun a => yQ0 w (vix w 61 a)) (fun a => yJ0 (vix w 61 a)) (w 41) = _ := wF_20 (show wK (vix w 61 (w 41)) = 20 by rw [hv 41 (by decide)]; rfl)
  try simp only [hv 41 (by decide)] at e41
  have e42 : wF (yC0 cz ci cO cW) (fun a => wK (vix w 61 a)) (fun a => wN (vix w 61 a)) (fun a f => yT0 w (vix w 61 a) f) (fun a f => yI0 (vix w 61 a) f) (fun a => yQ0 w (vix w 61 a)) (fun a => yJ0 (vix w 61 a)) (w 42) = _ := wF_20 (show wK (vix w 61 (w 42)) = 20 by rw [hv 42 (by decide)]; rfl)
  try simp only [hv 42 (by decide)] at e42
  have e43 : wF (yC0 cz ci cO cW) (fun a => wK (vix w 61 a)) (fun a => wN (vix w 61 a)) (fun a f => yT0 w (vix w 61 a) f) (fun a f => yI0 (vix w 61 a) f) (fun a => yQ0 w (vix w 61 a)) (fun a => yJ0 (vix w 61 a)) (w 43) = _ := wF_20 (show wK (vix w 61 (w 43)) = 20 by rw [hv 43 (by decide)]; rfl)
  try simp only [hv 43 (by decide)] at e43
  have e44 : wF (yC0 cz ci cO cW) (fun a => wK (vix w 61 a)) (fun a => wN (vix w 61 a)) (fun a f => yT0 w (vix w 61 a) f) (fun a f => yI0 (vix w 61 a) f) (fun a => yQ0 w (vix w 61 a)) (fun a => yJ0 (vix w 61 a)) (w 44) = _ := wF_20 (show wK (vix w 61 (w 44)) = 20 by rw [hv 44 (by decide)]; rfl)
  try simp only [hv 44 (by decide)] at e44
  have e45 : wF (yC0 cz ci cO cW) (fun a => wK (vix w 61 a)) (fun a => wN (vix w 61 a)) (fun a f => yT0 w (vix w 61 a) f) (fun a f => yI0 (vix w 61 a) f) (fun a => yQ0 w (vix w 61 a)) (fun a => yJ0 (vix w 61 a)) (w 45) = _ := wF_20 (show wK (vix w 61 (w 45)) = 20 by rw [hv 45 (by decide)]; rfl)
  try simp only [hv 45 (by decide)] at e45
  have e46 : wF (yC0 cz ci cO cW) (fun a => wK (vix w 61 a)) (fun a => wN (vix w 61 a)) (fun a f => yT0 w (vix w 61 a) f) (fun a f => yI0 (vix w 61 a) f) (fun a => yQ0 w (vix w 61 a)) (fun a => yJ0 (vix w 61 a)) (w 46) = _ := wF_20 (show wK (vix w 61 (w 46)) = 20 by rw [hv 46 (by decide)]; rfl)
  try simp only [hv 46 (by decide)] at e46
  have e47 : wF (yC0 cz ci cO cW) (fun a => wK (vix w 61 a)) (fun a => wN (vix w 61 a)) (fun a f => yT0 w (vix w 61 a) f) (fun a f => yI0 (vix w 61 a) f) (fun a => yQ0 w (vix w 61 a)) (fun a => yJ0 (vix w 61 a)) (w 47) = _ := wF_20 (show wK (vix w 61 (w 47)) = 20 by rw [hv 47 (by decide)]; rfl)
  try simp only [hv 47 (by decide)] at e47
  have e48 : wF (yC0 cz ci cO cW) (fun a => wK (vix w 61 a)) (fun a => wN (vix w 61 a)) (fun a f => yT0 w (vix w 61 a) f) (fun a f => yI0 (vix w 61 a) f) (fun a => yQ0 w (vix w 61 a)) (fun a => yJ0 (vix w 61 a)) (w 48) = _ := wF_20 (show wK (vix w 61 (w 48)) = 20 by rw [hv 48 (by decide)]; rfl)
  try simp only [hv 48 (by decide)] at e48
  have e49 : wF (yC0 cz ci cO cW) (fun a => wK (vix w 61 a)) (fun a => wN (vix w 61 a)) (fun a f => yT0 w (vix w 61 a) f) (fun a f => yI0 (vix w 61 a) f) (fun a => yQ0 w (vix w 61 a)) (fun a => yJ0 (vix w 61 a)) (w 49) = _ := wF_20 (show wK (vix w 61 (w 49)) = 20 by rw [hv 49 (by decide)]; rfl)
  try simp only [hv 49 (by decide)] at e49
  have e50 : wF (yC0 cz ci cO cW) (fun a => wK (vix w 61 a)) (fun a => wN (vix w 61 a)) (fun a f => yT0 w (vix w 61 a) f) (fun a f => yI0 (vix w 61 a) f) (fun a => yQ0 w (vix w 61 a)) (fun a => yJ0 (vix w 61 a)) (w 50) = _ := wF_20 (show wK (vix w 61 (w 50)) = 20 by rw [hv 50 (by decide)]; rfl)
  try simp only [hv 50 (by decide)] at e50
  have e51 : wF (yC0 cz ci cO cW) (fun a => wK (vix w 61 a)) (fun a => wN (vix w 61 a)) (fun a f => yT0 w (vix w 61 a) f) (fun a f => yI0 (vix w 61 a) f) (fun a => yQ0 w (vix w 61 a)) (fun a => yJ0 (vix w 61 a)) (w 51) = _ := wF_20 (show wK (vix w 61 (w 51)) = 20 by rw [hv 51 (by decide)]; rfl)
  try simp only [hv 51 (by decide)] at e51
  have e52 : wF (yC0 cz ci cO cW) (fun a => wK (vix w 61 a)) (fun a => wN (vix w 61 a)) (fun a f => yT0 w (vix w 61 a) f) (fun a f => yI0 (vix w 61 a) f) (fun a => yQ0 w (vix w 61 a)) (fun a => yJ0 (vix w 61 a)) (w 52) = _ := wF_20 (show wK (vix w 61 (w 52)) = 20 by rw [hv 52 (by decide)]; rfl)
  try simp only [hv 52 (by decide)] at e52
  have e53 : wF (yC0 cz ci cO cW) (fun a => wK (vix w 61 a)) (fun a => wN (vix w 61 a)) (fun a f => yT0 w (vix w 61 a) f) (fun a f => yI0 (vix w 61 a) f) (fun a => yQ0 w (vix w 61 a)) (fun a => yJ0 (vix w 61 a)) (w 53) = _ := wF_20 (show wK (vix w 61 (w 53)) = 20 by rw [hv 53 (by decide)]; rfl)
  try simp only [hv 53 (by decide)] at e53
  have e54 : wF (yC0 cz ci cO cW) (fun a => wK (vix w 61 a)) (fun a => wN (vix w 61 a)) (fun a f => yT0 w (vix w 61 a) f) (fun a f => yI0 (vix w 61 a) f) (fun a => yQ0 w (vix w 61 a)) (fun a => yJ0 (vix w 61 a)) (w 54) = _ := wF_20 (show wK (vix w 61 (w 54)) = 20 by rw [hv 54 (by decide)]; rfl)
  try simp only [hv 54 (by decide)] at e54
  have e55 : wF (yC0 cz ci cO cW) (fun a => wK (vix w 61 a)) (fun a => wN (vix w 61 a)) (fun a f => yT0 w (vix w 61 a) f) (fun a f => yI0 (vix w 61 a) f) (fun a => yQ0 w (vix w 61 a)) (fun a => yJ0 (vix w 61 a)) (w 55) = _ := wF_20 (show wK (vix w 61 (w 55)) = 20 by rw [hv 55 (by decide)]; rfl)
  try simp only [hv 55 (by decide)] at e55
  have e56 : wF (yC0 cz ci cO cW) (fun a => wK (vix w 61 a)) (fun a => wN (vix w 61 a)) (fun a f => yT0 w (vix w 61 a) f) (fun a f => yI0 (vix w 61 a) f) (fun a => yQ0 w (vix w 61 a)) (fun a => yJ0 (vix w 61 a)) (w 56) = _ := wF_20 (show wK (vix w 61 (w 56)) = 20 by rw [hv 56 (by decide)]; rfl)
  try simp only [hv 56 (by decide)] at e56
  have e57 : wF (yC0 cz ci cO cW) (fun a => wK (vix w 61 a)) (fun a => wN (vix w 61 a)) (fun a f => yT0 w (vix w 61 a) f) (fun a f => yI0 (vix w 61 a) f) (fun a => yQ0 w (vix w 61 a)) (fun a => yJ0 (vix w 61 a)) (w 57) = _ := wF_20 (show wK (vix w 61 (w 57)) = 20 by rw [hv 57 (by decide)]; rfl)
  try simp only [hv 57 (by decide)] at e57
  have e58 : wF (yC0 cz ci cO cW) (fun a => wK (vix w 61 a)) (fun a => wN (vix w 61 a)) (fun a f => yT0 w (vix w 61 a) f) (fun a f => yI0 (vix w 61 a) f) (fun a => yQ0 w (vix w 61 a)) (fun a => yJ0 (vix w 61 a)) (w 58) = _ := wF_20 (show wK (vix w 61 (w 58)) = 20 by rw [hv 58 (by decide)]; rfl)
  try simp only [hv 58 (by decide)] at e58
  have e59 : wF (yC0 cz ci cO cW) (fun a => wK (vix w 61 a)) (fun a => wN (vix w 61 a)) (fun a f => yT0 w (vix w 61 a) f) (fun a f => yI0 (vix w 61 a) f) (fun a => yQ0 w (vix w 61 a)) (fun a => yJ0 (vix w 61 a)) (w 59) = _ := wF_20 (show wK (vix w 61 (w 59)) = 20 by rw [hv 59 (by decide)]; rfl)
  try simp only [hv 59 (by decide)] at e59
  have e60 : wF (yC0 cz ci cO cW) (fun a => wK (vix w 61 a)) (fun a => wN (vix w 61 a)) (fun a f => yT0 w (vix w 61 a) f) (fun a f => yI0 (vix w 61 a) f) (fun a => yQ0 w (vix w 61 a)) (fun a => yJ0 (vix w 61 a)) (w 60) = _ := wF_20 (show wK (vix w 61 (w 60)) = 20 by rw [hv 60 (by decide)]; rfl)
  try simp only [hv 60 (by decide)] at e60
  simp only [va_pl, List.map_cons, List.map_nil, e0, e1, e2, e3, e4, e5, e6, e7, e8, e9, e10, e11, e12, e13, e14, e15, e16, e17, e18, e19, e20, e21, e22, e23, e24, e25, e26, e27, e28, e29, e30, e31, e32, e33, e34, e35, e36, e37, e38, e39, e40, e41, e42, e43, e44, e45, e46, e47, e48, e49, e50, e51, e52, e53, e54, e55, e56, e57, e58, e59, e60]
  rfl
