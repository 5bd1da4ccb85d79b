/-! the model: its shape (which never changes) and its numbers -/
def wK (k : Nat) : Nat := if k = 0 then 7 else if k = 1 then 22 else if k = 2 then 21 else if k < 17 then 20 else if k < 21 then 23 else if k < 41 then 6 else 20
def wN (k : Nat) : Nat := if k < 8 then 4 else if k < 13 then 6 else if k < 15 then 4 else if k < 16 then 16 else if k < 17 then 6 else 640
def MS (w : Nat → Nat) (L : List Nat) (K N : Nat → Nat) (T : Nat → Nat → Nat) (Q : Nat → Nat → Option Nat) : Prop := (∀ k, k < 61 → w k ∈ L ∧ K (w k) = wK k) ∧ (∀ i j, i < 61 → j < 61 → w i = w j → i = j) ∧ (∀ k, k < 16 → T (w 0) k = w (k + 1)) ∧ (∀ p, p < 4 → Q (w 1) p = some (w (17 + p))) ∧ (∀ p n, p < 4 → n < 5 → Q (w (17 + p)) n = some (w (21 + (5 * p + n)))) ∧ (∀ j, j < 20 → T (w (21 + j)) 0 = w (41 + j)) ∧ (∀ k, k < 61 → wK k = 20 → N (w k) = wN k)
section XM
variable {w : Nat → Nat} {L : List Nat} {K N : Nat → Nat} {T : Nat → Nat → Nat} {Q : Nat → Nat → Option Nat}
theorem MS.at (h : MS w L K N T Q) (k : Nat) (hk : k < 61) : w k ∈ L := (h.1 k hk).1
theorem MS.k (h : MS w L K N T Q) (k : Nat) (hk : k < 61) {x : Nat} (hx : wK k = x) : K (w k) = x := (h.1 k hk).2.trans hx
theorem wK_row {p : Nat} (hp : p < 4) : wK (17 + p) = 23 := by
  unfold wK
  rw [if_neg (by omega), if_neg (by omega), if_neg (by omega), if_neg (by omega), if_pos (by omega)]
theorem wK_lg {j : Nat} (hj : j < 20) : wK (21 + j) = 6 := by
  unfold wK
  rw [if_neg (by omega), if_neg (by omega), if_neg (by omega), if_neg (by omega), if_neg (by omega), if_pos (by omega)]
theorem wK_ce {j : Nat} (hj : j < 20) : wK (41 + j) = 20 := by
  unfold wK
  rw [if_neg (by omega), if_neg (by omega), if_neg (by omega), if_neg (by omega), if_neg (by omega), if_neg (by omega)]
theorem MS.row (h : MS w L K N T Q) {p : Nat} (hp : p < 4) : w (17 + p) ∈ L ∧ K (w (17 + p)) = 23 := ⟨(h.1 _ (by omega)).1, (h.1 _ (by omega)).2.trans (wK_row hp)⟩
theorem MS.lg (h : MS w L K N T Q) {j : Nat} (hj : j < 20) : w (21 + j) ∈ L ∧ K (w (21 + j)) = 6 := ⟨(h.1 _ (by omega)).1, (h.1 _ (by omega)).2.trans (wK_lg hj)⟩
theorem MS.ce (h : MS w L K N T Q) {j : Nat} (hj : j < 20) : w (41 + j) ∈ L ∧ K (w (41 + j)) = 20 := ⟨(h.1 _ (by omega)).1, (h.1 _ (by omega)).2.trans (wK_ce hj)⟩
theorem MS.t (h : MS w L K N T Q) (k : Nat) (hk : k < 16) : T (w 0) k = w (k + 1) := h.2.2.1 k hk
theorem MS.tl (h : MS w L K N T Q) {j : Nat} (hj : j < 20) : T (w (21 + j)) 0 = w (41 + j) := h.2.2.2.2.2.1 j hj
theorem MS.qo (h : MS w L K N T Q) {p : Nat} (hp : p < 4) : Q (w 1) p = some (w (17 + p)) := h.2.2.2.1 p hp
theorem MS.qr (h : MS w L K N T Q) {p n : Nat} (hp : p < 4) (hn : n < 5) : Q (w (17 + p)) n = some (w (21 + (5 * p + n))) := h.2.2.2.2.1 p n hp hn
theorem MS.ne (h : MS w L K N T Q) {i j : Nat} (hi : i < 61) (hj : j < 61) (hij : ¬ i = j) : ¬ w i = w j := fun q => hij (h.2.1 i j hi hj q)
theorem MS.inN (h : MS w L K N T Q) (k : Nat) (hk : k < 61) {n : Nat} (h1 : wK k = 20) (h2 : wN k = n) {i : Int32} (hin : vp_in i n) : vp_in i (N (w k)) := by
  rw [h.2.2.2.2.2.2 k hk h1, h2]; exact hin
theorem MS.nc (h : MS w L K N T Q) {j : Nat} (hj : j < 20) : N (w (41 + j)) = 640 := by
  rw [h.2.2.2.2.2.2 (41 + j) (by omega) (wK_ce hj)]
  unfold wN
  rw [if_neg (by omega), if_neg (by omega), if_neg (by omega), if_neg (by omega), if_neg (by omega)]
theorem MS.inC (h : MS w L K N T Q) {j : Nat} (hj : j < 20) {i : Int32} (hin : vp_in i 640) : vp_in i (N (w (41 + j))) := by
  rw [h.nc hj]; exact hin
end XM
/-- one log's numbers: 1 start, 2 end, 3 high, 4 flushed -/
def LI (E : Int) (x : Nat → Int32) : Prop := 0 ≤ (x 1).toInt ∧ (x 1).toInt ≤ (x 2).toInt ∧ (x 2).toInt ≤ (x 1).toInt + 60 ∧ (x 2).toInt ≤ E ∧ (x 1).toInt ≤ (x 4).toInt ∧ (x 3).toInt ≤ (x 2).toInt
/-- a leader is one of the five, and in step -/
def LD (a b : Int32) : Prop := a.toInt < 0 ∨ (a.toInt < 5 ∧ (b >>> (a &&& 31)) &&& 1 = 1)
def ML (w : Nat → Nat) (E : Int) (I : Nat → Nat → Int32) : Prop := ∀ j, j < 20 → LI E (I (w (21 + j)))
def MD (w : Nat → Nat) (J : Nat → Nat → Int32) : Prop := ∀ p, p < 4 → LD (J (w 4) p) (J (w 7) p)
def MU (w : Nat → Nat) (I : Nat → Nat → Int32) : Prop := ∃ u : Nat, u < 32 ∧ I (w 0) 16 = nI u
def MI (w : Nat → Nat) (E : Int) (I J : Nat → Nat → Int32) : Prop := ML w E I ∧ MD w J ∧ MU w I
/-- the model's simple state is unchanged: up; there, generations, members, rounds, positions -/
def RM (w : Nat → Nat) (ex : List Nat) (I J I' J' : Nat → Nat → Int32) : Prop := I' (w 0) 16 = I (w 0) 16 ∧ ∀ k, (k = 2 ∨ k = 8 ∨ k = 13 ∨ k = 14 ∨ k = 15) → ¬ k ∈ ex → J' (w k) = J (w k)
theorem RM.rf {w : Nat → Nat} {ex : List Nat} {I J : Nat → Nat → Int32} : RM w ex I J I J := ⟨rfl, fun _ _ _ => rfl⟩
theorem RM.trans {w : Nat → Nat} {ex : List Nat} {I J I1 J1 I2 J2 : Nat → Nat → Int32} (h : RM w ex I J I1 J1) (h2 : RM w ex I1 J1 I2 J2) : RM w ex I J I2 J2 := ⟨h2.1.trans h.1, fun k hk hx => (h2.2 k hk hx).trans (h.2 k hk hx)⟩
theorem LI.mono {E E' : Int} {x : Nat → Int32} (h : LI E x) (hE : E ≤ E') : LI E' x := ⟨h.1, h.2.1, h.2.2.1, Int.le_trans h.2.2.2.1 hE, h.2.2.2.2⟩
theorem ML.mono {w : Nat → Nat} {E E' : Int} {I : Nat → Nat → Int32} (h : ML w E I) (hE : E ≤ E') : ML w E' I := fun j hj => (h j hj).mono hE
theorem MI.mono {w : Nat → Nat} {E E' : Int} {I J : Nat → Nat → Int32} (h : MI w E I J) (hE : E ≤ E') : MI w E' I J := ⟨h.1.mono hE, h.2⟩
section XM
variable {w : Nat → Nat} {L : List Nat} {K N : Nat → Nat} {T : Nat → Nat → Nat} {Q : Nat → Nat → Option Nat} {I J I0 J0 : Nat → Nat → Int32} {E : Int} {ex : List Nat}
theorem RM.pl (h : RM w ex I0 J0 I J) (hM : MS w L K N T Q) {j f : Nat} {x : Int32} (hj : j < 20) : RM w ex I0 J0 (p2 I (w (21 + j)) f x) J :=
  ⟨by rw [p2_na _ _ (hM.ne (by omega) (by omega) (by omega))]; exact h.1, h.2⟩
theorem RM.pn (h : RM w ex I0 J0 I J) {x : Int32} : RM w ex I0 J0 (p2 I (w 0) 17 x) J := ⟨by rw [p2_ne _ _ (fun q => absurd q.2 (by decide))]; exact h.1, h.2⟩
theorem RM.pj (h : RM w ex I0 J0 I J) (hM : MS w L K N T Q) {k : Nat} {g : Nat → Int32} (hk : k < 61) (hn : (k = 2 ∨ k = 8 ∨ k = 13 ∨ k = 14 ∨ k = 15) → k ∈ ex) : RM w ex I0 J0 I (va_up J (w k) g) :=
  ⟨h.1, fun i hi hx => by rw [va_up_ne _ _ (hM.ne (i := i) (j := k) (by omega) hk (fun q => by subst q; exact hx (hn hi)))]; exact h.2 i hi hx⟩
theorem RM.pc (h : RM w ex I0 J0 I J) (hM : MS w L K N T Q) {j : Nat} {g : Nat → Int32} (hj : j < 20) : RM w ex I0 J0 I (va_up J (w (41 + j)) g) := h.pj hM (by omega) (fun q => absurd q (by omega))
theorem ML.put (h : ML w E I) (hM : MS w L K N T Q) {j f : Nat} {x : Int32} (hj : j < 20) (hl : LI E (p2 I (w (21 + j)) f x (w (21 + j)))) : ML w E (p2 I (w (21 + j)) f x) := fun i hi => by
  by_cases q : i = j
  · subst q; exact hl
  · rw [p2_na _ _ (hM.ne (by omega) (by omega) (by omega))]; exact h i hi
theorem ML.p56 (h : ML w E I) (hM : MS w L K N T Q) {j f : Nat} {x : Int32} (hj : j < 20) (hf : f = 5 ∨ f = 6) : ML w E (p2 I (w (21 + j)) f x) := h.put hM hj (by
  have e : ∀ g, g < 5 → p2 I (w (21 + j)) f x (w (21 + j)) g = I (w (21 + j)) g := fun g hg => p2_ne _ _ (fun q => by omega)
  unfold LI
  rw [e 1 (by decide), e 2 (by decide), e 3 (by decide), e 4 (by decide)]
  exact h j hj)
theorem ML.pm (h : ML w E I) (hM : MS w L K N T Q) {f : Nat} {x : Int32} : ML w E (p2 I (w 0) f x) := fun i hi => by
  rw [p2_na _ _ (hM.ne (by omega) (by omega) (by omega))]; exact h i hi
theorem MU.pl (h : MU w I) (hM : MS w L K N T Q) {j f : Nat} {x : Int32} (hj : j < 20) : MU w (p2 I (w (21 + j)) f x) := by
  obtain ⟨u, hu, e⟩ := h
  exact ⟨u, hu, by rw [p2_na _ _ (hM.ne (by omega) (by omega) (by omega))]; exact e⟩
theorem MU.pn (h : MU w I) {x : Int32} : MU w (p2 I (w 0) 17 x) := by
  obtain ⟨u, hu, e⟩ := h
  exact ⟨u, hu, by rw [p2_ne _ _ (fun q => absurd q.2 (by decide))]; exact e⟩
theorem MD.pj (h : MD w J) (hM : MS w L K N T Q) {k : Nat} {g : Nat → Int32} (hk : k < 61) (hn : ¬ (k = 4 ∨ k = 7)) : MD w (va_up J (w k) g) := fun p hp => by
  rw [va_up_ne _ _ (hM.ne (by omega) hk (by omega)), va_up_ne _ _ (hM.ne (by omega) hk (by omega))]; exact h p hp
theorem MD.pc (h : MD w J) (hM : MS w L K N T Q) {j : Nat} {g : Nat → Int32} (hj : j < 20) : MD w (va_up J (w (41 + j)) g) := h.pj hM (by omega) (by omega)
/-- a write into the steps -/
theorem MD.p7 (h : MD w J) (hM : MS w L K N T Q) {i : Nat} {x : Int32} (hx : LD (J (w 4) i) x) : MD w (va_up J (w 7) (upd (J (w 7)) i x)) := fun p hp => by
  rw [va_up_ne _ _ (hM.ne (by omega) (by omega) (by omega)), va_up_self]
  by_cases q : p = i
  · subst q; simp only [upd, if_true]; exact hx
  · simp only [upd, if_neg q]; exact h p hp
/-- a write into the leaders -/
theorem MD.p4 (hM : MS w L K N T Q) {i : Nat} {x : Int32} (h : ∀ p, p < 4 → ¬ p = i → LD (J (w 4) p) (J (w 7) p)) (hx : LD x (J (w 7) i)) : MD w (va_up J (w 4) (upd (J (w 4)) i x)) := fun p hp => by
  rw [va_up_self, va_up_ne _ _ (hM.ne (by omega) (by omega) (by omega))]
  by_cases q : p = i
  · subst q; simp only [upd, if_true]; exact hx
  · simp only [upd, if_neg q]; exact h p hp q
theorem MD.p7' (h : MD w J) (hM : MS w L K N T Q) {i : Nat} {x : Int32} : ∀ p, p < 4 → ¬ p = i → LD ((va_up J (w 7) (upd (J (w 7)) i x)) (w 4) p) ((va_up J (w 7) (upd (J (w 7)) i x)) (w 7) p) := fun p hp q => by
  rw [va_up_ne _ _ (hM.ne (by omega) (by omega) (by omega)), va_up_self]
  simp only [upd, if_neg q]; exact h p hp
end XM
/-! numbers -/
theorem xsub {x y : Int32} (h1 : -2147483648 ≤ x.toInt - y.toInt) (h2 : x.toInt - y.toInt < 2147483648) : (x - y).toInt = x.toInt - y.toInt := by rw [Int32.toInt_sub, xb_of h1 h2]
theorem xadd {x y : Int32} (h1 : -2147483648 ≤ x.toInt + y.toInt) (h2 : x.toInt + y.toInt < 2147483648) : (x + y).toInt = x.toInt + y.toInt := by rw [Int32.toInt_add, xb_of h1 h2]
theorem xmul8 {x : Int32} (h1 : -1000 ≤ x.toInt) (h2 : x.toInt ≤ 1000) : (8 * x).toInt = 8 * x.toInt := by rw [Int32.toInt_mul, xk_8, xb_of (by omega) (by omega)]
theorem xmul4 {x : Int32} (h1 : -1000 ≤ x.toInt) (h2 : x.toInt ≤ 1000) : (4 * x).toInt = 4 * x.toInt := by rw [Int32.toInt_mul, xk_4, xb_of (by omega) (by omega)]
/-- the place of a record's field -/
theorem xix {a o f : Int32} (h1 : a.toInt ≤ o.toInt) (h2 : o.toInt < a.toInt + 80) (h3 : vp_in f 8) : vp_in (8 * (o - a) + f) 640 := by
  obtain ⟨h4, h5⟩ := vp_in_iff.mp h3
  have e1 := xsub (x := o) (y := a) (by omega) (by omega)
  have e2 := xmul8 (x := o - a) (by omega) (by omega)
  have e3 := xadd (x := 8 * (o - a)) (y := f) (by omega) (by omega)
  exact vp_in_iff.mpr (by omega)
theorem xbit (x : Int32) (h : ¬ x &&& 1 = 0) : x &&& 1 = 1 := by
  obtain ⟨j, hj, e⟩ := pk_andE x (m := 1) 1 (by decide)
  rw [e] at h ⊢
  rcases (show j = 0 ∨ j = 1 by omega) with rfl | rfl
  · exact absurd rfl h
  · rfl
theorem xsh1 (n : Int32) : ((1 <<< (n &&& 31)) >>> (n &&& 31)) &&& 1 = (1 : Int32) := by
  obtain ⟨j, hj, e⟩ := pk_andE n (m := 31) 5 (by decide)
  rw [e]
  exact (by decide +kernel : ∀ j, j < 32 → ((1 <<< nI j) >>> nI j) &&& 1 = (1 : Int32)) j hj
theorem xaddk {x y : Int32} {k : Int} (hk : y.toInt = k) (h1 : -2147483648 ≤ x.toInt + k) (h2 : x.toInt + k < 2147483648) : (x + y).toInt = x.toInt + k := by rw [xadd (by rw [hk]; exact h1) (by rw [hk]; exact h2), hk]
theorem xmin_t {x y z : Int32} (h : z = if y < x then y else x) : z.toInt = min x.toInt y.toInt := by
  rw [h]
  by_cases q : y < x
  · rw [if_pos q]; rw [xk_lt] at q; omega
  · rw [if_neg q]; rw [xk_lt] at q; omega
theorem xmax_t {x y z : Int32} (h : z = if x < y then y else x) : z.toInt = max x.toInt y.toInt := by
  rw [h]
  by_cases q : x < y
  · rw [if_pos q]; rw [xk_lt] at q; omega
  · rw [if_neg q]; rw [xk_lt] at q; omega
/-- what a log's own writers do: only its start, its end and its cells change -/
def LW (w : Nat → Nat) (I J I' J' : Nat → Nat → Int32) (j : Nat) (a b : Int) : Prop := (∀ q f, ¬ (q = w (21 + j) ∧ (f = 1 ∨ f = 2)) → I' q f = I q f) ∧ (∀ q, ¬ q = w (41 + j) → J' q = J q) ∧ (I' (w (21 + j)) 1).toInt = a ∧ (I' (w (21 + j)) 2).toInt = b
section XM
variable {w : Nat → Nat} {L : List Nat} {K N : Nat → Nat} {T : Nat → Nat → Nat} {Q : Nat → Nat → Option Nat} {I J I0 J0 I' J' : Nat → Nat → Int32} {E E' : Int} {j : Nat} {a b : Int} {ex : List Nat}
theorem RM.lw (h : RM w ex I0 J0 I J) (hM : MS w L K N T Q) (hj : j < 20) (hW : LW w I J I' J' j a b) : RM w ex I0 J0 I' J' :=
  ⟨(hW.1 _ _ (fun q => hM.ne (by omega) (by omega) (by omega) q.1)).trans h.1, fun k hk hx => (hW.2.1 _ (hM.ne (by omega) (by omega) (by omega))).trans (h.2 k hk hx)⟩
theorem MD.lw (h : MD w J) (hM : MS w L K N T Q) (hj : j < 20) (hW : LW w I J I' J' j a b) : MD w J' := fun p hp => by
  rw [hW.2.1 _ (hM.ne (by omega) (by omega) (by omega)), hW.2.1 _ (hM.ne (by omega) (by omega) (by omega))]; exact h p hp
theorem MU.lw (h : MU w I) (hM : MS w L K N T Q) (hj : j < 20) (hW : LW w I J I' J' j a b) : MU w I' := by
  obtain ⟨u, hu, e⟩ := h
  exact ⟨u, hu, (hW.1 _ _ (fun q => hM.ne (by omega) (by omega) (by omega) q.1)).trans e⟩
theorem ML.lw (h : ML w E I) (hM : MS w L K N T Q) (hj : j < 20) (hW : LW w I J I' J' j a b) (hE : E ≤ E') (hl : LI E' (I' (w (21 + j)))) : ML w E' I' := fun i hi => by
  by_cases q : i = j
  · subst q; exact hl
  · have e : I' (w (21 + i)) = I (w (21 + i)) := funext fun f => hW.1 _ _ (fun z => hM.ne (by omega) (by omega) (by omega) z.1)
    rw [e]; exact (h i hi).mono hE
theorem LW.f3 (hW : LW w I J I' J' j a b) : I' (w (21 + j)) 3 = I (w (21 + j)) 3 := hW.1 _ _ (fun q => by omega)
theorem LW.f4 (hW : LW w I J I' J' j a b) : I' (w (21 + j)) 4 = I (w (21 + j)) 4 := hW.1 _ _ (fun q => by omega)
theorem LW.other (hW : LW w I J I' J' j a b) (hM : MS w L K N T Q) {i f : Nat} (hj : j < 20) (hi : i < 20) (hij : ¬ i = j) : I' (w (21 + i)) f = I (w (21 + i)) f := hW.1 _ _ (fun z => hM.ne (by omega) (by omega) (by omega) z.1)
end XM
/-- what rise does: the high of the leader's log may grow, up to its end -/
def RZ (w : Nat → Nat) (I J I' J' : Nat → Nat → Int32) (p : Nat) : Prop := J' = J ∧ (I' = I ∨ ∃ (n : Nat) (x : Int32), n < 5 ∧ J (w 4) p = nI n ∧ x.toInt ≤ (I (w (21 + (5 * p + n))) 2).toInt ∧ I' = p2 I (w (21 + (5 * p + n))) 3 x)
section XM
variable {w : Nat → Nat} {L : List Nat} {K N : Nat → Nat} {T : Nat → Nat → Nat} {Q : Nat → Nat → Option Nat} {I J I0 J0 I' J' : Nat → Nat → Int32} {E E' : Int} {p : Nat} {ex : List Nat}
theorem RM.rz (h : RM w ex I0 J0 I J) (hM : MS w L K N T Q) (hp : p < 4) (hW : RZ w I J I' J' p) : RM w ex I0 J0 I' J' := by
  obtain ⟨rfl, rfl | ⟨n, x, hn, -, -, rfl⟩⟩ := hW
  · exact h
  · exact h.pl hM (by omega)
theorem MD.rz (h : MD w J) (hW : RZ w I J I' J' p) : MD w J' := by rw [hW.1]; exact h
theorem MU.rz (h : MU w I) (hM : MS w L K N T Q) (hp : p < 4) (hW : RZ w I J I' J' p) : MU w I' := by
  obtain ⟨rfl, rfl | ⟨n, x, hn, -, -, rfl⟩⟩ := hW
  · exact h
  · exact h.pl hM (by omega)
theorem ML.rz (h : ML w E I) (hM : MS w L K N T Q) (hp : p < 4) (hW : RZ w I J I' J' p) : ML w E I' := by
  obtain ⟨rfl, rfl | ⟨n, x, hn, -, hx, rfl⟩⟩ := hW
  · exact h
  · have hj : 5 * p + n < 20 := by omega
    refine h.put hM hj ?_
    have e : ∀ g, ¬ g = 3 → p2 I (w (21 + (5 * p + n))) 3 x (w (21 + (5 * p + n))) g = I (w (21 + (5 * p + n))) g := fun g hg => p2_ne _ _ (fun q => hg q.2)
    obtain ⟨h1, h2, h3, h4, h5, h6⟩ := h _ hj
    unfold LI
    rw [e 1 (by decide), e 2 (by decide), e 4 (by decide), p2_at]
    exact ⟨h1, h2, h3, h4, h5, hx⟩
end XM
/-! contracts over the model's pool: their start -/
abbrev mTy (cy : Nat → ClassId) : List (ClassId × FieldType) := [(cy 0, .boolean), (cy 1, .int), (cy 2, .array (.object "TallyLogsModel$Log")), (cy 3, .object "TallyLogsModel$Log")]
abbrev mB (dC : Nat → ClassId) (dI : Nat → Nat → Nat) (cy : Nat → ClassId) (L : List Nat) (F : Nat → va_E) (U : State) : Prop := va_P (dC, dI) vwCl (va_pl L F) U.heap ∧ va_K (dC, dI) vwCl (mTy cy) U
theorem mb_blind {dC : Nat → ClassId} {dI : Nat → Nat → Nat} {cy : Nat → ClassId} {L : List Nat} {F : Nat → va_E} {av : List Value} : FrameBlind (va_Pc av (mB dC dI cy L F)) := fun a U g mk q => by
  obtain ⟨q0, qP, qK⟩ := q
  exact ⟨q0, qP, va_K.moved (u := U) (U := U.calling g mk a) (Vm.Alike.refl U.vm) qK⟩
theorem mb_pre {dC : Nat → ClassId} {dI : Nat → Nat → Nat} {cy : Nat → ClassId} {L : List Nat} {F : Nat → va_E} {s U : State} {H : Heap} (hP : va_P (dC, dI) vwCl (va_pl L F) H) (hK : va_K (dC, dI) vwCl (mTy cy) s) (hU : U.heap = H) (hW : s.WarmedH U.vm) : mB dC dI cy L F U := ⟨by rw [hU]; exact hP, va_K.moved hW.alike hK⟩
abbrev mW (dC : Nat → ClassId) (dI : Nat → Nat → Nat) (cy : Nat → ClassId) (L : List Nat) (F : Nat → va_E) (sz : Nat) (U : State) : Prop := U.heap.size = sz ∧ mB dC dI cy L F U ∧ va_D (fun _ => True) (va_pl L F)
theorem mw_blind {dC : Nat → ClassId} {dI : Nat → Nat → Nat} {cy : Nat → ClassId} {L : List Nat} {F : Nat → va_E} {sz : Nat} {av : List Value} : FrameBlind (va_Pc av (mW dC dI cy L F sz)) := fun a U g mk q => by
  obtain ⟨q0, q1, ⟨qP, qK⟩, qD⟩ := q
  exact ⟨q0, q1, ⟨qP, va_K.moved (u := U) (U := U.calling g mk a) (Vm.Alike.refl U.vm) qK⟩, qD⟩
theorem mw_pre {dC : Nat → ClassId} {dI : Nat → Nat → Nat} {cy : Nat → ClassId} {L : List Nat} {F : Nat → va_E} {A : Nat → Prop} {s U : State} {H : Heap} (hP : va_P (dC, dI) vwCl (va_pl L F) H) (hK : va_K (dC, dI) vwCl (mTy cy) s) (hD : va_D A (va_pl L F)) (hU : U.heap = H) (hW : s.WarmedH U.vm) : mW dC dI cy L F H.size U := ⟨by rw [hU], mb_pre hP hK hU hW, hD.weaken (fun _ _ _ _ => trivial)⟩
theorem xin_sp {x : Int32} {b : Int64} {n : Nat} (h : ¬ sp_in x.toInt64 0 b = 0) (hb : b.toInt < n) : vp_in x n := by
  have k := (not_congr (sp_in_0 x 0 b)).mp h
  rw [xl_0] at k
  exact xin_of (by omega) (by omega)
theorem xin_s2 {x y z : Int32} (h : ¬ sp_in x.toInt64 y.toInt64 z.toInt64 = 0) : y.toInt ≤ x.toInt ∧ x.toInt ≤ z.toInt := by
  have k := (not_congr (sp_in_0 x y.toInt64 z.toInt64)).mp h
  rw [Int32.toInt_toInt64, Int32.toInt_toInt64] at k
  omega
theorem xnI {x : Int32} {n : Nat} (h : vp_in x n) (hn : n < 2 ^ 31) : x = nI x.toNatClampNeg := by
  obtain ⟨j, hj, e⟩ := vp_in_of h hn
  rw [e, nI_clamp (by omega)]
theorem xcl {x : Int32} {n : Nat} (h : vp_in x n) : (x.toNatClampNeg : Int) = x.toInt := by
  have := (vp_in_iff.mp h).1
  have e : x.toNatClampNeg = x.toInt.toNat := rfl
  omega
/-- isUp(n) -/
def sp_iu (u n : Int32) : Int32 := if 0 ≤ n.toInt ∧ n.toInt < 5 ∧ (u >>> (n &&& 31)) &&& 1 = 1 then 1 else 0
theorem sp_iu1 {u n : Int32} (h : ¬ sp_iu u n = 0) : vp_in n 5 ∧ (u >>> (n &&& 31)) &&& 1 = 1 := by
  unfold sp_iu at h
  by_cases q : 0 ≤ n.toInt ∧ n.toInt < 5 ∧ (u >>> (n &&& 31)) &&& 1 = 1
  · exact ⟨xin_of q.1 q.2.1, q.2.2⟩
  · rw [if_neg q] at h; exact absurd rfl h
/-- isThere(p) -/
def sp_it (f : Nat → Int32) (x : Int32) : Int32 := if 0 ≤ x.toInt ∧ x.toInt < 4 ∧ ¬ f x.toNatClampNeg = 0 then 1 else 0
theorem sp_it1 {f : Nat → Int32} {x : Int32} (h : ¬ sp_it f x = 0) : vp_in x 4 ∧ ¬ f x.toNatClampNeg = 0 := by
  unfold sp_it at h
  by_cases q : 0 ≤ x.toInt ∧ x.toInt < 4 ∧ ¬ f x.toNatClampNeg = 0
  · exact ⟨xin_of q.1 q.2.1, q.2.2⟩
  · rw [if_neg q] at h; exact absurd rfl h
/-- own(p): null, or the log of the leader -/
def sp_ow (w : Nat → Nat) (u x : Int32) (p : Nat) : Option Nat := if x < 0 then none else if sp_iu u x = 0 then none else some (w (21 + (5 * p + x.toNatClampNeg)))
theorem sp_ow_cs (w : Nat → Nat) (u x : Int32) (p : Nat) : sp_ow w u x p = none ∨ ∃ n, n < 5 ∧ x = nI n ∧ (u >>> (nI n &&& 31)) &&& 1 = 1 ∧ sp_ow w u x p = some (w (21 + (5 * p + n))) := by
  unfold sp_ow
  by_cases h : x < 0
  · rw [if_pos h]; exact Or.inl rfl
  · rw [if_neg h]
    by_cases q : sp_iu u x = 0
    · rw [if_pos q]; exact Or.inl rfl
    · rw [if_neg q]
      obtain ⟨h1, h2⟩ := sp_iu1 q
      have e := xnI h1 (by decide)
      exact Or.inr ⟨x.toNatClampNeg, vp_lt h1, e, by rw [← e]; exact h2, rfl⟩
