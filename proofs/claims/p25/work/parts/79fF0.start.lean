set_option maxHeartbeats 4000000 in
/-- the class as it is made -/
theorem fx_pool9 {A : Nat → Prop} {dC : Nat → ClassId} {dI : Nat → Nat → Nat} {v : Nat → Nat} {c : Nat → ClassId} {s : State} {H : Heap} (hP : va_P (dC, dI) vwCl (fxW v c) H) (hD : va_D A (fxW v c)) (hK : va_K (dC, dI) vwCl (fxT c) s) (hE : va_AO "TallyLogs$Entry" s) (hR : va_AO "TallyLogs$Replica" s) : ∃ (cy : Nat → ClassId) (L : List Nat) (K N : Nat → Nat) (T : Nat → Nat → Nat) (I : Nat → Nat → Int32) (Q : Nat → Nat → Option Nat) (J : Nat → Nat → Int32), va_P (dC, dI) vwCl (va_pl L (pF cy K N T I Q J)) H ∧ va_D A (va_pl L (pF cy K N T I Q J)) ∧ va_K (dC, dI) vwCl (pTy cy) s ∧ CT v L K N T I Q ∧ ((I (v 0) 3 = 31 ∧ I (v 0) 4 = 0) ∧ (∀ k, k < 6 → I (v (4 + k)) 0 = nI k ∧ I (v (4 + k)) 1 = (-1) ∧ I (v (4 + k)) 2 = 0 ∧ I (v (4 + k)) 5 = 0) ∧ (∀ g, g < 4 → I (v (10 + g)) 0 = 0 ∧ I (v (10 + g)) 1 = 0) ∧ (∀ a p, J a p = 0) ∧ (∀ p, Q (v 1) p = none) ∧ Q (v 0) 5 = none) := by
  obtain ⟨cE, hE1, hE2⟩ := ao_K hE
  obtain ⟨cR, hR1, hR2⟩ := ao_K hR
  have inj := fx_inj hD
  have hv := vix_at 18 inj
  have ee := fx_eq (c := c) (cE := cE) (cR := cR) hv
  refine ⟨xC0 c cE cR, [v 0, v 1, v 2, v 3, v 4, v 5, v 6, v 7, v 8, v 9, v 10, v 11, v 12, v 13, v 14, v 15, v 16, v 17], (fun a => xK (vix v 18 a)), (fun _ => 4), (fun a f => xT0 v (vix v 18 a) f), (fun a f => xI0 (vix v 18 a) f), (fun a => xQ0 v (vix v 18 a)), (fun _ _ => 0), ?_, ?_, ?_, ?_, ?_⟩
  · rw [ee]; exact hP
  · rw [ee]; exact hD
  · refine ⟨hK.1, fun k q hk => ?_⟩
    match k, hk with
    | 0, hk => cases hk; exact hK.2 3 _ rfl
    | 1, hk => cases hk; exact ⟨hE1, hE2⟩
    | 2, hk => cases hk; exact hK.2 2 _ rfl
    | 3, hk => cases hk; exact hK.2 0 _ rfl
    | 4, hk => cases hk; exact hK.2 1 _ rfl
    | 5, hk => cases hk; exact ⟨hR1, hR2⟩
    | k + 6, hk => simp at hk
  · refine ⟨⟨fun k hk => ⟨?_, ?_⟩, inj, ⟨?_, ?_, ?_⟩, fun j hj => ⟨?_, rfl⟩⟩, ⟨fun j hj => ?_, fun j hj => ?_⟩, fun b hb => ?_, fun j b hj hb => ?_, fun a _ hk => absurd hk (xK_no _).2.1, fun a _ hk => absurd hk (xK_no _).2.2.2.2, fun a _ hk => absurd hk (xK_no _).2.2.1, fun a _ hk => absurd hk (xK_no _).2.2.1, fun a _ hk => absurd hk (xK_no _).2.2.2.1⟩
    · rcases (show k = 0 ∨ k = 1 ∨ k = 2 ∨ k = 3 ∨ k = 4 ∨ k = 5 ∨ k = 6 ∨ k = 7 ∨ k = 8 ∨ k = 9 ∨ k = 10 ∨ k = 11 ∨ k = 12 ∨ k = 13 ∨ k = 14 ∨ k = 15 ∨ k = 16 ∨ k = 17 by omega) with rfl | rfl | rfl | rfl | rfl | rfl | rfl | rfl | rfl | rfl | rfl | rfl | rfl | rfl | rfl | rfl | rfl | rfl <;> simp
    · show xK (vix v 18 (v k)) = xK k; rw [hv k hk]
    · show xT0 v (vix v 18 (v 0)) 0 = v 1; rw [hv 0 (by decide)]; rfl
    · show xT0 v (vix v 18 (v 0)) 1 = v 2; rw [hv 0 (by decide)]; rfl
    · show xT0 v (vix v 18 (v 0)) 2 = v 3; rw [hv 0 (by decide)]; rfl
    · show xT0 v (vix v 18 (v (10 + j))) 2 = v (14 + j); rw [hv (10 + j) (by omega)]; unfold xT0; rw [if_neg (by omega)]; congr 1; omega
    · show xQ0 v (vix v 18 (v 2)) j = _; rw [hv 2 (by decide)]; exact fR_at v j hj
    · show xQ0 v (vix v 18 (v 3)) j = _; rw [hv 3 (by decide)]; exact fG_at v j hj
    · have e : xQ0 v (vix v 18 (v 0)) 5 = none := by rw [hv 0 (by decide)]; rfl
      exact absurd (e.symm.trans hb) (by simp)
    · have e : xQ0 v (vix v 18 (v 1)) j = none := by rw [hv 1 (by decide)]; rfl
      exact absurd (e.symm.trans hb) (by simp)
  · refine ⟨⟨?_, ?_⟩, fun k hk => ?_, fun g hg => ⟨?_, ?_⟩, fun _ _ => rfl, fun p => ?_, ?_⟩
    · show xI0 (vix v 18 (v 0)) 3 = 31; rw [hv 0 (by decide)]; rfl
    · show xI0 (vix v 18 (v 0)) 4 = 0; rw [hv 0 (by decide)]; rfl
    · show xI0 (vix v 18 (v (4 + k))) 0 = _ ∧ xI0 (vix v 18 (v (4 + k))) 1 = _ ∧ xI0 (vix v 18 (v (4 + k))) 2 = _ ∧ xI0 (vix v 18 (v (4 + k))) 5 = _
      rw [hv (4 + k) (by omega)]
      have e : ∀ f, xI0 (4 + k) f = if f = 0 then nI k else if f = 1 then (-1) else if f = 4 then (-1) else 0 := fun f => by
        unfold xI0; rw [if_neg (by omega), if_pos (by omega), show 4 + k - 4 = k by omega]
      rw [e, e, e, e]
      exact ⟨rfl, rfl, rfl, rfl⟩
    · show xI0 (vix v 18 (v (10 + g))) 0 = _; rw [hv (10 + g) (by omega)]; unfold xI0; rw [if_neg (by omega), if_neg (by omega)]
    · show xI0 (vix v 18 (v (10 + g))) 1 = _; rw [hv (10 + g) (by omega)]; unfold xI0; rw [if_neg (by omega), if_neg (by omega)]
    · show xQ0 v (vix v 18 (v 1)) p = none; rw [hv 1 (by decide)]; rfl
    · show xQ0 v (vix v 18 (v 0)) 5 = none; rw [hv 0 (by decide)]; rfl
set_option maxHeartbeats 4000000 in
/-- the model as it is made -/
theorem my_pool9 {A : Nat → Prop} {dC : Nat → ClassId} {dI : Nat → Nat → Nat} {w : Nat → Nat} {cz ci cO cW : ClassId} {s : State} {H : Heap} (hP : va_P (dC, dI) vwCl (myW w cz ci cO cW) H) (hD : va_D A (myW w cz ci cO cW)) (hK : va_K (dC, dI) vwCl (mxT2 cz ci cO cW) s) : ∃ (cy : Nat → ClassId) (L : List Nat) (K N : Nat → Nat) (T : Nat → Nat → Nat) (Q : Nat → Nat → Option Nat) (I J : Nat → Nat → Int32), va_P (dC, dI) vwCl (va_pl L (wF cy K N T I Q J)) H ∧ va_D A (va_pl L (wF cy K N T I Q J)) ∧ va_K (dC, dI) vwCl (mTy cy) s ∧ MS w L K N T Q ∧ MI w 0 I J ∧ ((I (w 0) 16 = 31 ∧ I (w 0) 17 = 0) ∧ ((∀ k, k < 6 → J (w 8) k = (-1)) ∧ ∀ p, p < 4 → J (w 4) p = (-1)) ∧ (∀ k p, k < 61 → ¬ k = 4 → ¬ k = 8 → J (w k) p = 0) ∧ ∀ j f, j < 20 → I (w (21 + j)) f = 0) := by
  have inj := my_inj hD
  have hv := vix_at 61 inj
  have ee := my_eq (cz := cz) (ci := ci) (cO := cO) (cW := cW) hv
  refine ⟨yC0 cz ci cO cW, [w 0, w 1, w 2, w 3, w 4, w 5, w 6, w 7, w 8, w 9, w 10, w 11, w 12, w 13, w 14, w 15, w 16, w 17, w 18, w 19, w 20, w 21, w 22, w 23, w 24, w 25, w 26, w 27, w 28, w 29, w 30, w 31, w 32, w 33, w 34, w 35, w 36, w 37, w 38, w 39, w 40, w 41, w 42, w 43, w 44, w 45, w 46, w 47, w 48, w 49, w 50, w 51, w 52, w 53, w 54, w 55, w 56, w 57, w 58, w 59, w 60], (fun a => wK (vix w 61 a)), (fun a => wN (vix w 61 a)), (fun a f => yT0 w (vix w 61 a) f), (fun a => yQ0 w (vix w 61 a)), (fun a f => yI0 (vix w 61 a) f), (fun a => yJ0 (vix w 61 a)), ?_, ?_, hK, ?_, ⟨?_, ?_, ?_⟩, ?_⟩
  · rw [ee]; exact hP
  · rw [ee]; exact hD
  · refine ⟨fun k hk => ⟨?_, ?_⟩, inj, fun k hk => ?_, fun p hp => ?_, fun p n hp hn => ?_, fun j hj => ?_, fun k hk _ => ?_⟩
    · rcases (show k = 0 ∨ k = 1 ∨ k = 2 ∨ k = 3 ∨ k = 4 ∨ k = 5 ∨ k = 6 ∨ k = 7 ∨ k = 8 ∨ k = 9 ∨ k = 10 ∨ k = 11 ∨ k = 12 ∨ k = 13 ∨ k = 14 ∨ k = 15 ∨ k = 16 ∨ k = 17 ∨ k = 18 ∨ k = 19 ∨ k = 20 ∨ k = 21 ∨ k = 22 ∨ k = 23 ∨ k = 24 ∨ k = 25 ∨ k = 26 ∨ k = 27 ∨ k = 28 ∨ k = 29 ∨ k = 30 ∨ k = 31 ∨ k = 32 ∨ k = 33 ∨ k = 34 ∨ k = 35 ∨ k = 36 ∨ k = 37 ∨ k = 38 ∨ k = 39 ∨ k = 40 ∨ k = 41 ∨ k = 42 ∨ k = 43 ∨ k = 44 ∨ k = 45 ∨ k = 46 ∨ k = 47 ∨ k = 48 ∨ k = 49 ∨ k = 50 ∨ k = 51 ∨ k = 52 ∨ k = 53 ∨ k = 54 ∨ k = 55 ∨ k = 56 ∨ k = 57 ∨ k = 58 ∨ k = 59 ∨ k = 60 by omega) with rfl | rfl | rfl | rfl | rfl | rfl | rfl | rfl | rfl | rfl | rfl | rfl | rfl | rfl | rfl | rfl | rfl | rfl | rfl | rfl | rfl | rfl | rfl | rfl | rfl | rfl | rfl | rfl | rfl | rfl | rfl | rfl | rfl | rfl | rfl | rfl | rfl | rfl | rfl | rfl | rfl | rfl | rfl | rfl | rfl | rfl | rfl | rfl | rfl | rfl | rfl | rfl | rfl | rfl | rfl | rfl | rfl | rfl | rfl | rfl | rfl <;> simp
    · show wK (vix w 61 (w k)) = wK k; rw [hv k hk]
    · show yT0 w (vix w 61 (w 0)) k = w (k + 1); rw [hv 0 (by decide)]; rfl
    · show yQ0 w (vix w 61 (w 1)) p = _; rw [hv 1 (by decide)]; exact mO_at w p hp
    · show yQ0 w (vix w 61 (w (17 + p))) n = _
      rw [hv (17 + p) (by omega)]
      rcases (show p = 0 ∨ p = 1 ∨ p = 2 ∨ p = 3 by omega) with rfl | rfl | rfl | rfl
      · exact (mR0_at w n hn).trans (by congr 2; omega)
      · exact (mR1_at w n hn).trans (by congr 2; omega)
      · exact (mR2_at w n hn).trans (by congr 2; omega)
      · exact (mR3_at w n hn).trans (by congr 2; omega)
    · show yT0 w (vix w 61 (w (21 + j))) 0 = _; rw [hv (21 + j) (by omega)]; unfold yT0; rw [if_neg (by omega)]; congr 1; omega
    · show wN (vix w 61 (w k)) = wN k; rw [hv k hk]
  · intro j hj
    have e : ∀ f, yI0 (vix w 61 (w (21 + j))) f = 0 := fun f => by rw [hv (21 + j) (by omega)]; unfold yI0; rw [if_neg (by omega)]
    unfold LI
    simp only [e]
    decide
  · intro p hp
    refine Or.inl ?_
    show (yJ0 (vix w 61 (w 4)) p).toInt < 0
    rw [hv 4 (by decide)]
    show (spF (fun _ => 0) 4 (-1) p).toInt < 0
    rw [spF_lt hp]
    decide
  · refine ⟨31, by decide, ?_⟩
    show yI0 (vix w 61 (w 0)) 16 = nI 31
    rw [hv 0 (by decide)]
    rfl
  · refine ⟨⟨?_, ?_⟩, ⟨fun k hk => ?_, fun p hp => ?_⟩, fun k p hk h4 h8 => ?_, fun j f hj => ?_⟩
    · show yI0 (vix w 61 (w 0)) 16 = 31; rw [hv 0 (by decide)]; rfl
    · show yI0 (vix w 61 (w 0)) 17 = 0; rw [hv 0 (by decide)]; rfl
    · show yJ0 (vix w 61 (w 8)) k = _; rw [hv 8 (by decide)]; show spF (fun _ => 0) 6 (-1) k = _; exact spF_lt hk
    · show yJ0 (vix w 61 (w 4)) p = _; rw [hv 4 (by decide)]; show spF (fun _ => 0) 4 (-1) p = _; exact spF_lt hp
    · show yJ0 (vix w 61 (w k)) p = 0; rw [hv k hk]; unfold yJ0; rw [if_neg h4, if_neg h8]
    · show yI0 (vix w 61 (w (21 + j))) f = 0; rw [hv (21 + j) (by omega)]; unfold yI0; rw [if_neg (by omega)]
/-- the cluster as it is made -/
def s0 : SG := (fun k p => if k = 0 then (if p = 0 then 31 else 0) else if k = 4 then (-1) else if k = 8 then (-1) else 0, fun _ _ => 0, fun _ _ _ => 0)
/-- both sides hold one value -/
def xFR (v N w : Nat → Nat) (L : List Nat) (K : Nat → Nat) (T : Nat → Nat → Nat) (I : Nat → Nat → Int32) (Q : Nat → Nat → Option Nat) (J Im Jm : Nat → Nat → Int32) : Prop := ∃ (pa ra : Nat → Nat) (σ : SG), REP v pa ra L K N T I Q J (kxo σ) σ ∧ MR w Im Jm σ ∧ SK σ
theorem s0_there (p : Nat) : s0.1 2 p = 0 := rfl
theorem SK0 : SK s0 := by
  refine ⟨fun p hp => ⟨fun _ => ⟨(show (-1 : Int32) < 0 by decide), fun n hn f _ _ => rfl⟩, fun h => absurd rfl h⟩, fun j hj => ⟨fun o h1 h2 => ?_, Int.le_refl _⟩, fun k hk h => ?_⟩
  · have z : ze s0 j = 0 := rfl
    omega
  · exact absurd (show (0 : Int32) = 2 from h) (by decide)
theorem REP0 {v : Nat → Nat} {L : List Nat} {K N : Nat → Nat} {T : Nat → Nat → Nat} {I : Nat → Nat → Int32} {Q : Nat → Nat → Option Nat} {J : Nat → Nat → Int32} (hC : CT v L K N T I Q) (h : (I (v 0) 3 = 31 ∧ I (v 0) 4 = 0) ∧ (∀ k, k < 6 → I (v (4 + k)) 0 = nI k ∧ I (v (4 + k)) 1 = (-1) ∧ I (v (4 + k)) 2 = 0 ∧ I (v (4 + k)) 5 = 0) ∧ (∀ g, g < 4 → I (v (10 + g)) 0 = 0 ∧ I (v (10 + g)) 1 = 0) ∧ (∀ a p, J a p = 0) ∧ (∀ p, Q (v 1) p = none) ∧ Q (v 0) 5 = none) : REP v (fun _ => 0) (fun _ => 0) L K N T I Q J (kxo s0) s0 := by
  obtain ⟨h1, h2, h3, h4, h5, h6⟩ := h
  refine ⟨hC, h1.1, h1.2, h3, fun g p _ _ => h4 _ _, fun k hk => ?_, fun p hp => ⟨fun _ => h5 p, fun z => absurd rfl z⟩, fun p n _ _ z => absurd rfl z.1, ?_, fun p q _ _ z => absurd rfl z, fun p n q m _ _ _ _ z => absurd rfl z.1⟩
  · obtain ⟨a, b, c, d⟩ := h2 k hk
    exact ⟨a, b, c, d, fun z => absurd (show (0 : Int32) = 1 from z) (by decide), fun z => absurd (show (0 : Int32) = 2 from z) (by decide)⟩
  · rw [h6]; exact fun i _ => rfl
theorem MR0 {w : Nat → Nat} {I J : Nat → Nat → Int32} (h : (I (w 0) 16 = 31 ∧ I (w 0) 17 = 0) ∧ ((∀ k, k < 6 → J (w 8) k = (-1)) ∧ ∀ p, p < 4 → J (w 4) p = (-1)) ∧ (∀ k p, k < 61 → ¬ k = 4 → ¬ k = 8 → J (w k) p = 0) ∧ ∀ j f, j < 20 → I (w (21 + j)) f = 0) : MR w I J s0 := by
  obtain ⟨h1, h2, h3, h4⟩ := h
  refine ⟨h1, fun k k1 k2 p hp => ?_, fun j hj f _ _ => h4 j f hj, fun j hj o f o1 o2 _ => ?_⟩
  · by_cases e4 : k = 4
    · subst e4; exact h2.2 p hp
    · by_cases e8 : k = 8
      · subst e8; exact h2.1 p hp
      · rw [h3 k p (by omega) e4 e8]
        show (0 : Int32) = if k = 0 then _ else if k = 4 then _ else if k = 8 then _ else 0
        rw [if_neg (by omega), if_neg e4, if_neg e8]
  · have z : ze s0 j = 0 := rfl
    omega
