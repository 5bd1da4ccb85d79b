/-- what both sides share: up, generations, members, rounds, positions, what is there -/
def xSR (v : Nat → Nat) (I : Nat → Nat → Int32) (Q : Nat → Nat → Option Nat) (J : Nat → Nat → Int32) (w : Nat → Nat) (Im Jm : Nat → Nat → Int32) : Prop := I (v 0) 3 = Im (w 0) 16 ∧ (∀ k, k < 6 → I (v (4 + k)) 1 = Jm (w 8) k) ∧ (∀ g, g < 4 → I (v (10 + g)) 0 = Jm (w 13) g ∧ I (v (10 + g)) 1 = Jm (w 14) g) ∧ (∀ g p, g < 4 → p < 4 → J (v (14 + g)) p = Jm (w 15) (4 * g + p)) ∧ (∀ p, p < 4 → oN (Q (v 1) p) = zN (Jm (w 2) p))
section XR
variable {v w : Nat → Nat} {L : List Nat} {K N : Nat → Nat} {T : Nat → Nat → Nat} {I I' : Nat → Nat → Int32} {Q Q' : Nat → Nat → Option Nat} {J J' Im Jm Im' Jm' : Nat → Nat → Int32} {Lm : List Nat} {Km Nm : Nat → Nat} {Tm : Nat → Nat → Nat} {Qm : Nat → Nat → Option Nat}
theorem xSR.keep (h : xSR v I Q J w Im Jm) (hR : RS v I Q J I' Q' J') : xSR v I' Q' J' w Im Jm :=
  ⟨hR.1.trans h.1, fun k hk => (hR.2.1 k hk).trans (h.2.1 k hk), fun g hg => ⟨(hR.2.2.1 g hg).1.trans (h.2.2.1 g hg).1, (hR.2.2.1 g hg).2.trans (h.2.2.1 g hg).2⟩, fun g p hg hp => (hR.2.2.2.1 g p hg hp).trans (h.2.2.2.1 g p hg hp), fun p hp => by rw [hR.2.2.2.2 p hp]; exact h.2.2.2.2 p hp⟩
theorem xSR.keepM (h : xSR v I Q J w Im Jm) (hR : RM w [] Im Jm Im' Jm') : xSR v I Q J w Im' Jm' := by
  have e : ∀ k, (k = 2 ∨ k = 8 ∨ k = 13 ∨ k = 14 ∨ k = 15) → Jm' (w k) = Jm (w k) := fun k hk => hR.2 k hk (by simp)
  refine ⟨h.1.trans hR.1.symm, ?_, ?_, ?_, ?_⟩
  · rw [e 8 (by decide)]; exact h.2.1
  · rw [e 13 (by decide), e 14 (by decide)]; exact h.2.2.1
  · rw [e 15 (by decide)]; exact h.2.2.2.1
  · rw [e 2 (by decide)]; exact h.2.2.2.2
theorem CT.nv (h : CT v L K N T I Q) {i j : Nat} (hi : i < 18) (hj : j < 18) (hij : ¬ i = j) : ¬ v i = v j := fun q => hij (h.1.2.1 i j hi hj q)
theorem cl6 {k : Int32} (h : 0 ≤ k.toInt ∧ k.toInt < 6) : k.toNatClampNeg < 6 := vp_lt (xin_of h.1 h.2)
theorem cl4 {k : Int32} (h : 0 ≤ k.toInt ∧ k.toInt < 4) : k.toNatClampNeg < 4 := vp_lt (xin_of h.1 h.2)
theorem upd_same {f : Nat → Int32} {i : Nat} {x : Int32} : upd f i x i = x := pk_us
theorem upd_other {f : Nat → Int32} {i j : Nat} {x : Int32} (h : ¬ j = i) : upd f i x j = f j := if_neg h
theorem xSR.rg (h : xSR v I Q J w Im Jm) (hC : CT v L K N T I Q) (hM : MS w Lm Km Nm Tm Qm) (k : Int32) : xSR v (sp_rgI v I k) Q J w Im (sp_rgJ w Jm k) := by
  unfold sp_rgI sp_rgJ
  by_cases hk : 0 ≤ k.toInt ∧ k.toInt < 6
  · rw [if_pos hk, if_pos hk]
    have hj := cl6 hk
    generalize k.toNatClampNeg = j at hj ⊢
    obtain ⟨h1, h2, h3, h4, h5⟩ := h
    refine ⟨?_, fun i hi => ?_, fun g hg => ⟨?_, ?_⟩, fun g p hg hp => ?_, fun p hp => ?_⟩
    · rw [p2_na _ _ (hC.nv (by omega) (by omega) (by omega))]; exact h1
    · rw [va_up_self]
      by_cases e : i = j
      · subst e; rw [p2_at, upd_same, h2 i hi]
      · rw [p2_na _ _ (hC.nv (by omega) (by omega) (by omega)), upd_other e]; exact h2 i hi
    · rw [p2_na _ _ (hC.nv (by omega) (by omega) (by omega)), va_up_ne _ _ (hM.ne (by decide) (by decide) (by decide))]; exact (h3 g hg).1
    · rw [p2_na _ _ (hC.nv (by omega) (by omega) (by omega)), va_up_ne _ _ (hM.ne (by decide) (by decide) (by decide))]; exact (h3 g hg).2
    · rw [va_up_ne _ _ (hM.ne (by decide) (by decide) (by decide))]; exact h4 g p hg hp
    · rw [va_up_ne _ _ (hM.ne (by decide) (by decide) (by decide))]; exact h5 p hp
  · rw [if_neg hk, if_neg hk]; exact h
theorem xSR.mb (h : xSR v I Q J w Im Jm) (hC : CT v L K N T I Q) (hM : MS w Lm Km Nm Tm Qm) (g m : Int32) : xSR v (sp_mbI v I g m) Q J w Im (sp_mbJ w Jm g m) := by
  unfold sp_mbI sp_mbJ
  by_cases hk : (0 ≤ g.toInt ∧ g.toInt < 4) ∧ 0 ≤ m.toInt ∧ m.toInt < 8
  · rw [if_pos hk, if_pos hk]
    have hj := cl4 hk.1
    generalize g.toNatClampNeg = j at hj ⊢
    obtain ⟨h1, h2, h3, h4, h5⟩ := h
    refine ⟨?_, fun i hi => ?_, fun g hg => ⟨?_, ?_⟩, fun g p hg hp => ?_, fun p hp => ?_⟩
    · rw [p2_na _ _ (hC.nv (by omega) (by omega) (by omega)), p2_na _ _ (hC.nv (by omega) (by omega) (by omega))]; exact h1
    · rw [p2_na _ _ (hC.nv (by omega) (by omega) (by omega)), p2_na _ _ (hC.nv (by omega) (by omega) (by omega)), va_up_ne _ _ (hM.ne (by decide) (by decide) (by decide)), va_up_ne _ _ (hM.ne (by decide) (by decide) (by decide))]; exact h2 i hi
    · rw [va_up_ne _ _ (hM.ne (by decide) (by decide) (by decide)), va_up_self]
      by_cases e : g = j
      · subst e; rw [p2_ne _ _ (fun z => absurd z.2 (by decide)), p2_at, upd_same, (h3 g hg).1]
      · rw [p2_na _ _ (hC.nv (by omega) (by omega) (by omega)), p2_na _ _ (hC.nv (by omega) (by omega) (by omega)), upd_other e]; exact (h3 g hg).1
    · rw [va_up_self]
      by_cases e : g = j
      · subst e; rw [p2_at, upd_same, (h3 g hg).2]
      · rw [p2_na _ _ (hC.nv (by omega) (by omega) (by omega)), p2_na _ _ (hC.nv (by omega) (by omega) (by omega)), upd_other e]; exact (h3 g hg).2
    · rw [va_up_ne _ _ (hM.ne (by decide) (by decide) (by decide)), va_up_ne _ _ (hM.ne (by decide) (by decide) (by decide))]; exact h4 g p hg hp
    · rw [va_up_ne _ _ (hM.ne (by decide) (by decide) (by decide)), va_up_ne _ _ (hM.ne (by decide) (by decide) (by decide))]; exact h5 p hp
  · rw [if_neg hk, if_neg hk]; exact h
theorem xSR.mv (h : xSR v I Q J w Im Jm) (hC : CT v L K N T I Q) (hM : MS w Lm Km Nm Tm Qm) {g p o r : Int32} (hg : r = 0 → (0 ≤ g.toInt ∧ g.toInt < 4) ∧ 0 ≤ p.toInt ∧ p.toInt < 4) : xSR v I Q (sp_mvJ v J g p o r) w Im (sp_mvM w Jm g p o r) := by
  unfold sp_mvJ sp_mvM
  by_cases hr : r = 0
  · rw [if_pos hr, if_pos hr]
    obtain ⟨hg1, hp1⟩ := hg hr
    have hi := cl4 hg1
    have hj := cl4 hp1
    generalize g.toNatClampNeg = i at hi ⊢
    generalize p.toNatClampNeg = j at hj ⊢
    obtain ⟨h1, h2, h3, h4, h5⟩ := h
    refine ⟨h1, fun k hk => ?_, fun g hg => ⟨?_, ?_⟩, fun g p hg hp => ?_, fun p hp => ?_⟩
    · rw [va_up_ne _ _ (hM.ne (by decide) (by decide) (by decide))]; exact h2 k hk
    · rw [va_up_ne _ _ (hM.ne (by decide) (by decide) (by decide))]; exact (h3 g hg).1
    · rw [va_up_ne _ _ (hM.ne (by decide) (by decide) (by decide))]; exact (h3 g hg).2
    · rw [va_up_self]
      by_cases e : g = i
      · subst e
        rw [va_up_self]
        by_cases e2 : p = j
        · subst e2; rw [upd_same, upd_same]
        · rw [upd_other e2, upd_other (by omega)]; exact h4 g p hg hp
      · rw [va_up_ne _ _ (hC.nv (by omega) (by omega) (by omega)), upd_other (by omega)]; exact h4 g p hg hp
    · rw [va_up_ne _ _ (hM.ne (by decide) (by decide) (by decide))]; exact h5 p hp
  · rw [if_neg hr, if_neg hr]; exact h
theorem xSR.ce (h : xSR v I Q J w Im Jm) (hM : MS w Lm Km Nm Tm Qm) {p r l : Int32} {y : Nat} : xSR v I (if sp_ck (I (v 0) 3) (oN (Q (v 1) p.toNatClampNeg)) p r l then p2 Q (v 1) p.toNatClampNeg (some y) else Q) J w Im (if sp_ck (Im (w 0) 16) (zN (Jm (w 2) p.toNatClampNeg)) p r l then va_up Jm (w 2) (upd (Jm (w 2)) p.toNatClampNeg 1) else Jm) := by
  by_cases hp : 0 ≤ p.toInt ∧ p.toInt < 4
  · have hj := cl4 hp
    have e1 := h.1
    have e2 := h.2.2.2.2 _ hj
    rw [e1, e2]
    by_cases hk : sp_ck (Im (w 0) 16) (zN (Jm (w 2) p.toNatClampNeg)) p r l
    · rw [if_pos hk, if_pos hk]
      generalize p.toNatClampNeg = j at hj ⊢
      obtain ⟨h1, h2, h3, h4, h5⟩ := h
      refine ⟨h1, fun k hk => ?_, fun g hg => ⟨?_, ?_⟩, fun g p hg hp => ?_, fun p hp => ?_⟩
      · rw [va_up_ne _ _ (hM.ne (by decide) (by decide) (by decide))]; exact h2 k hk
      · rw [va_up_ne _ _ (hM.ne (by decide) (by decide) (by decide))]; exact (h3 g hg).1
      · rw [va_up_ne _ _ (hM.ne (by decide) (by decide) (by decide))]; exact (h3 g hg).2
      · rw [va_up_ne _ _ (hM.ne (by decide) (by decide) (by decide))]; exact h4 g p hg hp
      · rw [va_up_self]
        by_cases e : p = j
        · subst e; rw [p2_at, upd_same]; rfl
        · rw [p2_ne _ _ (fun z => e z.2), upd_other e]; exact h5 p hp
    · rw [if_neg hk, if_neg hk]; exact h
  · rw [if_neg (fun q => hp q.1), if_neg (fun q => hp q.1)]; exact h
theorem xSR.up (h : xSR v I Q J w Im Jm) (hC : CT v L K N T I Q) {u : Int32} (hR : RS v (p2 I (v 0) 3 u) Q J I' Q' J') (hJ : ∀ k, (k = 2 ∨ k = 8 ∨ k = 13 ∨ k = 14 ∨ k = 15) → Jm' (w k) = Jm (w k)) (hu : Im' (w 0) 16 = u) : xSR v I' Q' J' w Im' Jm' := by
  obtain ⟨h1, h2, h3, h4, h5⟩ := h
  refine ⟨?_, fun k hk => ?_, fun g hg => ⟨?_, ?_⟩, fun g p hg hp => ?_, fun p hp => ?_⟩
  · rw [hR.1, p2_at]; exact hu.symm
  · rw [hR.2.1 k hk, p2_na _ _ (hC.nv (by omega) (by omega) (by omega)), hJ 8 (by decide)]; exact h2 k hk
  · rw [(hR.2.2.1 g hg).1, p2_na _ _ (hC.nv (by omega) (by omega) (by omega)), hJ 13 (by decide)]; exact (h3 g hg).1
  · rw [(hR.2.2.1 g hg).2, p2_na _ _ (hC.nv (by omega) (by omega) (by omega)), hJ 14 (by decide)]; exact (h3 g hg).2
  · rw [hR.2.2.2.1 g p hg hp, hJ 15 (by decide)]; exact h4 g p hg hp
  · rw [hR.2.2.2.2 p hp, hJ 2 (by decide)]; exact h5 p hp
theorem sp_cnt_eq {t t2 : Nat → Int32} : ∀ n : Nat, (∀ q, q < n → t q = t2 q) → sp_cnt t n = sp_cnt t2 n := by
  intro n
  induction n with
  | zero => intro _; rfl
  | succ n ih =>
    intro h
    show sp_cnt t n + t n = sp_cnt t2 n + t2 n
    rw [ih (fun q hq => h q (by omega)), h n (by omega)]
theorem xSR.a_rg (h : xSR v I Q J w Im Jm) (k : Int32) : sp_rgr (I (v (4 + k.toNatClampNeg)) 1) k = sp_rgr (Jm (w 8) k.toNatClampNeg) k := by
  unfold sp_rgr
  by_cases hk : 0 ≤ k.toInt ∧ k.toInt < 6
  · rw [if_pos hk, if_pos hk, h.2.1 _ (cl6 hk)]
  · rw [if_neg hk, if_neg hk]
theorem xSR.a_mb (h : xSR v I Q J w Im Jm) (g m : Int32) : sp_mbr (I (v (10 + g.toNatClampNeg)) 1) g m = sp_mbr (Jm (w 14) g.toNatClampNeg) g m := by
  unfold sp_mbr
  by_cases hk : (0 ≤ g.toInt ∧ g.toInt < 4) ∧ 0 ≤ m.toInt ∧ m.toInt < 8
  · rw [if_pos hk, if_pos hk, (h.2.2.1 _ (cl4 hk.1)).2]
  · rw [if_neg hk, if_neg hk]
theorem xSR.a_ow (h : xSR v I Q J w Im Jm) (g p : Int32) : sp_own (I (v (10 + g.toNatClampNeg)) 0) (fun q => oN (Q (v 1) q)) g p = sp_own (Jm (w 13) g.toNatClampNeg) (fun q => zN (Jm (w 2) q)) g p := by
  unfold sp_own
  by_cases hg : 0 ≤ g.toInt ∧ g.toInt < 4
  · rw [if_pos hg, if_pos hg]
    by_cases hp : 0 ≤ p.toInt ∧ p.toInt < 4
    · rw [if_pos hp, if_pos hp, (h.2.2.1 _ (cl4 hg)).1]
      have hj := cl4 hp
      rw [show (fun q => oN (Q (v 1) q)) p.toNatClampNeg = (fun q => zN (Jm (w 2) q)) p.toNatClampNeg from h.2.2.2.2 _ hj, sp_cnt_eq (t2 := fun q => zN (Jm (w 2) q)) p.toNatClampNeg (fun q hq => h.2.2.2.2 q (by omega))]
    · rw [if_neg hp, if_neg hp]
  · rw [if_neg hg, if_neg hg]
theorem xSR.a_po (h : xSR v I Q J w Im Jm) (g p : Int32) : sp_pos (J (v (14 + g.toNatClampNeg)) p.toNatClampNeg) (fun q => oN (Q (v 1) q)) g p = sp_pos (Jm (w 15) (4 * g.toNatClampNeg + p.toNatClampNeg)) (fun q => zN (Jm (w 2) q)) g p := by
  unfold sp_pos
  by_cases hg : 0 ≤ g.toInt ∧ g.toInt < 4
  · rw [if_pos hg, if_pos hg]
    by_cases hp : 0 ≤ p.toInt ∧ p.toInt < 4
    · rw [if_pos hp, if_pos hp, h.2.2.2.1 _ _ (cl4 hg) (cl4 hp)]
      rw [show (fun q => oN (Q (v 1) q)) p.toNatClampNeg = (fun q => zN (Jm (w 2) q)) p.toNatClampNeg from h.2.2.2.2 _ (cl4 hp)]
    · rw [if_neg hp, if_neg hp]
  · rw [if_neg hg, if_neg hg]
theorem xSR.a_mv (h : xSR v I Q J w Im Jm) (g m r p o : Int32) : sp_mvr (I (v (10 + g.toNatClampNeg)) 0) (I (v (10 + g.toNatClampNeg)) 1) (fun q => oN (Q (v 1) q)) g m r p o = sp_mvr (Jm (w 13) g.toNatClampNeg) (Jm (w 14) g.toNatClampNeg) (fun q => zN (Jm (w 2) q)) g m r p o := by
  unfold sp_mvr
  by_cases hg : 0 ≤ g.toInt ∧ g.toInt < 4
  · rw [if_pos hg, if_pos hg]
    by_cases hp : 0 ≤ p.toInt ∧ p.toInt < 4
    · rw [if_pos hp, if_pos hp, (h.2.2.1 _ (cl4 hg)).1, (h.2.2.1 _ (cl4 hg)).2]
      have hj := cl4 hp
      rw [show (fun q => oN (Q (v 1) q)) p.toNatClampNeg = (fun q => zN (Jm (w 2) q)) p.toNatClampNeg from h.2.2.2.2 _ hj, sp_cnt_eq (t2 := fun q => zN (Jm (w 2) q)) p.toNatClampNeg (fun q hq => h.2.2.2.2 q (by omega))]
    · rw [if_neg hp, if_neg hp]
  · rw [if_neg hg, if_neg hg]
theorem sp_mvr_in {mb rd : Int32} {t : Nat → Int32} {g m r p o : Int32} (h : sp_mvr mb rd t g m r p o = 0) : (0 ≤ g.toInt ∧ g.toInt < 4) ∧ 0 ≤ p.toInt ∧ p.toInt < 4 := by
  unfold sp_mvr at h
  by_cases hg : 0 ≤ g.toInt ∧ g.toInt < 4
  · rw [if_pos hg] at h
    by_cases hp : 0 ≤ p.toInt ∧ p.toInt < 4
    · exact ⟨hg, hp⟩
    · rw [if_neg hp] at h; exact absurd h (by decide)
  · rw [if_neg hg] at h; exact absurd h (by decide)
theorem xSR0 (h : I (v 0) 3 = 31 ∧ (∀ k, k < 6 → I (v (4 + k)) 1 = (-1)) ∧ (∀ g, g < 4 → I (v (10 + g)) 0 = 0 ∧ I (v (10 + g)) 1 = 0) ∧ (∀ a p, J a p = 0) ∧ ∀ p, Q (v 1) p = none) (h2 : Im (w 0) 16 = 31 ∧ (∀ k, k < 6 → Jm (w 8) k = (-1)) ∧ (∀ k p, k < 61 → ¬ k = 4 → ¬ k = 8 → Jm (w k) p = 0)) : xSR v I Q J w Im Jm :=
  ⟨h.1.trans h2.1.symm, fun k hk => (h.2.1 k hk).trans (h2.2.1 k hk).symm, fun g hg => ⟨(h.2.2.1 g hg).1.trans (h2.2.2 13 g (by decide) (by decide) (by decide)).symm, (h.2.2.1 g hg).2.trans (h2.2.2 14 g (by decide) (by decide) (by decide)).symm⟩, fun g p _ _ => (h.2.2.2.1 _ _).trans (h2.2.2 15 _ (by decide) (by decide) (by decide)).symm, fun p _ => by rw [h.2.2.2.2 p, h2.2.2 2 p (by decide) (by decide) (by decide)]; rfl⟩
end XR
theorem sp_cn_iu {u n : Int32} (h : 0 ≤ n.toInt ∧ n.toInt < 5) : sp_cn u n = sp_iu u n := by
  unfold sp_cn sp_iu
  rw [if_neg (by rw [xk_lt, xk_0]; omega), if_neg (by rw [xk_le, xk_8]; omega)]
  by_cases q : (u >>> (n &&& 31)) &&& 1 = 1
  · rw [if_pos q, if_pos ⟨h.1, h.2, q⟩]
  · rw [if_neg q, if_neg (fun z => q z.2.2)]
theorem sp_hi : ∀ j, j < 32 → ∀ n, n < 3 → ¬ (nI j >>> (nI (5 + n) &&& 31)) &&& 1 = (1 : Int32) := by decide +kernel
theorem sp_cn_iu2 {u n : Int32} (hu : ∃ j : Nat, j < 32 ∧ u = nI j) : sp_cn u n = sp_iu u n := by
  by_cases h : 0 ≤ n.toInt ∧ n.toInt < 5
  · exact sp_cn_iu h
  · have e : sp_iu u n = 0 := by unfold sp_iu; rw [if_neg (fun z => h ⟨z.1, z.2.1⟩)]
    rw [e]
    unfold sp_cn
    by_cases h0 : n < 0
    · rw [if_pos h0]
    · rw [if_neg h0]
      by_cases h8 : 8 ≤ n
      · rw [if_pos h8]
      · rw [if_neg h8]
        rw [xk_lt, xk_0] at h0
        rw [xk_le, xk_8] at h8
        obtain ⟨i, hi, rfl⟩ := vp_in_of (x := n) (n := 8) (xin_of (by omega) (by omega)) (by decide)
        rw [nI_toInt (by omega)] at h
        obtain ⟨j, hj, rfl⟩ := hu
        have h5 : 5 ≤ i := by omega
        have hh := sp_hi j hj (i - 5) (by omega)
        rw [show 5 + (i - 5) = i by omega] at hh
        rw [if_neg hh]
theorem sp_rc_ru (u n : Int32) : sp_rc u n = sp_ru u n := by
  unfold sp_rc sp_ru
  by_cases h : 0 ≤ n.toInt ∧ n.toInt < 5
  · rw [if_pos h, if_pos h, sp_cn_iu h]
  · rw [if_neg h, if_neg h]
theorem sp_rcr_rr (u n : Int32) : sp_rcr u n = sp_rr u n := by
  unfold sp_rcr sp_rr
  by_cases h : 0 ≤ n.toInt ∧ n.toInt < 5
  · rw [if_pos h, if_pos h, sp_cn_iu h]
  · rw [if_neg h, if_neg h]
theorem sp_ccu_cu {u n k : Int32} (hu : ∃ j : Nat, j < 32 ∧ u = nI j) : sp_ccu u n k = sp_cu u n k := by
  unfold sp_ccu sp_cu
  rw [sp_cn_iu2 hu]
theorem xP_l {D : va_G} {cl : List vw_C} {a b : va_W} {H : Heap} (h : va_P D cl (a ++ b) H) : va_P D cl a H := fun k q hk => h k q (by rw [List.getElem?_append_left (List.getElem?_eq_some_iff.mp hk).1]; exact hk)
theorem xP_r {D : va_G} {cl : List vw_C} {a b : va_W} {H : Heap} (h : va_P D cl (a ++ b) H) : va_P D cl b H := fun k q hk => h (a.length + k) q (by rw [List.getElem?_append_right (Nat.le_add_right _ _), Nat.add_sub_cancel_left]; exact hk)
theorem xD_l {A : Nat → Prop} {a b : va_W} (h : va_D A (a ++ b)) : va_D A a := by
  have up : ∀ (k : Nat) (q : Nat × va_E), a[k]? = some q → (a ++ b)[k]? = some q := fun k q hk => by rw [List.getElem?_append_left (List.getElem?_eq_some_iff.mp hk).1]; exact hk
  exact ⟨fun i j x y hi hj hxy => h.1 i j x y (up i x hi) (up j y hj) hxy, fun k q hk => h.2 k q (up k q hk)⟩
theorem xD_r {A : Nat → Prop} {a b : va_W} (h : va_D A (a ++ b)) : va_D A b := by
  have up : ∀ (k : Nat) (q : Nat × va_E), b[k]? = some q → (a ++ b)[a.length + k]? = some q := fun k q hk => by rw [List.getElem?_append_right (Nat.le_add_right _ _), Nat.add_sub_cancel_left]; exact hk
  refine ⟨fun i j x y hi hj hxy => ?_, fun k q hk => h.2 _ q (up k q hk)⟩
  have := h.1 _ _ x y (up i x hi) (up j y hj) hxy
  omega
theorem xD_in {A : Nat → Prop} {a : va_W} (h : va_D A a) : va_D (fun q => ∃ (k : Nat) (e : va_E), a[k]? = some (q, e)) a := ⟨h.1, fun k q hk => ⟨k, q.2, hk⟩⟩
theorem xD_two {A : Nat → Prop} {a b a' b' : va_W} (h : va_D A (a ++ b)) (ha : va_D (fun q => ∃ (k : Nat) (e : va_E), a[k]? = some (q, e)) a') (hb : va_D (fun q => ∃ (k : Nat) (e : va_E), b[k]? = some (q, e)) b') : va_D A (a' ++ b') := by
  refine va_D.app (ha.weaken (fun k q _ z => ?_)) (hb.weaken (fun k q _ z => ?_)) (fun i j x y hx hy hxy => ?_)
  · obtain ⟨n, e, hn⟩ := z
    exact (xD_l h).2 n (q.1, e) hn
  · obtain ⟨n, e, hn⟩ := z
    exact (xD_r h).2 n (q.1, e) hn
  · obtain ⟨n, e, hn⟩ := ha.2 i x hx
    obtain ⟨n2, e2, hn2⟩ := hb.2 j y hy
    have hl := (List.getElem?_eq_some_iff.mp hn).1
    have := h.1 n (a.length + n2) (x.1, e) (y.1, e2) (by rw [List.getElem?_append_left hl]; exact hn) (by rw [List.getElem?_append_right (Nat.le_add_right _ _), Nat.add_sub_cancel_left]; exact hn2) hxy
    omega
theorem xj_keep {D : va_G} {cl : List vw_C} {A : Nat → Prop} {a b : va_W} {H H1 : Heap} (hP : va_P D cl (a ++ b) H) (hD : va_D A (a ++ b)) (hk : ∀ q : Nat, q < H.size → ¬ va_A a H.size q → H1[q]? = H[q]?) : va_P D cl b H1 := by
  intro k q hq
  have h1 := xP_r hP k q hq
  refine h1.kept (hk q.1 h1.lt (fun h => ?_))
  rcases h with ⟨i, e, hi⟩ | h
  · have hil := (List.getElem?_eq_some_iff.mp hi).1
    have := hD.1 i (a.length + k) (q.1, e) q (by rw [List.getElem?_append_left hil]; exact hi) (by rw [List.getElem?_append_right (Nat.le_add_right _ _), Nat.add_sub_cancel_left]; exact hq) rfl
    omega
  · have := h1.lt
    omega
theorem xj_D {D : va_G} {cl : List vw_C} {A : Nat → Prop} {a a' b : va_W} {H : Heap} (hP : va_P D cl (a ++ b) H) (hD : va_D A (a ++ b)) (hD1 : va_D (va_A a H.size) a') (hF : ∀ q, va_A a H.size q → A q) : va_D A (a' ++ b) := by
  refine va_D.app (hD1.weaken (fun k q _ h => hF q.1 h)) (xD_r hD) (fun i j x y hx hy hxy => ?_)
  rcases hD1.2 i x hx with ⟨k, e, hk⟩ | h
  · have hl := (List.getElem?_eq_some_iff.mp hk).1
    have := hD.1 k (a.length + j) (x.1, e) y (by rw [List.getElem?_append_left hl]; exact hk) (by rw [List.getElem?_append_right (Nat.le_add_right _ _), Nat.add_sub_cancel_left]; exact hy) hxy
    omega
  · have := (xP_r hP j y hy).lt
    omega
theorem xswapP {D : va_G} {cl : List vw_C} {a b : va_W} {H : Heap} (h : va_P D cl (a ++ b) H) : va_P D cl (b ++ a) H := va_P.swap (a := []) (b := a) (c := b) h
theorem xswapD {A : Nat → Prop} {a b : va_W} (h : va_D A (a ++ b)) : va_D A (b ++ a) := va_D.swap (a := []) (b := a) (c := b) h
theorem xfree {A : Nat → Prop} {a : va_W} {H0 H : Heap} {locs : List Loc} (hD : va_D A a) (hS : va_S A H0 H locs) (hA : ∀ q, H0.size ≤ q → A q) : ∀ q, va_A a H.size q → A q := pfree hD hS hA
theorem xlen7 {L : Nat} (h : L ≤ 448) : (Int32.ofNat L - 7).toInt = (L : Int) - 7 := by
  have e : (Int32.ofNat L).toInt = (L : Int) := nI_toInt (n := L) (by omega)
  rw [xsub (by rw [e, xk_7]; omega) (by rw [e, xk_7]; omega), e, xk_7]
theorem xo_spec {A : Array Value} {s : State} {t : FieldType} (h : (Cond.arrayOver (.array t)).before A s = true) : ∃ (comp cA : ClassId) (k : Class), s.vm.findClass (FieldType.array t).toString = some comp ∧ s.vm.classes[cA]? = some k ∧ k.kind = .array comp (.array t) ∧ s.vm.findClass ("[" ++ (FieldType.array t).toString) = some cA := by
  simp only [Cond.before, Cond.holds, Cond.value, beq_iff_eq] at h
  cases hc : s.vm.findClass (FieldType.array t).toString with
  | none => simp [hc] at h
  | some comp =>
    simp only [hc, Option.bind_some, Option.bind_eq_some_iff, Option.map_eq_some_iff] at h
    obtain ⟨cA, hi, k, hk, hb⟩ := h
    obtain ⟨hlt, hp, -⟩ := Array.findIdx?_eq_some_iff_getElem.mp hi
    rw [(Array.getElem?_eq_some_iff.mp hk).2] at hp
    cases hkind : k.kind with
    | array component ty =>
      rw [hkind] at hb hp
      simp at hb hp
      exact ⟨comp, cA, k, rfl, hk, by rw [hkind, hp, hb.1], hb.2⟩
    | _ => rw [hkind] at hb; simp at hb
theorem xgA_of {A : Array Value} {s : State} (h1 : (Cond.arrayOver (.array (.object "TallyLogsModel$Log"))).before A s = true) (h2 : (Cond.arrayOver (.object "TallyLogsModel$Log")).before A s = true) : ∃ cO cW cC, xgA cO cW cC s := by
  obtain ⟨comp, cA, k, a1, a2, a3, a4⟩ := xo_spec h1
  obtain ⟨cC, cB, kB, b1, b2, b3, b4, b5⟩ := Cond.arrayOver_spec h2
  have e : comp = cB := Option.some.inj (a1.symm.trans b5)
  subst e
  exact ⟨cA, comp, cC, a4, ⟨k, a2, a3⟩, ⟨kB, b3, b4⟩, b1, b5⟩
theorem xnw_warm {w : Cond} (hw : (w.onTables && w.keeps) = true) {s U : State} (hW : s.WarmedH U.vm) (h : va_Nw w s) : va_Nw w U := word_at hW (Or.inl hw) h
def lwI (dC : Nat → ClassId) (dI : Nat → Nat → Nat) (cy : Nat → ClassId) (v : Nat → Nat) (N : Nat → Nat) (cz : Nat → ClassId) (w : Nat → Nat) (Lm : List Nat) (Km Nm : Nat → Nat) (Tm : Nat → Nat → Nat) (Qm : Nat → Nat → Option Nat) (A : Nat → Prop) (H : Heap) (k : Nat) (L : List Nat) (K : Nat → Nat) (T : Nat → Nat → Nat) (I : Nat → Nat → Int32) (Q : Nat → Nat → Option Nat) (J Im Jm : Nat → Nat → Int32) : Prop := CT v L K N T I Q ∧ MI w (5 * (k : Int)) Im Jm ∧ xSR v I Q J w Im Jm ∧ va_P (dC, dI) vwCl (va_pl L (pF cy K N T I Q J) ++ va_pl Lm (wF cz Km Nm Tm Im Qm Jm)) H ∧ va_D A (va_pl L (pF cy K N T I Q J) ++ va_pl Lm (wF cz Km Nm Tm Im Qm Jm))
