section XK
variable {u u' : Int32} {σ σ' τ : SG} {p j k n : Nat} {E : Int}
theorem cn_up5 : ∀ u, u < 32 → ∀ j, j < 8 → 5 ≤ j → sp_cn (nI u) (nI j) = 0 := by decide +kernel
/-- contains(up, n), isUp(n) -/
theorem sp_iu_cnB {x : Int32} (h : B5 u) : (sp_iu u x = 0) ↔ (sp_cn u x = 0) := by
  by_cases h1 : 0 ≤ x.toInt ∧ x.toInt < 5
  · obtain ⟨i, hi, rfl⟩ := vp_in_of (x := x) (n := 5) (xin_of h1.1 (by omega)) (by decide)
    exact sp_iu_cn hi
  · have e1 : sp_iu u x = 0 := if_neg (fun z => h1 ⟨z.1, z.2.1⟩)
    have e2 : sp_cn u x = 0 := by
      by_cases h2 : 0 ≤ x.toInt ∧ x.toInt < 8
      · obtain ⟨i, hi, rfl⟩ := vp_in_of (x := x) (n := 8) (xin_of h2.1 (by omega)) (by decide)
        obtain ⟨w, hw, rfl⟩ := h
        rw [nI_toInt (by omega)] at h1
        exact cn_up5 w hw i hi (by omega)
      · unfold sp_cn
        by_cases h3 : x < 0
        · rw [if_pos h3]
        · rw [if_neg h3, if_pos]
          rw [xk_le, xk_8]
          rw [xk_lt, xk_0] at h3
          omega
    exact ⟨fun _ => e2, fun _ => e1⟩
theorem oLo_t {kp : Int32} : ∀ i q, ¬ ((i = 4 ∨ i = 7) ∧ q = p) → (oLo σ p n kp).1 i q = σ.1 i q := fun i q h => by
  unfold oLo
  by_cases b : bt (σ.1 3 p) n
  · rw [if_pos b, oRi_1]; exact (oC9_t (σ := σ) (p := p) (n := n) (kp := kp)).1 i q h
  · rw [if_neg b]
theorem oC4_no {s : SG × Int32} {x kp : Int32} (h : s.1.1 2 p = 0) : oC4 s p x kp = s := if_pos h
theorem oC4_lo {s : SG × Int32} {kp : Int32} (hn : n < 5) (h : ¬ s.1.1 2 p = 0) : oC4 s p (nI n) kp = (oLo s.1 p n kp, if 0 ≤ (oLo s.1 p n kp).1 4 p then s.2 else s.2 + 1) := by
  unfold oC4
  rw [if_neg h, nI_clamp (by omega)]
  rfl
theorem oLo_4 {kp : Int32} : (oLo σ p n kp).1 4 p = σ.1 4 p ∨ σ.1 4 p = nI n := by
  unfold oLo
  by_cases b : bt (σ.1 3 p) n
  · rw [if_pos b, oRi_1]
    obtain ⟨a, _, _⟩ := oC3_t (σ := oC2 (oC1 σ (5 * p + n) kp) p (nI n)) (p := p) (x := nI n)
    obtain ⟨_, e, _⟩ := oC2_t (σ := oC1 σ (5 * p + n) kp) (p := p) (x := nI n)
    rw [a 4 p (by omega), e]
    by_cases q : (oC1 σ (5 * p + n) kp).1 4 p = nI n
    · exact Or.inr q
    · rw [if_neg q]; exact Or.inl rfl
  · rw [if_neg b]; exact Or.inl rfl
theorem oC5_4 {s : SG × Int32} {kp : Int32} (hn : n < 5) : ∀ k, ∀ q, (oC5 s (nI n) kp k).1.1 4 q = s.1.1 4 q ∨ s.1.1 4 q = nI n := by
  intro k
  induction k with
  | zero => exact fun q => Or.inl rfl
  | succ k ih =>
    intro q
    show (oC4 (oC5 s (nI n) kp k) k (nI n) kp).1.1 4 q = _ ∨ _
    by_cases h : (oC5 s (nI n) kp k).1.1 2 k = 0
    · rw [oC4_no h]; exact ih q
    · rw [oC4_lo hn h]
      show (oLo (oC5 s (nI n) kp k).1 k n kp).1 4 q = _ ∨ _
      by_cases e : q = k
      · subst e
        rcases oLo_4 (σ := (oC5 s (nI n) kp q).1) (p := q) (n := n) (kp := kp) with z | z
        · rw [z]; exact ih q
        · rcases ih q with y | y
          · exact Or.inr (y.symm.trans z)
          · exact Or.inr y
      · rw [oLo_t 4 q (by omega)]; exact ih q
theorem CI.kx {kp : Int32} {τ : SG} (eτ : τ = sA σ 0 0 u') (h : CI (σ.1 0 0) u' σ (oC5 (τ, 0) (nI n) kp k).1 k) (hn : n < 5) (hub : ∀ m, m < 5 → (bt u' m ↔ bt (σ.1 0 0) m ∧ ¬ m = n)) : ∀ i, (kxo σ i ∨ i % 5 = n) → kxo (oC5 (τ, 0) (nI n) kp k).1 i := by
  intro i z
  subst eτ
  have hm := Nat.mod_lt i (show 0 < 5 by decide)
  rcases z with (z | z) | z
  · rcases oC5_4 (s := (sA σ 0 0 u', 0)) (kp := kp) hn k (i / 5) with y | y
    · refine Or.inl (y.trans ?_)
      show (sA σ 0 0 u').1 4 (i / 5) = _
      rw [sA_q (by omega)]; exact z
    · refine Or.inr (fun w => ((hub (i % 5) hm).mp (by rw [← h.1]; exact w)).2 (nI_inj5 hm hn (z.symm.trans ?_)))
      have y2 : (sA σ 0 0 u').1 4 (i / 5) = nI n := y
      rw [sA_q (by omega)] at y2; exact y2
  · exact Or.inr (fun w => z ((hub (i % 5) hm).mp (by rw [← h.1]; exact w)).1)
  · exact Or.inr (fun w => ((hub (i % 5) hm).mp (by rw [← h.1]; exact w)).2 z)
/-- a crash: what lose needs -/
theorem CI.rh {kp : Int32} (h : CI u u' σ τ k) (hk4 : k < 4) (hn : n < 5) (hu0 : u = σ.1 0 0) (hu : ∀ m, m < 5 → (bt u' m ↔ bt u m ∧ ¬ m = n)) (hA : LA E σ) (hE : E < 2000) (hF : ∀ j, j < 20 → RF σ j) (hk : 0 ≤ kp.toInt) (ht : ¬ τ.1 2 k = 0) : RHp (fun i => kxo σ i ∨ i % 5 = n) (oC9 τ k n kp) k := by
  obtain ⟨a, _, d, _, _⟩ := h
  obtain ⟨d1, d2, d3⟩ := d k (Nat.le_refl _) hk4
  have h1 : PI u' (oC9 τ k n kp) k := d1.c9 hn hu ht
  obtain ⟨t1, t2⟩ := oC9_t (σ := τ) (p := k) (n := n) (kp := kp)
  have h0 : (oC9 τ k n kp).1 0 0 = u' := (t1 0 0 (by omega)).trans a
  rw [← h0] at h1
  refine (h1.rh (by rw [t1 2 k (by omega)]; exact ht) (fun m hm => ?_)).mono (fun hl m hm z => ?_)
  · rw [t2]
    exact oC1_ln (by rw [d3 m hm]; exact hA _ (by omega)) (by rw [d3 n hn]; exact hA _ (by omega)) hk (by rw [d3 n hn]; exact (hF (5 * k + n) (by omega)).2) hE
  · unfold kxo
    rw [show (5 * k + m) / 5 = k by omega, show (5 * k + m) % 5 = m by omega, h0]
    rcases z with z | z
    · unfold kxo at z
      rw [show (5 * k + m) / 5 = k by omega, show (5 * k + m) % 5 = m by omega] at z
      rcases z with z | z
      · refine Or.inl ?_
        obtain ⟨b1, _, _⟩ := oC3_t (σ := oC2 (oC1 τ (5 * k + n) kp) k (nI n)) (p := k) (x := nI n)
        obtain ⟨_, b3, _⟩ := oC2_t (σ := oC1 τ (5 * k + n) kp) (p := k) (x := nI n)
        have e4 : (oC9 τ k n kp).1 4 k = if τ.1 4 k = nI n then -1 else τ.1 4 k := (b1 4 k (by omega)).trans b3
        rw [e4] at hl ⊢
        by_cases q : τ.1 4 k = nI n
        · rw [if_pos q] at hl; exact absurd (by decide) hl
        · rw [if_neg q, d2 4 (by decide) (by decide)]; exact z
      · refine Or.inr (fun y => z ?_)
        rw [← hu0]; exact ((hu m hm).mp y).1
    · refine Or.inr (fun y => ((hu m hm).mp y).2 ?_)
      have z : (5 * k + m) % 5 = n := z
      omega
end XK
set_option maxHeartbeats 4000000 in
set_option maxRecDepth 100000 in
/-- crash, exactly -/
theorem g_X5_crash (l : Launch) (dC : Nat → ClassId) (dI : Nat → Nat → Nat) (cy : Nat → ClassId) (v : Nat → Nat) (L : List Nat) (K N : Nat → Nat) (T : Nat → Nat → Nat) (I : Nat → Nat → Int32) (Q : Nat → Nat → Option Nat) (J : Nat → Nat → Int32) (sz : Nat) (pa ra : Nat → Nat) (kx : Nat → Prop) (σ : SG) (E : Int) (xn xk : Int32) (hE : REP v pa ra L K N T I Q J kx σ) (hkx : kx = kxo σ) (hSK : SK σ) (hLA : LA E σ) (hE9 : E < 1900) (hB : B5 (σ.1 0 0)) : Met l yX5_crash wsX5_crash ({ frames := 4, cells := 0, slots := 0, locals := 90 }) (va_Pc [.ref (v 0), .int xn, .int xk] (pW dC dI cy L (pF cy K N T I Q J) sz)) (va_Qi (fun (r : Int32) (d : (Nat → Nat → Int32) × (Nat → Nat → Option Nat) × (Nat → Nat → Int32)) => (REP v pa ra L K N T d.1 d.2.1 d.2.2 (kxo (qCr σ xn xk).1) (qCr σ xn xk).1) ∧ r = (qCr σ xn xk).2) (fun (d : (Nat → Nat → Int32) × (Nat → Nat → Option Nat) × (Nat → Nat → Int32)) t => va_P (dC, dI) vwCl (va_pl L (pF cy K N T d.1 d.2.1 d.2.2)) t.heap ∧ va_K (dC, dI) vwCl (pTy cy) t ∧ va_D (va_A (va_pl L (pF cy K N T I Q J)) sz) (va_pl L (pF cy K N T d.1 d.2.1 d.2.2))) (va_A (va_pl L (pF cy K N T I Q J)) sz)) 0 0 (va_A (va_pl L (pF cy K N T I Q J)) sz) := by
  refine Met.ofW (cc := cX5_crash) (maxL := 6) (ret := (some .int)) (by decide) rfl ?_
  intro p e s m args below meth c s₁ B hml hv
  obtain ⟨rfl, hsz, ⟨hP, hK, hN⟩, hD0⟩ := hv
  have hx := B.exec
  have hb := B.bytes
  have hr := B.returns
  have hts := atoms_spec (ws := wsX5_crash) B.pre
  have hown : s.vm.findClass RX5 = some m.cls := findClass_of_methodNamed B.named
  have hlocks := B.notSynchronized
  have hi5 : ∀ w ∈ wsX50, w ∈ wsX5_crash := by decide +kernel
  have hi2 : ∀ w ∈ wsX20, w ∈ wsX5_crash := by decide +kernel
  have hl := lv_entry ([.ref (v 0), .int xn, .int xk]) (n := 6) (Nat.le_of_ble_eq_true rfl)
  rw [lg_entry_eq]
  generalize (lg_sl ([.ref (v 0), .int xn, .int xk]) ++ List.replicate (6 - (lg_sl ([.ref (v 0), .int xn, .int xk])).length) Slot.unset).toArray = ls at hl ⊢
  have hl : lv_has ls 6 [(0, .ref (v 0)), (1, .int xn), (2, .int xk)] := hl
  subst hsz
  have hD := hD0.self (sz := s.heap.size)
  generalize hAe : va_A (va_pl L (pF cy K N T I Q J)) s.heap.size = A at hD ⊢
  have hA : ∀ q : Nat, s.heap.size ≤ q → A q := fun q h => by rw [← hAe]; exact Or.inr h
  have hS : va_S A s.heap s.heap [] := va_S.rf
  have hR : RS v I Q J I Q J := RS.rf
  have hn28 := hN.1
  have hn30 := hN.2.1
  have hn37 := hN.2.2.1
  have hC := hE.ct
  subst hkx
  refine lv_aload_n hx hb dX5_crash_0 rfl (lv_at hl 0 rfl) ?_
  obtain ⟨j630027, hj630027⟩ := pG_5 (cy := cy) (N := N) (T := T) (I := I) (Q := Q) (J := J) (hC.at 0 (by decide)) (hC.k 0 (by decide) rfl)
  refine va_get (D := (dC, dI)) (ci := 5) (v := .int (I (v 0) 3)) (C := RX5) (T := TX5) (N := 6) hx hb hts hi5 hown hK hP j630027 hj630027 rfl 3 (by decide) (hts (.fieldLink RX5 27 "TallyLogs" "up" "I") (by decide +kernel)) (fun _ h9 => h9) rfl dX5_crash_1 ?_
  refine lv_topi (fun x630028 ex630028 => ?_)
  have sx630028 : x630028 = σ.1 0 0 := ex630028.trans hE.up
  refine lv_iload_n hx hb dX5_crash_4 rfl (lv_at hl 1 rfl) ?_
  refine vp_callSi (W.runS (As := [.int x630028, .int xn]) (rest := []) ⟨hx, hb, hml, hown, hts⟩ (c_X5_contains l x630028 xn) (va_cwS 2 hts gX5_crash_X5_contains rfl rfl rfl (by decide +kernel) ⟨Nat.le_of_ble_eq_true rfl, Nat.le_of_ble_eq_true rfl⟩) preEq rfl rfl hl.1 rfl (lv_room (Nat.le_of_ble_eq_true rfl)) dX5_crash_5 ⟨Nat.le_of_ble_eq_true rfl, Nat.le_of_ble_eq_true rfl⟩) (fun r630029 hr630029 => ?_)
  refine lv_if_eq (tgt := 15) hx hb dX5_crash_8 (by decide) (fun c630030 => ?_) (fun c630030 => ?_)
  · have kc630030 : r630029.toInt = 0 := by have h9 := c630030; rw [xk_eq, xk_0] at h9; exact h9
    refine lv_iconst (v := (-1)) hx hb dX5_crash_15 (by decide) ?_
    have e9 : qCr σ xn xk = (σ, (-1)) := by unfold qCr; rw [if_pos ((sp_iu_cnB hB).mpr (by rw [← sx630028, ← hr630029]; exact c630030))]
    have hk9 : kxo σ = (kxo σ) := rfl
    exact W.iret (v := (-1)) hx hb hr (fun t ht hW => ⟨⟨(-1), (I, Q, J), rfl, ⟨by show REP v pa ra L K N T I Q J (kxo (qCr σ xn xk).1) (qCr σ xn xk).1; rw [e9]; show REP v pa ra L K N T I Q J (kxo σ) σ; rw [hk9]; exact hE, by show _ = _; rw [e9]⟩, by rw [ht]; exact hP, va_K.moved hW.alike hK, hD⟩, hS.F ht⟩) hS.2.2 dX5_crash_16
  · have kc630030 : ¬ (r630029.toInt = 0) := by have h9 := c630030; rw [xk_eq, xk_0] at h9; exact h9
    refine lv_iload_n hx hb dX5_crash_11 rfl (lv_at hl 2 rfl) ?_
    refine lv_if_ge (tgt := 17) hx hb dX5_crash_12 (by decide) (fun c630031 => ?_) (fun c630031 => ?_)
    · have kc630031 : 0 ≤ xk.toInt := by have h9 := c630031; rw [xk_le, xk_0] at h9; exact h9
      refine lv_aload_n hx hb dX5_crash_17 rfl (lv_at hl 0 rfl) ?_
      refine lv_dup hx hb dX5_crash_18 rfl ?_
      obtain ⟨j630032, hj630032⟩ := pG_5 (cy := cy) (N := N) (T := T) (I := I) (Q := Q) (J := J) (hC.at 0 (by decide)) (hC.k 0 (by decide) rfl)
      refine va_get (D := (dC, dI)) (ci := 5) (v := .int (I (v 0) 3)) (C := RX5) (T := TX5) (N := 6) hx hb hts hi5 hown hK hP j630032 hj630032 rfl 3 (by decide) (hts (.fieldLink RX5 27 "TallyLogs" "up" "I") (by decide +kernel)) (fun _ h9 => h9) rfl dX5_crash_19 ?_
      refine lv_topi (fun x630033 ex630033 => ?_)
      have sx630033 : x630033 = σ.1 0 0 := ex630033.trans hE.up
      refine lv_iconst (v := 1) hx hb dX5_crash_22 (by decide) ?_
      refine lv_iload_n hx hb dX5_crash_23 rfl (lv_at hl 1 rfl) ?_
      refine lv_ishl hx hb dX5_crash_24 ?_
      refine lv_topi (fun v630034 ev630034 => ?_)
      refine lv_iconst (v := (-1)) hx hb dX5_crash_25 (by decide) ?_
      refine lv_ixor hx hb dX5_crash_26 ?_
      refine lv_topi (fun v630035 ev630035 => ?_)
      refine lv_iand hx hb dX5_crash_27 ?_
      refine lv_topi (fun v630036 ev630036 => ?_)
      obtain ⟨j630037, hj630037⟩ := pG_5 (cy := cy) (N := N) (T := T) (I := I) (Q := Q) (J := J) (hC.at 0 (by decide)) (hC.k 0 (by decide) rfl)
      have hDo := hD
      refine va_put (D := (dC, dI)) (ci := 5) (v := .int v630036) (ty := .int) (C := RX5) (T := TX5) (N := 6) hx hb hts hi5 tyX5 tyX5_ok nmX5 hown hK hP hD hS j630037 hj630037 rfl 3 (by decide) (hts (.fieldLink RX5 27 "TallyLogs" "up" "I") (by decide +kernel)) (fun _ h9 => h9) rfl (by decide +kernel) rfl rfl (Nat.le_of_ble_eq_true rfl) dX5_crash_28 (fun H locs hP hD hS => ?_)
      have hP := Eq.mp (congrArg (fun w => va_P (dC, dI) vwCl w H) (pP_5_3 (x := v630036) hDo (hC.at 0 (by decide)) (hC.k 0 (by decide) rfl) hj630037)) hP
      obtain ⟨I630038, eI630038⟩ : ∃ z, z = p2 I (v 0) 3 v630036 := ⟨_, rfl⟩
      rw [← eI630038] at hP
      have hR : RS v I630038 Q J I630038 Q J := RS.rf
      obtain ⟨sg630039, esg630039⟩ : ∃ z, z = sA σ 0 0 v630036 := ⟨_, rfl⟩
      have hE : REP v pa ra L K N T I630038 Q J (kxo σ) sg630039 := by rw [esg630039, eI630038]; exact hE.wo (f := 0) (by decide)
      have hC : CT v L K N T I630038 Q := by rw [eI630038]; exact hC.pi (by rw [(hC.k 0 (by decide) rfl)]; decide)
      have hD : va_D A (va_pl L (pF cy K N T I630038 Q J)) := pD hDo
      refine lv_iconst (v := 0) hx hb dX5_crash_31 (by decide) ?_
      refine lv_istore_n (lv' := [(3, .int 0), (0, .ref (v 0)), (1, .int xn), (2, .int xk)]) hx hb dX5_crash_32 rfl hl (by decide) rfl (fun ls hl => ?_)
      refine lv_iconst (v := 0) hx hb dX5_crash_33 (by decide) ?_
      refine lv_istore (lv' := [(4, .int 0), (3, .int 0), (0, .ref (v 0)), (1, .int xn), (2, .int xk)]) hx hb dX5_crash_34 hl (by decide) rfl (fun ls hl => ?_)
      have hiu : ¬ sp_iu (σ.1 0 0) xn = 0 := fun z => c630030 (by rw [hr630029, sx630028]; exact (sp_iu_cnB hB).mp z)
      obtain ⟨Gn, hGn, eGn⟩ := vp_in_of (sp_iu1 hiu).1 (by decide)
      have hk0 : 0 ≤ xk.toInt := by omega
      have huv : v630036 = σ.1 0 0 &&& ((1 <<< (nI Gn &&& 31)) ^^^ (-1)) := by rw [ev630036, sx630033, ev630035, ev630034, eGn]
      have hub : ∀ m, m < 5 → (bt v630036 m ↔ bt (σ.1 0 0) m ∧ ¬ m = Gn) := fun m hm => by rw [huv]; exact bt_clr hm hGn
      have hCI0 : CI (σ.1 0 0) v630036 σ sg630039 0 := by rw [esg630039]; exact CI.begin hSK _
      have hE : REP v pa ra L K N T I630038 Q J (fun i => kxo σ i ∨ i % 5 = Gn) sg630039 := hE.km (fun i z => Or.inl z)
      refine wq_gen (fun Qz hQz => ?_)
      have hLP630040 : ∀ (n k630040 : Nat) (y630041 : Int32) (Ia630040 : Nat → Nat → Int32) (Qa630040 : Nat → Nat → Option Nat) (Ja630040 : Nat → Nat → Int32) (H : Heap) (locs : List Loc) (ls : Array Slot), k630040 + n = 4 → (y630041 = (oC5 (sg630039, 0) (nI Gn) xk k630040).2) → REP v pa ra L K N T Ia630040 Qa630040 Ja630040 (fun i => kxo σ i ∨ i % 5 = Gn) ((oC5 (sg630039, 0) (nI Gn) xk k630040).1) → va_P (dC, dI) vwCl (va_pl L (pF cy K N T Ia630040 Qa630040 Ja630040)) H → va_D A (va_pl L (pF cy K N T Ia630040 Qa630040 Ja630040)) → va_S A s.heap H locs → lv_has ls 6 [(4, .int (nI k630040)), (3, .int y630041), (0, .ref (v 0)), (1, .int xn), (2, .int xk)] → W p l e (headSpec wsX5_crash ({ frames := 4, cells := 0, slots := 0, locals := 90 })).room s m ([.ref (v 0), .int xn, .int xk] : List Value).toArray below meth c H locs 0 0 Qz (F0 m 36 ls []) := by
        intro n
        induction n with
        | zero =>
          intro k630040 y630041 Ia630040 Qa630040 Ja630040 H locs ls hkn630040 hiv630040 hE hP hD hS hl
          have hkN630040 : k630040 = 4 := by omega
          have hC := hE.ct
          have hR : RS v Ia630040 Qa630040 Ja630040 Ia630040 Qa630040 Ja630040 := RS.rf
          have hCI : CI (σ.1 0 0) v630036 σ (oC5 (sg630039, 0) (nI Gn) xk k630040).1 k630040 := CI.all (s := (sg630039, 0)) hGn hub hLA hk0 hCI0 k630040 (by omega)
          have hE : REP v pa ra L K N T Ia630040 Qa630040 Ja630040 (kxo (oC5 (sg630039, 0) (nI Gn) xk k630040).1) (oC5 (sg630039, 0) (nI Gn) xk k630040).1 := hE.km (CI.kx esg630039 hCI hGn hub)
          refine lv_iload hx hb dX5_crash_36 (lv_at hl 0 rfl) ?_
          refine lv_iconst (v := 4) hx hb dX5_crash_38 (by decide) ?_
          refine lv_icmp_ge (tgt := 86) hx hb dX5_crash_39 (by decide) (fun c630042 => ?_) (fun c630042 => ?_)
          rotate_left
          · exact absurd (by rw [hkN630040]; decide) c630042
          refine lv_iload_n hx hb dX5_crash_86 rfl (lv_at hl 1 rfl) ?_
          rw [hQz]
          have e9 : qCr σ xn xk = ((oC5 (sg630039, 0) (nI Gn) xk k630040).1, y630041) := by have h4 : oC5 (sg630039, 0) (nI Gn) xk 4 = oC5 (sg630039, 0) (nI Gn) xk k630040 := (by rw [hkN630040]); unfold qCr; rw [if_neg hiu, if_neg (by rw [xk_lt, xk_0]; omega), eGn, ← huv, ← esg630039, h4]; exact Prod.ext rfl hiv630040.symm
          have hk9 : kxo (oC5 (sg630039, 0) (nI Gn) xk k630040).1 = (kxo (oC5 (sg630039, 0) (nI Gn) xk k630040).1) := rfl
          exact W.iret (v := y630041) hx hb hr (fun t ht hW => ⟨⟨y630041, (Ia630040, Qa630040, Ja630040), rfl, ⟨by show REP v pa ra L K N T Ia630040 Qa630040 Ja630040 (kxo (qCr σ xn xk).1) (qCr σ xn xk).1; rw [e9]; show REP v pa ra L K N T Ia630040 Qa630040 Ja630040 (kxo (oC5 (sg630039, 0) (nI Gn) xk k630040).1) (oC5 (sg630039, 0) (nI Gn) xk k630040).1; rw [hk9]; exact hE, by show _ = _; rw [e9]⟩, by rw [ht]; exact hP, va_K.moved hW.alike hK, hD⟩, hS.F ht⟩) hS.2.2 dX5_crash_87
        | succ n ih630040 =>
          intro k630040 y630041 Ia630040 Qa630040 Ja630040 H locs ls hkn630040 hiv630040 hE hP hD hS hl
          have hk9630040 : k630040 < 4 := by omega
          have hkc630040 : (nI k630040).toNatClampNeg = k630040 := nI_clamp (by omega)
          have hki630040 : vp_in (nI k630040) 4 := nI_in (by omega) (by decide)
          have hC := hE.ct
          have hR : RS v Ia630040 Qa630040 Ja630040 Ia630040 Qa630040 Ja630040 := RS.rf
          have hCI : CI (σ.1 0 0) v630036 σ (oC5 (sg630039, 0) (nI Gn) xk k630040).1 k630040 := CI.all (s := (sg630039, 0)) hGn hub hLA hk0 hCI0 k630040 (by omega)
          refine lv_iload hx hb dX5_crash_36 (lv_at hl 0 rfl) ?_
          refine lv_iconst (v := 4) hx hb dX5_crash_38 (by decide) ?_
          refine lv_icmp_ge (tgt := 86) hx hb dX5_crash_39 (by decide) (fun c630043 => ?_) (fun c630043 => ?_)
          · exact absurd c630043 (nI_ge (b := 4) (by omega) (by decide))
          refine lv_aload_n hx hb dX5_crash_42 rfl (lv_at hl 2 rfl) ?_
          obtain ⟨j630044, hj630044⟩ := pG_5 (cy := cy) (N := N) (T := T) (I := Ia630040) (Q := Qa630040) (J := Ja630040) (hC.at 0 (by decide)) (hC.k 0 (by decide) rfl)
          refine va_get (D := (dC, dI)) (ci := 5) (v := .ref (T (v 0) 0)) (C := RX5) (T := TX5) (N := 6) hx hb hts hi5 hown hK hP j630044 hj630044 rfl 0 (by decide) (hts (.fieldLink RX5 11 "TallyLogs" "partitions" "[LTallyLogs$Partition;") (by decide +kernel)) (fun _ h9 => h9) rfl dX5_crash_43 ?_
          refine W.eq (g2 := F0 m 46 ls [.ref (v 1)]) (by rw [hC.1.2.2.1.1]) ?_
          refine lv_iload hx hb dX5_crash_46 (lv_at hl 0 rfl) ?_
          by_cases hth630046 : ((oC5 (sg630039, 0) (nI Gn) xk k630040).1).1 2 k630040 = 0
          · have hq630046 : Qa630040 (v 1) (nI k630040).toNatClampNeg = none := by rw [hkc630040]; exact (hE.pt k630040 hk9630040).1 hth630046
            obtain ⟨j630047, hj630047⟩ := pG_10 (cy := cy) (N := N) (T := T) (I := Ia630040) (Q := Qa630040) (J := Ja630040) (hC.at 1 (by decide)) (hC.k 1 (by decide) rfl)
            refine va_aldq hx hb hK hP j630047 3 hj630047 rfl hki630040 dX5_crash_48 ?_
            refine W.eq (g2 := F0 m 49 ls [.null]) (by rw [hq630046]; rfl) ?_
            refine lv_astoreN (lv' := [(5, .null), (4, .int (nI k630040)), (3, .int y630041), (0, .ref (v 0)), (1, .int xn), (2, .int xk)]) hx hb dX5_crash_49 hl (by decide) rfl (fun ls hl => ?_)
            refine lv_aloadN hx hb dX5_crash_51 (lv_at hl 0 rfl) ?_
            refine lv_ifnullN (tgt := 80) hx hb dX5_crash_53 (by decide) ?_
            obtain ⟨v630048, ev630048⟩ : ∃ y : Int32, y = (nI k630040) + Int32.ofInt 1 := ⟨_, rfl⟩
            refine lv_iinc (v := v630048) (lv' := [(4, .int v630048), (5, .null), (3, .int y630041), (0, .ref (v 0)), (1, .int xn), (2, .int xk)]) hx hb dX5_crash_80 hl (k := 1) rfl ev630048.symm (by decide) rfl (fun ls hl => ?_)
            refine lv_goto (tgt := 36) hx hb dX5_crash_83 (by decide) ?_
            obtain rfl : v630048 = nI (k630040 + 1) := ev630048.trans (nI_add k630040 1)
            have ho9 : oC5 (sg630039, 0) (nI Gn) xk (k630040 + 1) = oC5 (sg630039, 0) (nI Gn) xk k630040 := oC4_no hth630046
            exact ih630040 (k630040 + 1) _ _ _ _ _ _ _ (by omega) (by rw [ho9]; exact hiv630040) (by rw [ho9]; exact hE) hP hD hS (lv_sub hl [0, 2, 3, 4, 5] rfl)
          · have hq630046 : Qa630040 (v 1) (nI k630040).toNatClampNeg = some (pa k630040) := by rw [hkc630040]; exact hE.pq hk9630040 hth630046
            have htO630046 := hth630046
            obtain ⟨j630049, hj630049⟩ := pG_10 (cy := cy) (N := N) (T := T) (I := Ia630040) (Q := Qa630040) (J := Ja630040) (hC.at 1 (by decide)) (hC.k 1 (by decide) rfl)
            refine va_aldq hx hb hK hP j630049 3 hj630049 rfl hki630040 dX5_crash_48 ?_
            refine W.eq (g2 := F0 m 49 ls [.ref (pa k630040)]) (by rw [hq630046]; rfl) ?_
            refine lv_astore (lv' := [(5, .ref (pa k630040)), (4, .int (nI k630040)), (3, .int y630041), (0, .ref (v 0)), (1, .int xn), (2, .int xk)]) hx hb dX5_crash_49 hl (by decide) rfl (fun ls hl => ?_)
            refine lv_aload hx hb dX5_crash_51 (lv_at hl 0 rfl) ?_
            refine lv_ifnull hx hb dX5_crash_53 ?_
            refine lv_aload hx hb dX5_crash_56 (lv_at hl 0 rfl) ?_
            refine lv_iload_n hx hb dX5_crash_58 rfl (lv_at hl 4 rfl) ?_
            refine lv_iload_n hx hb dX5_crash_59 rfl (lv_at hl 5 rfl) ?_
            have hd3 := (hCI.2.2.1 k630040 (Nat.le_refl _) hk9630040).2.2 Gn hGn
            have hLI9 := hLA (5 * k630040 + Gn) (by omega)
            rw [← hd3] at hLI9
            obtain ⟨j630050, hj630050⟩ := pG_2 (cy := cy) (N := N) (T := T) (I := Ia630040) (Q := Qa630040) (J := Ja630040) (hE.pL hk9630040 hth630046).1 (hE.pL hk9630040 hth630046).2
            have hFc := pfree hD hS hA
            refine va_callv (va_runV (As := [.int xn, .int xk]) (rest := []) ⟨hx, hb, hml, hown, hts⟩ (g_X2_lose l dC dI cy v L K N T Ia630040 Qa630040 Ja630040 H.size pa ra (fun i => kxo σ i ∨ i % 5 = Gn) ((oC5 (sg630039, 0) (nI Gn) xk k630040).1) k630040 Gn xn xk hE hk9630040 hth630046 hGn eGn (hLI9.ln (by omega)) hk0 hLI9.2.2.2.2.1 (hCI.2.2.2.1 (5 * k630040 + Gn) (by omega)).2 (hCI.rh hk9630040 hGn rfl hub hLA (by omega) hSK.2.1 hk0 hth630046)) (cwV 2 hts gX5_crash_X2_lose rfl rfl rfl (by decide +kernel) ⟨Nat.le_of_ble_eq_true rfl, Nat.le_of_ble_eq_true rfl⟩) ⟨pw_blind, va_recv hK hP (ci := 2) (q0 := j630050) rfl hj630050, fun U hU hW => ⟨rfl, pw_pre hP hK hN hD hU hW⟩⟩ rfl rfl hl.1 rfl (lv_room (Nat.le_of_ble_eq_true rfl)) dX5_crash_60 ⟨Nat.le_of_ble_eq_true rfl, Nat.le_of_ble_eq_true rfl⟩) hS (fun q _ h => hFc q h) hFc (fun d9 t H1 locs ht hvm hw hB hz1 hk1 hS => ?_)
            obtain ⟨I630051, Q630051, J630051⟩ := d9
            obtain ⟨hP, hK1, hD1⟩ := hB
            rw [ht] at hP
            have hD := hD1.weaken (fun _ _ _ h => hFc _ h)
            generalize H1 = H at hP hS ⊢
            have hP : va_P (dC, dI) vwCl (va_pl L (pF cy K N T I630051 Q630051 J630051)) H := hP
            have hD : va_D A (va_pl L (pF cy K N T I630051 Q630051 J630051)) := hD
            have hR : RS v I630051 Q630051 J630051 I630051 Q630051 J630051 := RS.rf
            obtain ⟨sg630053, esg630053⟩ : ∃ z, z = oLo ((oC5 (sg630039, 0) (nI Gn) xk k630040).1) k630040 Gn xk := ⟨_, rfl⟩
            have hE : REP v pa ra L K N T I630051 Q630051 J630051 (fun i => kxo σ i ∨ i % 5 = Gn) sg630053 := by rw [esg630053]; exact hw
            have hC := hE.ct
            have hth630046 : ¬ sg630053.1 2 k630040 = 0 := by rw [esg630053, oLo_t 2 _ (by omega)]; exact hth630046
            refine lv_iload_n hx hb dX5_crash_63 rfl (lv_at hl 2 rfl) ?_
            refine lv_aload hx hb dX5_crash_64 (lv_at hl 0 rfl) ?_
            obtain ⟨j630054, hj630054⟩ := pG_2 (cy := cy) (N := N) (T := T) (I := I630051) (Q := Q630051) (J := J630051) (hE.pL hk9630040 hth630046).1 (hE.pL hk9630040 hth630046).2
            refine va_get (D := (dC, dI)) (ci := 2) (v := .int (I630051 (pa k630040) 3)) (C := RX2) (T := TX2) (N := 6) hx hb hts hi2 hown hK hP j630054 hj630054 rfl 3 (by decide) (hts (.fieldLink RX5 51 "TallyLogs$Partition" "leader" "I") (by decide +kernel)) (fun _ h9 => h9) rfl dX5_crash_66 ?_
            refine lv_topi (fun x630055 ex630055 => ?_)
            have sx630055 : x630055 = sg630053.1 4 k630040 := ex630055.trans ((hE.pt k630040 hk9630040).2 hth630046).2.1.2.2.1
            refine lv_iconst (v := (-1)) hx hb dX5_crash_69 (by decide) ?_
            refine lv_icmp_ne (tgt := 77) hx hb dX5_crash_70 (by decide) (fun c630056 => ?_) (fun c630056 => ?_)
            · have kc630056 : ¬ (x630055.toInt = (-1)) := by have h9 := c630056; rw [xk_eq, (show ((-1) : Int32).toInt = -1 by decide)] at h9; exact h9
              refine lv_iconst (v := 0) hx hb dX5_crash_77 (by decide) ?_
              refine lv_iadd hx hb dX5_crash_78 ?_
              refine lv_topi (fun v630057 ev630057 => ?_)
              refine lv_istore_n (lv' := [(3, .int v630057), (5, .ref (pa k630040)), (4, .int (nI k630040)), (0, .ref (v 0)), (1, .int xn), (2, .int xk)]) hx hb dX5_crash_79 rfl hl (by decide) rfl (fun ls hl => ?_)
              obtain ⟨v630058, ev630058⟩ : ∃ y : Int32, y = (nI k630040) + Int32.ofInt 1 := ⟨_, rfl⟩
              refine lv_iinc (v := v630058) (lv' := [(4, .int v630058), (3, .int v630057), (5, .ref (pa k630040)), (0, .ref (v 0)), (1, .int xn), (2, .int xk)]) hx hb dX5_crash_80 hl (k := 2) rfl ev630058.symm (by decide) rfl (fun ls hl => ?_)
              refine lv_goto (tgt := 36) hx hb dX5_crash_83 (by decide) ?_
              obtain rfl : v630058 = nI (k630040 + 1) := ev630058.trans (nI_add k630040 1)
              have hCI2 : CI (σ.1 0 0) v630036 σ (oC5 (sg630039, 0) (nI Gn) xk (k630040 + 1)).1 (k630040 + 1) := CI.all (s := (sg630039, 0)) hGn hub hLA hk0 hCI0 (k630040 + 1) (by omega)
              have ho8 : oC5 (sg630039, 0) (nI Gn) xk (k630040 + 1) = (oLo (oC5 (sg630039, 0) (nI Gn) xk k630040).1 k630040 Gn xk, if 0 ≤ (oLo (oC5 (sg630039, 0) (nI Gn) xk k630040).1 k630040 Gn xk).1 4 k630040 then (oC5 (sg630039, 0) (nI Gn) xk k630040).2 else (oC5 (sg630039, 0) (nI Gn) xk k630040).2 + 1) := oC4_lo hGn htO630046
              have hp9 : 0 ≤ (oLo (oC5 (sg630039, 0) (nI Gn) xk k630040).1 k630040 Gn xk).1 4 k630040 := by rw [ho8] at hCI2; rcases ((hCI2.2.1 k630040 (by omega)).2 (by rw [oLo_t 2 _ (by omega)]; exact htO630046)).2.2.1 with z | ⟨m, hm, z, _⟩; (exact absurd (by rw [sx630055, esg630053]; exact z) c630056); have z2 : (oLo (oC5 (sg630039, 0) (nI Gn) xk k630040).1 k630040 Gn xk).1 4 k630040 = nI m := z; rw [z2, xk_le, xk_0, nI_toInt (by omega)]; omega
              have ho9 : oC5 (sg630039, 0) (nI Gn) xk (k630040 + 1) = (sg630053, v630057) := by rw [ho8, if_pos hp9, ← esg630053, ev630057, ← hiv630040, Int32.add_zero]
              exact ih630040 (k630040 + 1) _ _ _ _ _ _ _ (by omega) (by rw [ho9]) (by rw [ho9]; exact hE) hP hD hS (lv_sub hl [0, 1, 3, 4, 5] rfl)
            · have kc630056 : x630055.toInt = (-1) := by have h9 := c630056; rw [xk_eq, (show ((-1) : Int32).toInt = -1 by decide)] at h9; exact h9
              refine lv_iconst (v := 1) hx hb dX5_crash_73 (by decide) ?_
              refine lv_goto (tgt := 78) hx hb dX5_crash_74 (by decide) ?_
              refine lv_iadd hx hb dX5_crash_78 ?_
              refine lv_topi (fun v630059 ev630059 => ?_)
              refine lv_istore_n (lv' := [(3, .int v630059), (5, .ref (pa k630040)), (4, .int (nI k630040)), (0, .ref (v 0)), (1, .int xn), (2, .int xk)]) hx hb dX5_crash_79 rfl hl (by decide) rfl (fun ls hl => ?_)
              obtain ⟨v630060, ev630060⟩ : ∃ y : Int32, y = (nI k630040) + Int32.ofInt 1 := ⟨_, rfl⟩
              refine lv_iinc (v := v630060) (lv' := [(4, .int v630060), (3, .int v630059), (5, .ref (pa k630040)), (0, .ref (v 0)), (1, .int xn), (2, .int xk)]) hx hb dX5_crash_80 hl (k := 2) rfl ev630060.symm (by decide) rfl (fun ls hl => ?_)
              refine lv_goto (tgt := 36) hx hb dX5_crash_83 (by decide) ?_
              obtain rfl : v630060 = nI (k630040 + 1) := ev630060.trans (nI_add k630040 1)
              have hCI2 : CI (σ.1 0 0) v630036 σ (oC5 (sg630039, 0) (nI Gn) xk (k630040 + 1)).1 (k630040 + 1) := CI.all (s := (sg630039, 0)) hGn hub hLA hk0 hCI0 (k630040 + 1) (by omega)
              have ho8 : oC5 (sg630039, 0) (nI Gn) xk (k630040 + 1) = (oLo (oC5 (sg630039, 0) (nI Gn) xk k630040).1 k630040 Gn xk, if 0 ≤ (oLo (oC5 (sg630039, 0) (nI Gn) xk k630040).1 k630040 Gn xk).1 4 k630040 then (oC5 (sg630039, 0) (nI Gn) xk k630040).2 else (oC5 (sg630039, 0) (nI Gn) xk k630040).2 + 1) := oC4_lo hGn htO630046
              have hp9 : ¬ 0 ≤ (oLo (oC5 (sg630039, 0) (nI Gn) xk k630040).1 k630040 Gn xk).1 4 k630040 := by rw [← esg630053, ← sx630055, c630056]; decide
              have ho9 : oC5 (sg630039, 0) (nI Gn) xk (k630040 + 1) = (sg630053, v630059) := by rw [ho8, if_neg hp9, ← esg630053, ev630059, ← hiv630040]
              exact ih630040 (k630040 + 1) _ _ _ _ _ _ _ (by omega) (by rw [ho9]) (by rw [ho9]; exact hE) hP hD hS (lv_sub hl [0, 1, 3, 4, 5] rfl)
      exact hLP630040 4 0 _ _ _ _ _ _ _ rfl (rfl) hE hP hD hS (lv_sub hl [0, 1, 2, 3, 4] rfl)
    · have kc630031 : ¬ (0 ≤ xk.toInt) := by have h9 := c630031; rw [xk_le, xk_0] at h9; exact h9
      refine lv_iconst (v := (-1)) hx hb dX5_crash_15 (by decide) ?_
      have e9 : qCr σ xn xk = (σ, (-1)) := by unfold qCr; rw [if_neg (fun z => c630030 (by rw [hr630029, sx630028]; exact (sp_iu_cnB hB).mp z)), if_pos (by rw [xk_lt, xk_0]; omega)]
      have hk9 : kxo σ = (kxo σ) := rfl
      exact W.iret (v := (-1)) hx hb hr (fun t ht hW => ⟨⟨(-1), (I, Q, J), rfl, ⟨by show REP v pa ra L K N T I Q J (kxo (qCr σ xn xk).1) (qCr σ xn xk).1; rw [e9]; show REP v pa ra L K N T I Q J (kxo σ) σ; rw [hk9]; exact hE, by show _ = _; rw [e9]⟩, by rw [ht]; exact hP, va_K.moved hW.alike hK, hD⟩, hS.F ht⟩) hS.2.2 dX5_crash_16
