section XK
variable {u : Int32} {σ σ' : SG} {p j k : Nat} {E : Int}
theorem oT1_acc {c : Int32} {n : Nat} (s : SG × Int32) : oT1 (s.1, c + s.2) p n = ((oT1 s p n).1, c + (oT1 s p n).2) := by
  unfold oT1
  by_cases h1 : (s.1.1 7 p >>> (nI n &&& 31)) &&& 1 = 0
  · rw [if_pos h1, if_pos h1]
  · rw [if_neg h1, if_neg h1]
    by_cases h2 : nI n = s.1.1 4 p
    · rw [if_pos h2, if_pos h2]
    · rw [if_neg h2, if_neg h2]
      by_cases h3 : 10 < s.1.1 0 1 - s.1.2.1 (5 * p + n) 6
      · rw [if_pos h3, if_pos h3]
        refine Prod.ext rfl ?_
        show c + s.2 + 1 = c + (s.2 + 1)
        rw [Int32.add_assoc]
      · rw [if_neg h3, if_neg h3]
theorem oT2_acc {c : Int32} : ∀ n, oT2 (σ, c) p n = ((oT2 (σ, 0) p n).1, c + (oT2 (σ, 0) p n).2) := by
  intro n
  induction n with
  | zero => show (σ, c) = (σ, c + 0); rw [Int32.add_zero]
  | succ n ih =>
    show oT1 (oT2 (σ, c) p n) p n = ((oT1 (oT2 (σ, 0) p n) p n).1, c + (oT1 (oT2 (σ, 0) p n) p n).2)
    rw [ih]
    exact oT1_acc (oT2 (σ, 0) p n)
theorem oT3_no {s : SG × Int32} (h : s.1.1 2 p = 0) : oT3 s p = s := if_pos h
theorem oT3_dl {s : SG × Int32} (h : ¬ s.1.1 2 p = 0) : oT3 s p = ((oDl s.1 p).1, s.2 + (oDl s.1 p).2) := by
  unfold oT3
  rw [if_neg h]
  obtain ⟨τ, c⟩ := s
  cases ho : oOw τ p with
  | none =>
    show (τ, c) = ((oDl τ p).1, c + (oDl τ p).2)
    rw [oDl_no ho]
    show (τ, c) = (τ, c + 0)
    rw [Int32.add_zero]
  | some j =>
    show (oRi (oT2 (τ, c) p 5).1 p, (oT2 (τ, c) p 5).2) = ((oDl τ p).1, c + (oDl τ p).2)
    rw [oDl_s ho]
    show (oRi (oT2 (τ, c) p 5).1 p, (oT2 (τ, c) p 5).2) = (oRi (oT2 (τ, 0) p 5).1 p, c + (oT2 (τ, 0) p 5).2)
    rw [oT2_acc (c := c)]
theorem oDl_fr (σ : SG) (p : Nat) : (∀ i q, ¬ (i = 7 ∧ q = p) → (oDl σ p).1.1 i q = σ.1 i q) ∧ ∀ i f, ¬ f = 3 → (oDl σ p).1.2.1 i f = σ.2.1 i f := by
  cases ho : oOw σ p with
  | none => rw [oDl_no ho]; exact ⟨fun _ _ _ => rfl, fun _ _ _ => rfl⟩
  | some j =>
    rw [oDl_s ho]
    obtain ⟨a, b, _⟩ := oT2_fr (σ, 0) p 5
    refine ⟨fun i q h => ?_, fun i f h => ?_⟩
    · show (oRi (oT2 (σ, 0) p 5).1 p).1 i q = _
      rw [oRi_1]; exact b i q h
    · show (oRi (oT2 (σ, 0) p 5).1 p).2.1 i f = _
      rw [oRi_g h, a]
theorem oT4_fr (s : SG × Int32) : ∀ k, (∀ i q, ¬ i = 7 → (oT4 s k).1.1 i q = s.1.1 i q) ∧ ∀ i f, ¬ f = 3 → (oT4 s k).1.2.1 i f = s.1.2.1 i f := by
  intro k
  induction k with
  | zero => exact ⟨fun _ _ _ => rfl, fun _ _ _ => rfl⟩
  | succ k ih =>
    show (∀ i q, ¬ i = 7 → (oT3 (oT4 s k) k).1.1 i q = s.1.1 i q) ∧ ∀ i f, ¬ f = 3 → (oT3 (oT4 s k) k).1.2.1 i f = s.1.2.1 i f
    by_cases h : (oT4 s k).1.1 2 k = 0
    · rw [oT3_no h]; exact ih
    · rw [oT3_dl h]
      obtain ⟨a, b⟩ := oDl_fr (oT4 s k).1 k
      exact ⟨fun i q hi => (a i q (fun z => hi z.1)).trans (ih.1 i q hi), fun i f hf => (b i f hf).trans (ih.2 i f hf)⟩
theorem SK.dlh (h : SK σ) (hp : p < 4) (ht : ¬ σ.1 2 p = 0) (hA : ∀ m, m < 5 → LN (σ.2.1 (5 * p + m))) : RHp (kxo σ) (oT2 (σ, 0) p 5).1 p := by
  obtain ⟨a, b, _⟩ := oT2_fr (σ, 0) p 5
  have h1 := oT2_PI (s := (σ, 0)) (h.1 p hp)
  have e0 : (oT2 (σ, 0) p 5).1.1 0 0 = σ.1 0 0 := b 0 0 (by omega)
  rw [← e0] at h1
  have e1 : kxo (oT2 (σ, 0) p 5).1 = kxo σ := kxo_c e0 (fun q => b 4 q (by omega))
  rw [← e1]
  exact h1.rh (by rw [b 2 p (by omega)]; exact ht) (fun m hm => by rw [a]; exact hA m hm)
end XK
set_option maxHeartbeats 4000000 in
set_option maxRecDepth 100000 in
/-- tick, exactly -/
theorem g_X5_tick (l : Launch) (dC : Nat → ClassId) (dI : Nat → Nat → Nat) (cy : Nat → ClassId) (v : Nat → Nat) (L : List Nat) (K N : Nat → Nat) (T : Nat → Nat → Nat) (I : Nat → Nat → Int32) (Q : Nat → Nat → Option Nat) (J : Nat → Nat → Int32) (sz : Nat) (pa ra : Nat → Nat) (kx : Nat → Prop) (σ : SG) (E : Int) (xn : Int32) (hE : REP v pa ra L K N T I Q J kx σ) (hkx : kx = kxo σ) (hSK : SK σ) (hLA : LA E σ) (hE9 : E < 1900) (hB : B5 (σ.1 0 0)) : Met l yX5_tick wsX5_tick ({ frames := 4, cells := 0, slots := 0, locals := 90 }) (va_Pc [.ref (v 0), .int xn] (pW dC dI cy L (pF cy K N T I Q J) sz)) (va_Qi (fun (r : Int32) (d : (Nat → Nat → Int32) × (Nat → Nat → Option Nat) × (Nat → Nat → Int32)) => (REP v pa ra L K N T d.1 d.2.1 d.2.2 (kxo (qTk σ xn).1) (qTk σ xn).1) ∧ r = (qTk σ xn).2) (fun (d : (Nat → Nat → Int32) × (Nat → Nat → Option Nat) × (Nat → Nat → Int32)) t => va_P (dC, dI) vwCl (va_pl L (pF cy K N T d.1 d.2.1 d.2.2)) t.heap ∧ va_K (dC, dI) vwCl (pTy cy) t ∧ va_D (va_A (va_pl L (pF cy K N T I Q J)) sz) (va_pl L (pF cy K N T d.1 d.2.1 d.2.2))) (va_A (va_pl L (pF cy K N T I Q J)) sz)) 0 0 (va_A (va_pl L (pF cy K N T I Q J)) sz) := by
  refine Met.ofW (cc := cX5_tick) (maxL := 5) (ret := (some .int)) (by decide) rfl ?_
  intro p e s m args below meth c s₁ B hml hv
  obtain ⟨rfl, hsz, ⟨hP, hK, hN⟩, hD0⟩ := hv
  have hx := B.exec
  have hb := B.bytes
  have hr := B.returns
  have hts := atoms_spec (ws := wsX5_tick) B.pre
  have hown : s.vm.findClass RX5 = some m.cls := findClass_of_methodNamed B.named
  have hlocks := B.notSynchronized
  have hi5 : ∀ w ∈ wsX50, w ∈ wsX5_tick := by decide +kernel
  have hl := lv_entry ([.ref (v 0), .int xn]) (n := 5) (Nat.le_of_ble_eq_true rfl)
  rw [lg_entry_eq]
  generalize (lg_sl ([.ref (v 0), .int xn]) ++ List.replicate (5 - (lg_sl ([.ref (v 0), .int xn])).length) Slot.unset).toArray = ls at hl ⊢
  have hl : lv_has ls 5 [(0, .ref (v 0)), (1, .int xn)] := hl
  subst hsz
  have hD := hD0.self (sz := s.heap.size)
  generalize hAe : va_A (va_pl L (pF cy K N T I Q J)) s.heap.size = A at hD ⊢
  have hA : ∀ q : Nat, s.heap.size ≤ q → A q := fun q h => by rw [← hAe]; exact Or.inr h
  have hS : va_S A s.heap s.heap [] := va_S.rf
  have hR : RS v I Q J I Q J := RS.rf
  have hn28 := hN.1
  have hn30 := hN.2.1
  have hn37 := hN.2.2.1
  have hC := hE.ct
  subst hkx
  refine lv_iload_n hx hb dX5_tick_0 rfl (lv_at hl 1 rfl) ?_
  refine lv_iconst (v := 1) hx hb dX5_tick_1 (by decide) ?_
  refine lv_icmp_lt (tgt := 11) hx hb dX5_tick_2 (by decide) (fun c630001 => ?_) (fun c630001 => ?_)
  · have kc630001 : xn.toInt < 1 := by have h9 := c630001; rw [xk_lt, xk_1] at h9; exact h9
    refine lv_iconst (v := (-1)) hx hb dX5_tick_11 (by decide) ?_
    have e9 : qTk σ xn = (σ, (-1)) := by unfold qTk; rw [if_pos (sp_inl_no (i := 1) (j := 50) (by decide) (by decide) (by omega))]
    have hk9 : kxo σ = (kxo σ) := rfl
    exact W.iret (v := (-1)) hx hb hr (fun t ht hW => ⟨⟨(-1), (I, Q, J), rfl, ⟨by show REP v pa ra L K N T I Q J (kxo (qTk σ xn).1) (qTk σ xn).1; rw [e9]; show REP v pa ra L K N T I Q J (kxo σ) σ; rw [hk9]; exact hE, by show _ = _; rw [e9]⟩, by rw [ht]; exact hP, va_K.moved hW.alike hK, hD⟩, hS.F ht⟩) hS.2.2 dX5_tick_12
  · have kc630001 : ¬ (xn.toInt < 1) := by have h9 := c630001; rw [xk_lt, xk_1] at h9; exact h9
    refine lv_iload_n hx hb dX5_tick_5 rfl (lv_at hl 1 rfl) ?_
    refine lv_bipush (v := 50) hx hb dX5_tick_6 (by decide) ?_
    refine lv_icmp_le (tgt := 13) hx hb dX5_tick_8 (by decide) (fun c630002 => ?_) (fun c630002 => ?_)
    · have kc630002 : xn.toInt ≤ 50 := by have h9 := c630002; rw [xk_le, xk_50] at h9; exact h9
      refine lv_aload_n hx hb dX5_tick_13 rfl (lv_at hl 0 rfl) ?_
      refine lv_dup hx hb dX5_tick_14 rfl ?_
      obtain ⟨j630003, hj630003⟩ := pG_5 (cy := cy) (N := N) (T := T) (I := I) (Q := Q) (J := J) (hC.at 0 (by decide)) (hC.k 0 (by decide) rfl)
      refine va_get (D := (dC, dI)) (ci := 5) (v := .int (I (v 0) 4)) (C := RX5) (T := TX5) (N := 6) hx hb hts hi5 hown hK hP j630003 hj630003 rfl 4 (by decide) (hts (.fieldLink RX5 31 "TallyLogs" "now" "I") (by decide +kernel)) (fun _ h9 => h9) rfl dX5_tick_15 ?_
      refine lv_topi (fun x630004 ex630004 => ?_)
      have sx630004 : x630004 = σ.1 0 1 := ex630004.trans hE.nw
      refine lv_iload_n hx hb dX5_tick_18 rfl (lv_at hl 1 rfl) ?_
      refine lv_iadd hx hb dX5_tick_19 ?_
      refine lv_topi (fun v630005 ev630005 => ?_)
      obtain ⟨j630006, hj630006⟩ := pG_5 (cy := cy) (N := N) (T := T) (I := I) (Q := Q) (J := J) (hC.at 0 (by decide)) (hC.k 0 (by decide) rfl)
      have hDo := hD
      refine va_put (D := (dC, dI)) (ci := 5) (v := .int v630005) (ty := .int) (C := RX5) (T := TX5) (N := 6) hx hb hts hi5 tyX5 tyX5_ok nmX5 hown hK hP hD hS j630006 hj630006 rfl 4 (by decide) (hts (.fieldLink RX5 31 "TallyLogs" "now" "I") (by decide +kernel)) (fun _ h9 => h9) rfl (by decide +kernel) rfl rfl (Nat.le_of_ble_eq_true rfl) dX5_tick_20 (fun H locs hP hD hS => ?_)
      have hP := Eq.mp (congrArg (fun w => va_P (dC, dI) vwCl w H) (pP_5_4 (x := v630005) hDo (hC.at 0 (by decide)) (hC.k 0 (by decide) rfl) hj630006)) hP
      obtain ⟨I630007, eI630007⟩ : ∃ z, z = p2 I (v 0) 4 v630005 := ⟨_, rfl⟩
      rw [← eI630007] at hP
      have hR : RS v I630007 Q J I630007 Q J := RS.rf
      obtain ⟨sg630008, esg630008⟩ : ∃ z, z = sA σ 0 1 v630005 := ⟨_, rfl⟩
      have hE : REP v pa ra L K N T I630007 Q J (kxo σ) sg630008 := by rw [esg630008, eI630007]; exact hE.wo (f := 1) (by decide)
      have hC : CT v L K N T I630007 Q := by rw [eI630007]; exact hC.pi (by rw [(hC.k 0 (by decide) rfl)]; decide)
      have hD : va_D A (va_pl L (pF cy K N T I630007 Q J)) := pD hDo
      refine lv_iconst (v := 0) hx hb dX5_tick_23 (by decide) ?_
      refine lv_istore_n (lv' := [(2, .int 0), (0, .ref (v 0)), (1, .int xn)]) hx hb dX5_tick_24 rfl hl (by decide) rfl (fun ls hl => ?_)
      refine lv_iconst (v := 0) hx hb dX5_tick_25 (by decide) ?_
      refine lv_istore_n (lv' := [(3, .int 0), (2, .int 0), (0, .ref (v 0)), (1, .int xn)]) hx hb dX5_tick_26 rfl hl (by decide) rfl (fun ls hl => ?_)
      have hSKt : SK sg630008 := by rw [esg630008]; exact hSK.a (by omega) (by decide)
      refine wq_gen (fun Qz hQz => ?_)
      have hLP630009 : ∀ (n k630009 : Nat) (y630010 : Int32) (Ia630009 : Nat → Nat → Int32) (Qa630009 : Nat → Nat → Option Nat) (Ja630009 : Nat → Nat → Int32) (H : Heap) (locs : List Loc) (ls : Array Slot), k630009 + n = 4 → (y630010 = (oT4 (sg630008, 0) k630009).2) → REP v pa ra L K N T Ia630009 Qa630009 Ja630009 (kxo σ) ((oT4 (sg630008, 0) k630009).1) → va_P (dC, dI) vwCl (va_pl L (pF cy K N T Ia630009 Qa630009 Ja630009)) H → va_D A (va_pl L (pF cy K N T Ia630009 Qa630009 Ja630009)) → va_S A s.heap H locs → lv_has ls 5 [(3, .int (nI k630009)), (2, .int y630010), (0, .ref (v 0)), (1, .int xn)] → W p l e (headSpec wsX5_tick ({ frames := 4, cells := 0, slots := 0, locals := 90 })).room s m ([.ref (v 0), .int xn] : List Value).toArray below meth c H locs 0 0 Qz (F0 m 27 ls []) := by
        intro n
        induction n with
        | zero =>
          intro k630009 y630010 Ia630009 Qa630009 Ja630009 H locs ls hkn630009 hiv630009 hE hP hD hS hl
          have hkN630009 : k630009 = 4 := by omega
          have hC := hE.ct
          have hR : RS v Ia630009 Qa630009 Ja630009 Ia630009 Qa630009 Ja630009 := RS.rf
          have hfr : (∀ i q, ¬ i = 7 → (oT4 (sg630008, 0) k630009).1.1 i q = sg630008.1 i q) ∧ ∀ i f, ¬ f = 3 → (oT4 (sg630008, 0) k630009).1.2.1 i f = sg630008.2.1 i f := oT4_fr (sg630008, 0) k630009
          have hSKk : SK (oT4 (sg630008, 0) k630009).1 := SK.t4 (s := (sg630008, 0)) hSKt k630009 (by omega)
          have hLk : ∀ q, q < 20 → LN ((oT4 (sg630008, 0) k630009).1.2.1 q) := fun q hq => by have h9 := (hLA q hq).ln (by omega); unfold LN at h9 ⊢; rw [hfr.2 q 1 (by decide), hfr.2 q 2 (by decide), esg630008, sA_2]; exact h9
          have hkk : kxo (oT4 (sg630008, 0) k630009).1 = kxo σ := kxo_c (by rw [hfr.1 0 0 (by decide), esg630008, sA_q (by omega)]) (fun q => by rw [hfr.1 4 q (by decide), esg630008, sA_q (by omega)])
          refine lv_iload_n hx hb dX5_tick_27 rfl (lv_at hl 0 rfl) ?_
          refine lv_iconst (v := 4) hx hb dX5_tick_28 (by decide) ?_
          refine lv_icmp_ge (tgt := 63) hx hb dX5_tick_29 (by decide) (fun c630011 => ?_) (fun c630011 => ?_)
          rotate_left
          · exact absurd (by rw [hkN630009]; decide) c630011
          refine lv_iload_n hx hb dX5_tick_63 rfl (lv_at hl 1 rfl) ?_
          rw [hQz]
          have e9 : qTk σ xn = ((oT4 (sg630008, 0) k630009).1, y630010) := by have h4 : oT4 (sg630008, 0) 4 = oT4 (sg630008, 0) k630009 := (by rw [hkN630009]); unfold qTk; rw [if_neg (sp_inl_yes (i := 1) (j := 50) (by decide) (by decide) (by omega)), ← sx630004, ← ev630005, ← esg630008, h4]; exact Prod.ext rfl hiv630009.symm
          have hk9 : kxo (oT4 (sg630008, 0) k630009).1 = (kxo σ) := hkk
          exact W.iret (v := y630010) hx hb hr (fun t ht hW => ⟨⟨y630010, (Ia630009, Qa630009, Ja630009), rfl, ⟨by show REP v pa ra L K N T Ia630009 Qa630009 Ja630009 (kxo (qTk σ xn).1) (qTk σ xn).1; rw [e9]; show REP v pa ra L K N T Ia630009 Qa630009 Ja630009 (kxo (oT4 (sg630008, 0) k630009).1) (oT4 (sg630008, 0) k630009).1; rw [hk9]; exact hE, by show _ = _; rw [e9]⟩, by rw [ht]; exact hP, va_K.moved hW.alike hK, hD⟩, hS.F ht⟩) hS.2.2 dX5_tick_64
        | succ n ih630009 =>
          intro k630009 y630010 Ia630009 Qa630009 Ja630009 H locs ls hkn630009 hiv630009 hE hP hD hS hl
          have hk9630009 : k630009 < 4 := by omega
          have hkc630009 : (nI k630009).toNatClampNeg = k630009 := nI_clamp (by omega)
          have hki630009 : vp_in (nI k630009) 4 := nI_in (by omega) (by decide)
          have hC := hE.ct
          have hR : RS v Ia630009 Qa630009 Ja630009 Ia630009 Qa630009 Ja630009 := RS.rf
          have hfr : (∀ i q, ¬ i = 7 → (oT4 (sg630008, 0) k630009).1.1 i q = sg630008.1 i q) ∧ ∀ i f, ¬ f = 3 → (oT4 (sg630008, 0) k630009).1.2.1 i f = sg630008.2.1 i f := oT4_fr (sg630008, 0) k630009
          have hSKk : SK (oT4 (sg630008, 0) k630009).1 := SK.t4 (s := (sg630008, 0)) hSKt k630009 (by omega)
          have hLk : ∀ q, q < 20 → LN ((oT4 (sg630008, 0) k630009).1.2.1 q) := fun q hq => by have h9 := (hLA q hq).ln (by omega); unfold LN at h9 ⊢; rw [hfr.2 q 1 (by decide), hfr.2 q 2 (by decide), esg630008, sA_2]; exact h9
          have hkk : kxo (oT4 (sg630008, 0) k630009).1 = kxo σ := kxo_c (by rw [hfr.1 0 0 (by decide), esg630008, sA_q (by omega)]) (fun q => by rw [hfr.1 4 q (by decide), esg630008, sA_q (by omega)])
          refine lv_iload_n hx hb dX5_tick_27 rfl (lv_at hl 0 rfl) ?_
          refine lv_iconst (v := 4) hx hb dX5_tick_28 (by decide) ?_
          refine lv_icmp_ge (tgt := 63) hx hb dX5_tick_29 (by decide) (fun c630012 => ?_) (fun c630012 => ?_)
          · exact absurd c630012 (nI_ge (b := 4) (by omega) (by decide))
          refine lv_aload_n hx hb dX5_tick_32 rfl (lv_at hl 2 rfl) ?_
          obtain ⟨j630013, hj630013⟩ := pG_5 (cy := cy) (N := N) (T := T) (I := Ia630009) (Q := Qa630009) (J := Ja630009) (hC.at 0 (by decide)) (hC.k 0 (by decide) rfl)
          refine va_get (D := (dC, dI)) (ci := 5) (v := .ref (T (v 0) 0)) (C := RX5) (T := TX5) (N := 6) hx hb hts hi5 hown hK hP j630013 hj630013 rfl 0 (by decide) (hts (.fieldLink RX5 11 "TallyLogs" "partitions" "[LTallyLogs$Partition;") (by decide +kernel)) (fun _ h9 => h9) rfl dX5_tick_33 ?_
          refine W.eq (g2 := F0 m 36 ls [.ref (v 1)]) (by rw [hC.1.2.2.1.1]) ?_
          refine lv_iload_n hx hb dX5_tick_36 rfl (lv_at hl 0 rfl) ?_
          by_cases hth630015 : ((oT4 (sg630008, 0) k630009).1).1 2 k630009 = 0
          · have hq630015 : Qa630009 (v 1) (nI k630009).toNatClampNeg = none := by rw [hkc630009]; exact (hE.pt k630009 hk9630009).1 hth630015
            obtain ⟨j630016, hj630016⟩ := pG_10 (cy := cy) (N := N) (T := T) (I := Ia630009) (Q := Qa630009) (J := Ja630009) (hC.at 1 (by decide)) (hC.k 1 (by decide) rfl)
            refine va_aldq hx hb hK hP j630016 3 hj630016 rfl hki630009 dX5_tick_37 ?_
            refine W.eq (g2 := F0 m 38 ls [.null]) (by rw [hq630015]; rfl) ?_
            refine lv_astoreN (lv' := [(4, .null), (3, .int (nI k630009)), (2, .int y630010), (0, .ref (v 0)), (1, .int xn)]) hx hb dX5_tick_38 hl (by decide) rfl (fun ls hl => ?_)
            refine lv_aloadN hx hb dX5_tick_40 (lv_at hl 0 rfl) ?_
            refine lv_ifnullN (tgt := 57) hx hb dX5_tick_42 (by decide) ?_
            obtain ⟨v630017, ev630017⟩ : ∃ y : Int32, y = (nI k630009) + Int32.ofInt 1 := ⟨_, rfl⟩
            refine lv_iinc (v := v630017) (lv' := [(3, .int v630017), (4, .null), (2, .int y630010), (0, .ref (v 0)), (1, .int xn)]) hx hb dX5_tick_57 hl (k := 1) rfl ev630017.symm (by decide) rfl (fun ls hl => ?_)
            refine lv_goto (tgt := 27) hx hb dX5_tick_60 (by decide) ?_
            obtain rfl : v630017 = nI (k630009 + 1) := ev630017.trans (nI_add k630009 1)
            have ho9 : oT4 (sg630008, 0) (k630009 + 1) = oT4 (sg630008, 0) k630009 := oT3_no hth630015
            exact ih630009 (k630009 + 1) _ _ _ _ _ _ _ (by omega) (by rw [ho9]; exact hiv630009) (by rw [ho9]; exact hE) hP hD hS (lv_sub hl [0, 2, 3, 4] rfl)
          · have hq630015 : Qa630009 (v 1) (nI k630009).toNatClampNeg = some (pa k630009) := by rw [hkc630009]; exact hE.pq hk9630009 hth630015
            have htO630015 := hth630015
            obtain ⟨j630018, hj630018⟩ := pG_10 (cy := cy) (N := N) (T := T) (I := Ia630009) (Q := Qa630009) (J := Ja630009) (hC.at 1 (by decide)) (hC.k 1 (by decide) rfl)
            refine va_aldq hx hb hK hP j630018 3 hj630018 rfl hki630009 dX5_tick_37 ?_
            refine W.eq (g2 := F0 m 38 ls [.ref (pa k630009)]) (by rw [hq630015]; rfl) ?_
            refine lv_astore (lv' := [(4, .ref (pa k630009)), (3, .int (nI k630009)), (2, .int y630010), (0, .ref (v 0)), (1, .int xn)]) hx hb dX5_tick_38 hl (by decide) rfl (fun ls hl => ?_)
            refine lv_aload hx hb dX5_tick_40 (lv_at hl 0 rfl) ?_
            refine lv_ifnull hx hb dX5_tick_42 ?_
            refine lv_iload_n hx hb dX5_tick_45 rfl (lv_at hl 2 rfl) ?_
            refine lv_aload hx hb dX5_tick_46 (lv_at hl 0 rfl) ?_
            refine lv_aload_n hx hb dX5_tick_48 rfl (lv_at hl 3 rfl) ?_
            obtain ⟨j630019, hj630019⟩ := pG_5 (cy := cy) (N := N) (T := T) (I := Ia630009) (Q := Qa630009) (J := Ja630009) (hC.at 0 (by decide)) (hC.k 0 (by decide) rfl)
            refine va_get (D := (dC, dI)) (ci := 5) (v := .int (Ia630009 (v 0) 4)) (C := RX5) (T := TX5) (N := 6) hx hb hts hi5 hown hK hP j630019 hj630019 rfl 4 (by decide) (hts (.fieldLink RX5 31 "TallyLogs" "now" "I") (by decide +kernel)) (fun _ h9 => h9) rfl dX5_tick_49 ?_
            refine lv_topi (fun x630020 ex630020 => ?_)
            have sx630020 : x630020 = ((oT4 (sg630008, 0) k630009).1).1 0 1 := ex630020.trans hE.nw
            obtain ⟨j630021, hj630021⟩ := pG_2 (cy := cy) (N := N) (T := T) (I := Ia630009) (Q := Qa630009) (J := Ja630009) (hE.pL hk9630009 hth630015).1 (hE.pL hk9630009 hth630015).2
            have hFc := pfree hD hS hA
            refine va_calli (va_runV (As := [.int x630020]) (rest := [.int y630010]) ⟨hx, hb, hml, hown, hts⟩ (g_X2_dropLate l dC dI cy v L K N T Ia630009 Qa630009 Ja630009 H.size pa ra (kxo σ) ((oT4 (sg630008, 0) k630009).1) k630009 x630020 hE hk9630009 hth630015 sx630020 ((hSKk.1 k630009 hk9630009).pl hth630015) ((hSKk.1 k630009 hk9630009).2 hth630015).2.1 (fun _ => by rw [← hkk]; exact hSKk.dlh hk9630009 hth630015 (fun m hm => hLk (5 * k630009 + m) (by omega)))) (cwV 1 hts gX5_tick_X2_dropLate rfl rfl rfl (by decide +kernel) ⟨Nat.le_of_ble_eq_true rfl, Nat.le_of_ble_eq_true rfl⟩) ⟨pw_blind, va_recv hK hP (ci := 2) (q0 := j630021) rfl hj630021, fun U hU hW => ⟨rfl, pw_pre hP hK hN hD hU hW⟩⟩ rfl rfl hl.1 rfl (lv_room (Nat.le_of_ble_eq_true rfl)) dX5_tick_52 ⟨Nat.le_of_ble_eq_true rfl, Nat.le_of_ble_eq_true rfl⟩) hS (fun q _ h => hFc q h) hFc (fun r630023 d9 t H1 locs ht hvm hw hB hz1 hk1 hS => ?_)
            obtain ⟨I630022, Q630022, J630022⟩ := d9
            have hr630023 := hw.2
            have hw := hw.1
            obtain ⟨hP, hK1, hD1⟩ := hB
            rw [ht] at hP
            have hD := hD1.weaken (fun _ _ _ h => hFc _ h)
            generalize H1 = H at hP hS ⊢
            have hP : va_P (dC, dI) vwCl (va_pl L (pF cy K N T I630022 Q630022 J630022)) H := hP
            have hD : va_D A (va_pl L (pF cy K N T I630022 Q630022 J630022)) := hD
            have hR : RS v I630022 Q630022 J630022 I630022 Q630022 J630022 := RS.rf
            obtain ⟨sg630024, esg630024⟩ : ∃ z, z = (oDl ((oT4 (sg630008, 0) k630009).1) k630009).1 := ⟨_, rfl⟩
            have hE : REP v pa ra L K N T I630022 Q630022 J630022 (kxo σ) sg630024 := by rw [esg630024]; exact hw
            have hC := hE.ct
            refine lv_iadd hx hb dX5_tick_55 ?_
            refine lv_topi (fun v630025 ev630025 => ?_)
            refine lv_istore_n (lv' := [(2, .int v630025), (4, .ref (pa k630009)), (3, .int (nI k630009)), (0, .ref (v 0)), (1, .int xn)]) hx hb dX5_tick_56 rfl hl (by decide) rfl (fun ls hl => ?_)
            obtain ⟨v630026, ev630026⟩ : ∃ y : Int32, y = (nI k630009) + Int32.ofInt 1 := ⟨_, rfl⟩
            refine lv_iinc (v := v630026) (lv' := [(3, .int v630026), (2, .int v630025), (4, .ref (pa k630009)), (0, .ref (v 0)), (1, .int xn)]) hx hb dX5_tick_57 hl (k := 2) rfl ev630026.symm (by decide) rfl (fun ls hl => ?_)
            refine lv_goto (tgt := 27) hx hb dX5_tick_60 (by decide) ?_
            obtain rfl : v630026 = nI (k630009 + 1) := ev630026.trans (nI_add k630009 1)
            have ho9 : oT4 (sg630008, 0) (k630009 + 1) = (sg630024, v630025) := by show oT3 (oT4 (sg630008, 0) k630009) k630009 = _; rw [oT3_dl htO630015, ← esg630024, ev630025, hr630023, hiv630009]
            exact ih630009 (k630009 + 1) _ _ _ _ _ _ _ (by omega) (by rw [ho9]) (by rw [ho9]; exact hE) hP hD hS (lv_sub hl [0, 1, 3, 4] rfl)
      exact hLP630009 4 0 _ _ _ _ _ _ _ rfl (rfl) hE hP hD hS (lv_sub hl [0, 1, 2, 3] rfl)
    · have kc630002 : ¬ (xn.toInt ≤ 50) := by have h9 := c630002; rw [xk_le, xk_50] at h9; exact h9
      refine lv_iconst (v := (-1)) hx hb dX5_tick_11 (by decide) ?_
      have e9 : qTk σ xn = (σ, (-1)) := by unfold qTk; rw [if_pos (sp_inl_no (i := 1) (j := 50) (by decide) (by decide) (by omega))]
      have hk9 : kxo σ = (kxo σ) := rfl
      exact W.iret (v := (-1)) hx hb hr (fun t ht hW => ⟨⟨(-1), (I, Q, J), rfl, ⟨by show REP v pa ra L K N T I Q J (kxo (qTk σ xn).1) (qTk σ xn).1; rw [e9]; show REP v pa ra L K N T I Q J (kxo σ) σ; rw [hk9]; exact hE, by show _ = _; rw [e9]⟩, by rw [ht]; exact hP, va_K.moved hW.alike hK, hD⟩, hS.F ht⟩) hS.2.2 dX5_tick_12
