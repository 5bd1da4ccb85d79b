set_option maxHeartbeats 4000000 in
set_option maxRecDepth 100000 in
/-- Partition.putLeader, exactly -/
theorem g_X2_putLeader (l : Launch) (dC : Nat → ClassId) (dI : Nat → Nat → Nat) (cy : Nat → ClassId) (v : Nat → Nat) (L : List Nat) (K N : Nat → Nat) (T : Nat → Nat → Nat) (I : Nat → Nat → Int32) (Q : Nat → Nat → Option Nat) (J : Nat → Nat → Int32) (sz : Nat) (pa ra : Nat → Nat) (kx : Nat → Prop) (σ : SG) (Gp Gm : Nat) (nx nw : Int32) (kx' : Nat → Prop) (hE : REP v pa ra L K N T I Q J kx σ) (hp : Gp < 4) (ht9 : ¬ σ.1 2 Gp = 0) (hm : Gm < 5) (hnx : nx = nI Gm) (hk1 : ∀ i, ¬ i / 5 = Gp → kx i → kx' i) (hk2 : kx' (5 * Gp + Gm)) (hRH : RHp kx' (oPl σ Gp nx nw) Gp) : Met l yX2_putLeader wsX2_putLeader ({ frames := 3, cells := 0, slots := 0, locals := 66 }) (va_Pc [.ref (pa Gp), .int nx, .int nw] (pW dC dI cy L (pF cy K N T I Q J) sz)) (va_Qv (fun d : (Nat → Nat → Int32) × (Nat → Nat → Option Nat) × (Nat → Nat → Int32) => REP v pa ra L K N T d.1 d.2.1 d.2.2 kx' (oRi (oPl σ Gp nx nw) Gp)) (fun (d : (Nat → Nat → Int32) × (Nat → Nat → Option Nat) × (Nat → Nat → Int32)) t => va_P (dC, dI) vwCl (va_pl L (pF cy K N T d.1 d.2.1 d.2.2)) t.heap ∧ va_K (dC, dI) vwCl (pTy cy) t ∧ va_D (va_A (va_pl L (pF cy K N T I Q J)) sz) (va_pl L (pF cy K N T d.1 d.2.1 d.2.2))) (va_A (va_pl L (pF cy K N T I Q J)) sz)) 0 0 (va_A (va_pl L (pF cy K N T I Q J)) sz) := by
  refine Met.ofW (cc := cX2_putLeader) (maxL := 5) (ret := none) (by decide) rfl ?_
  intro p e s m args below meth c s₁ B hml hv
  obtain ⟨rfl, hsz, ⟨hP, hK, hN⟩, hD0⟩ := hv
  have hx := B.exec
  have hb := B.bytes
  have hr := B.returns
  have hts := atoms_spec (ws := wsX2_putLeader) B.pre
  have hown : s.vm.findClass RX2 = some m.cls := findClass_of_methodNamed B.named
  have hlocks := B.notSynchronized
  have hi2 : ∀ w ∈ wsX20, w ∈ wsX2_putLeader := by decide +kernel
  have hi4 : ∀ w ∈ wsX40, w ∈ wsX2_putLeader := by decide +kernel
  have hl := lv_entry ([.ref (pa Gp), .int nx, .int nw]) (n := 5) (Nat.le_of_ble_eq_true rfl)
  rw [lg_entry_eq]
  generalize (lg_sl ([.ref (pa Gp), .int nx, .int nw]) ++ List.replicate (5 - (lg_sl ([.ref (pa Gp), .int nx, .int nw])).length) Slot.unset).toArray = ls at hl ⊢
  have hl : lv_has ls 5 [(0, .ref (pa Gp)), (1, .int nx), (2, .int nw)] := hl
  subst hsz
  have hD := hD0.self (sz := s.heap.size)
  generalize hAe : va_A (va_pl L (pF cy K N T I Q J)) s.heap.size = A at hD ⊢
  have hA : ∀ q : Nat, s.heap.size ≤ q → A q := fun q h => by rw [← hAe]; exact Or.inr h
  have hS : va_S A s.heap s.heap [] := va_S.rf
  have hR : RS v I Q J I Q J := RS.rf
  have hn28 := hN.1
  have hn30 := hN.2.1
  have hn37 := hN.2.2.1
  have hC := hE.ct
  refine lv_aload_n hx hb dX2_putLeader_0 rfl (lv_at hl 0 rfl) ?_
  refine lv_iload_n hx hb dX2_putLeader_1 rfl (lv_at hl 1 rfl) ?_
  obtain ⟨j560048, hj560048⟩ := pG_2 (cy := cy) (N := N) (T := T) (I := I) (Q := Q) (J := J) (hE.pL hp ht9).1 (hE.pL hp ht9).2
  have hDo := hD
  refine va_put (D := (dC, dI)) (ci := 2) (v := .int nx) (ty := .int) (C := RX2) (T := TX2) (N := 6) hx hb hts hi2 tyX2 tyX2_ok nmX2 hown hK hP hD hS j560048 hj560048 rfl 3 (by decide) (hts (.fieldLink RX2 34 "TallyLogs$Partition" "leader" "I") (by decide +kernel)) (fun _ h9 => h9) rfl (by decide +kernel) rfl rfl (Nat.le_of_ble_eq_true rfl) dX2_putLeader_2 (fun H locs hP hD hS => ?_)
  have hP := Eq.mp (congrArg (fun w => va_P (dC, dI) vwCl w H) (pP_2_3 (x := nx) hDo (hE.pL hp ht9).1 (hE.pL hp ht9).2 hj560048)) hP
  obtain ⟨I560049, eI560049⟩ : ∃ z, z = p2 I (pa Gp) 3 nx := ⟨_, rfl⟩
  rw [← eI560049] at hP
  have hR : RS v I560049 Q J I560049 Q J := RS.rf
  obtain ⟨sg560050, esg560050⟩ : ∃ z, z = sA σ 4 Gp nx := ⟨_, rfl⟩
  have hE : REP v pa ra L K N T I560049 Q J kx sg560050 := by rw [esg560050, eI560049]; exact hE.wp hp ht9 (by decide)
  have ht9 : ¬ sg560050.1 2 Gp = 0 := by rw [esg560050, sA_n (by decide)]; exact ht9
  have hC : CT v L K N T I560049 Q := by rw [eI560049]; exact hC.pi (by rw [(hE.pL hp ht9).2]; decide)
  have hD : va_D A (va_pl L (pF cy K N T I560049 Q J)) := pD hDo
  refine lv_aload_n hx hb dX2_putLeader_5 rfl (lv_at hl 0 rfl) ?_
  refine lv_dup hx hb dX2_putLeader_6 rfl ?_
  obtain ⟨j560051, hj560051⟩ := pG_2 (cy := cy) (N := N) (T := T) (I := I560049) (Q := Q) (J := J) (hE.pL hp ht9).1 (hE.pL hp ht9).2
  refine va_get (D := (dC, dI)) (ci := 2) (v := .int (I560049 (pa Gp) 4)) (C := RX2) (T := TX2) (N := 6) hx hb hts hi2 hown hK hP j560051 hj560051 rfl 4 (by decide) (hts (.fieldLink RX2 17 "TallyLogs$Partition" "epoch" "I") (by decide +kernel)) (fun _ h9 => h9) rfl dX2_putLeader_7 ?_
  refine lv_topi (fun x560052 ex560052 => ?_)
  have sx560052 : x560052 = sg560050.1 5 Gp := ex560052.trans ((hE.pt Gp hp).2 ht9).2.1.2.2.2.1
  refine lv_iconst (v := 1) hx hb dX2_putLeader_10 (by decide) ?_
  refine lv_iadd hx hb dX2_putLeader_11 ?_
  refine lv_topi (fun v560053 ev560053 => ?_)
  obtain ⟨j560054, hj560054⟩ := pG_2 (cy := cy) (N := N) (T := T) (I := I560049) (Q := Q) (J := J) (hE.pL hp ht9).1 (hE.pL hp ht9).2
  have hDo := hD
  refine va_put (D := (dC, dI)) (ci := 2) (v := .int v560053) (ty := .int) (C := RX2) (T := TX2) (N := 6) hx hb hts hi2 tyX2 tyX2_ok nmX2 hown hK hP hD hS j560054 hj560054 rfl 4 (by decide) (hts (.fieldLink RX2 17 "TallyLogs$Partition" "epoch" "I") (by decide +kernel)) (fun _ h9 => h9) rfl (by decide +kernel) rfl rfl (Nat.le_of_ble_eq_true rfl) dX2_putLeader_12 (fun H locs hP hD hS => ?_)
  have hP := Eq.mp (congrArg (fun w => va_P (dC, dI) vwCl w H) (pP_2_4 (x := v560053) hDo (hE.pL hp ht9).1 (hE.pL hp ht9).2 hj560054)) hP
  obtain ⟨I560055, eI560055⟩ : ∃ z, z = p2 I560049 (pa Gp) 4 v560053 := ⟨_, rfl⟩
  rw [← eI560055] at hP
  have hR : RS v I560055 Q J I560055 Q J := RS.rf
  obtain ⟨sg560056, esg560056⟩ : ∃ z, z = sA sg560050 5 Gp v560053 := ⟨_, rfl⟩
  have hE : REP v pa ra L K N T I560055 Q J kx sg560056 := by rw [esg560056, eI560055]; exact hE.wp hp ht9 (by decide)
  have ht9 : ¬ sg560056.1 2 Gp = 0 := by rw [esg560056, sA_n (by decide)]; exact ht9
  have hC : CT v L K N T I560055 Q := by rw [eI560055]; exact hC.pi (by rw [(hE.pL hp ht9).2]; decide)
  have hD : va_D A (va_pl L (pF cy K N T I560055 Q J)) := pD hDo
  refine lv_iconst (v := 0) hx hb dX2_putLeader_15 (by decide) ?_
  refine lv_istore_n (lv' := [(3, .int 0), (0, .ref (pa Gp)), (1, .int nx), (2, .int nw)]) hx hb dX2_putLeader_16 rfl hl (by decide) rfl (fun ls hl => ?_)
  have hτ : sg560056 = sA (sA σ 4 Gp nx) 5 Gp (σ.1 5 Gp + 1) := by rw [esg560056, ev560053, sx560052, esg560050, sA_n (by decide)]
  refine wq_gen (fun Qz hQz => ?_)
  have hLP560057 : ∀ (n k560057 : Nat) (Ia560057 : Nat → Nat → Int32) (Qa560057 : Nat → Nat → Option Nat) (Ja560057 : Nat → Nat → Int32) (H : Heap) (locs : List Loc) (ls : Array Slot), k560057 + n = 5 → (True) → REP v pa ra L K N T Ia560057 Qa560057 Ja560057 (fun i => kx' i ∨ (kx i ∧ ¬ (i / 5 = Gp ∧ i % 5 < k560057))) (gTwo sg560056 Gp 5 6 (-1) nw k560057) → va_P (dC, dI) vwCl (va_pl L (pF cy K N T Ia560057 Qa560057 Ja560057)) H → va_D A (va_pl L (pF cy K N T Ia560057 Qa560057 Ja560057)) → va_S A s.heap H locs → lv_has ls 5 [(3, .int (nI k560057)), (0, .ref (pa Gp)), (1, .int nx), (2, .int nw)] → W p l e (headSpec wsX2_putLeader ({ frames := 3, cells := 0, slots := 0, locals := 66 })).room s m ([.ref (pa Gp), .int nx, .int nw] : List Value).toArray below meth c H locs 0 0 Qz (F0 m 17 ls []) := by
    intro n
    induction n with
    | zero =>
      intro k560057  Ia560057 Qa560057 Ja560057 H locs ls hkn560057 hiv560057 hE hP hD hS hl
      have hkN560057 : k560057 = 5 := by omega
      have hC := hE.ct
      have hR : RS v Ia560057 Qa560057 Ja560057 Ia560057 Qa560057 Ja560057 := RS.rf
      have ht9 : ¬ (gTwo sg560056 Gp 5 6 (-1) nw k560057).1 2 Gp = 0 := by rw [gTwo_1]; exact ht9
      have hE : REP v pa ra L K N T Ia560057 Qa560057 Ja560057 kx' (oPl σ Gp nx nw) := by have h9 := hE; rw [hkN560057] at h9; have h9 := h9.km (kx' := kx') (fun i z => z.elim id (fun y => hk1 i (fun e => y.2 ⟨e, Nat.mod_lt _ (by decide)⟩) y.1)); rw [hτ] at h9; exact h9
      have ht9 : ¬ (oPl σ Gp nx nw).1 2 Gp = 0 := by have h8 := ht9; rw [gTwo_1] at h8; unfold oPl; rw [← hτ, gTwo_1]; exact h8
      have hRH9 := hRH
      refine lv_iload_n hx hb dX2_putLeader_17 rfl (lv_at hl 0 rfl) ?_
      refine lv_iconst (v := 5) hx hb dX2_putLeader_18 (by decide) ?_
      refine lv_icmp_ge (tgt := 61) hx hb dX2_putLeader_19 (by decide) (fun c560058 => ?_) (fun c560058 => ?_)
      rotate_left
      · exact absurd (by rw [hkN560057]; decide) c560058
      refine lv_aload_n hx hb dX2_putLeader_61 rfl (lv_at hl 1 rfl) ?_
      obtain ⟨j560059, hj560059⟩ := pG_2 (cy := cy) (N := N) (T := T) (I := Ia560057) (Q := Qa560057) (J := Ja560057) (hE.pL hp ht9).1 (hE.pL hp ht9).2
      have hFc := pfree hD hS hA
      refine va_callv (va_runV (As := []) (rest := []) ⟨hx, hb, hml, hown, hts⟩ (g_X2_raiseHw l dC dI cy v L K N T Ia560057 Qa560057 Ja560057 H.size pa ra kx' (oPl σ Gp nx nw) Gp hE hp ht9 hRH9.1 hRH9.2.1 hRH9.2.2.1 hRH9.2.2.2) (cwV 0 hts gX2_putLeader_X2_raiseHw rfl rfl rfl (by decide +kernel) ⟨Nat.le_of_ble_eq_true rfl, Nat.le_of_ble_eq_true rfl⟩) ⟨pw_blind, va_recv hK hP (ci := 2) (q0 := j560059) rfl hj560059, fun U hU hW => ⟨rfl, pw_pre hP hK hN hD hU hW⟩⟩ rfl rfl hl.1 rfl (lv_room (Nat.le_of_ble_eq_true rfl)) dX2_putLeader_62 ⟨Nat.le_of_ble_eq_true rfl, Nat.le_of_ble_eq_true rfl⟩) hS (fun q _ h => hFc q h) hFc (fun d9 t H1 locs ht hvm hw hB hz1 hk1 hS => ?_)
      obtain ⟨I560060, Q560060, J560060⟩ := d9
      obtain ⟨hP, hK1, hD1⟩ := hB
      rw [ht] at hP
      have hD := hD1.weaken (fun _ _ _ h => hFc _ h)
      generalize H1 = H at hP hS ⊢
      have hP : va_P (dC, dI) vwCl (va_pl L (pF cy K N T I560060 Q560060 J560060)) H := hP
      have hD : va_D A (va_pl L (pF cy K N T I560060 Q560060 J560060)) := hD
      have hR : RS v I560060 Q560060 J560060 I560060 Q560060 J560060 := RS.rf
      obtain ⟨sg560062, esg560062⟩ : ∃ z, z = oRi (oPl σ Gp nx nw) Gp := ⟨_, rfl⟩
      have hE : REP v pa ra L K N T I560060 Q560060 J560060 kx' sg560062 := by rw [esg560062]; exact hw
      have hC := hE.ct
      have h1sg560062 : sg560062.1 = (oPl σ Gp nx nw).1 := by rw [esg560062]; exact oRi_1 _ _
      have ht9 : ¬ sg560062.1 2 Gp = 0 := by rw [h1sg560062]; exact ht9
      rw [hQz]
      exact W.vret hx hb hr (fun t ht hW => ⟨⟨(I560060, Q560060, J560060), rfl, by show REP v pa ra L K N T I560060 Q560060 J560060 kx' (oRi (oPl σ Gp nx nw) Gp); rw [← esg560062]; exact hE, by rw [ht]; exact hP, va_K.moved hW.alike hK, hD⟩, hS.F ht⟩) hS.2.2 dX2_putLeader_65
    | succ n ih560057 =>
      intro k560057  Ia560057 Qa560057 Ja560057 H locs ls hkn560057 hiv560057 hE hP hD hS hl
      have hk9560057 : k560057 < 5 := by omega
      have hkc560057 : (nI k560057).toNatClampNeg = k560057 := nI_clamp (by omega)
      have hki560057 : vp_in (nI k560057) 5 := nI_in (by omega) (by decide)
      have hC := hE.ct
      have hR : RS v Ia560057 Qa560057 Ja560057 Ia560057 Qa560057 Ja560057 := RS.rf
      have ht9 : ¬ (gTwo sg560056 Gp 5 6 (-1) nw k560057).1 2 Gp = 0 := by rw [gTwo_1]; exact ht9
      refine lv_iload_n hx hb dX2_putLeader_17 rfl (lv_at hl 0 rfl) ?_
      refine lv_iconst (v := 5) hx hb dX2_putLeader_18 (by decide) ?_
      refine lv_icmp_ge (tgt := 61) hx hb dX2_putLeader_19 (by decide) (fun c560063 => ?_) (fun c560063 => ?_)
      · exact absurd c560063 (nI_ge (b := 5) (by omega) (by decide))
      refine lv_aload_n hx hb dX2_putLeader_22 rfl (lv_at hl 1 rfl) ?_
      obtain ⟨j560064, hj560064⟩ := pG_2 (cy := cy) (N := N) (T := T) (I := Ia560057) (Q := Qa560057) (J := Ja560057) (hE.pL hp ht9).1 (hE.pL hp ht9).2
      refine va_get (D := (dC, dI)) (ci := 2) (v := .ref (T (pa Gp) 2)) (C := RX2) (T := TX2) (N := 6) hx hb hts hi2 hown hK hP j560064 hj560064 rfl 2 (by decide) (hts (.fieldLink RX2 11 "TallyLogs$Partition" "replicas" "[LTallyLogs$Replica;") (by decide +kernel)) (fun _ h9 => h9) rfl dX2_putLeader_23 ?_
      obtain ⟨t560065, et560065⟩ : ∃ t, t = T (pa Gp) 2 := ⟨_, rfl⟩
      have hLt560065 : t560065 ∈ L := by rw [et560065]; exact (hC.2.2.2.2.1 (pa Gp) (hE.pL hp ht9).1 (hE.pL hp ht9).2).1
      have hkt560065 : K t560065 = 12 := by rw [et560065]; exact (hC.2.2.2.2.1 (pa Gp) (hE.pL hp ht9).1 (hE.pL hp ht9).2).2
      refine W.eq (g2 := F0 m 26 ls [.ref t560065]) (by rw [et560065]) ?_
      refine lv_iload_n hx hb dX2_putLeader_26 rfl (lv_at hl 0 rfl) ?_
      by_cases hbt560066 : bt ((gTwo sg560056 Gp 5 6 (-1) nw k560057).1 3 Gp) k560057
      · have hlk560066 : lvj (gTwo sg560056 Gp 5 6 (-1) nw k560057) Gp k560057 := ⟨ht9, hbt560066⟩
        have hq560066 : Qa560057 t560065 (nI k560057).toNatClampNeg = some (ra (5 * Gp + k560057)) := by rw [et560065, hkc560057]; exact hE.rq hp hk9560057 hlk560066
        obtain ⟨j560067, hj560067⟩ := pG_12 (cy := cy) (N := N) (T := T) (I := Ia560057) (Q := Qa560057) (J := Ja560057) hLt560065 hkt560065
        refine va_aldq hx hb hK hP j560067 5 hj560067 rfl hki560057 dX2_putLeader_27 ?_
        refine W.eq (g2 := F0 m 28 ls [.ref (ra (5 * Gp + k560057))]) (by rw [hq560066]; rfl) ?_
        refine lv_astore (lv' := [(4, .ref (ra (5 * Gp + k560057))), (3, .int (nI k560057)), (0, .ref (pa Gp)), (1, .int nx), (2, .int nw)]) hx hb dX2_putLeader_28 hl (by decide) rfl (fun ls hl => ?_)
        refine lv_aload hx hb dX2_putLeader_30 (lv_at hl 0 rfl) ?_
        refine lv_ifnonnull (tgt := 38) hx hb dX2_putLeader_32 (by decide) ?_
        refine lv_aload hx hb dX2_putLeader_38 (lv_at hl 0 rfl) ?_
        refine lv_iload_n hx hb dX2_putLeader_40 rfl (lv_at hl 4 rfl) ?_
        obtain ⟨j560068, hj560068⟩ := pG_4 (cy := cy) (N := N) (T := T) (I := Ia560057) (Q := Qa560057) (J := Ja560057) (hE.rL hp hk9560057 hlk560066).1 (hE.rL hp hk9560057 hlk560066).2
        have hDo := hD
        refine va_put (D := (dC, dI)) (ci := 4) (v := .int nw) (ty := .int) (C := RX4) (T := TX4) (N := 7) hx hb hts hi4 tyX4 tyX4_ok nmX4 hown hK hP hD hS j560068 hj560068 rfl 6 (by decide) (hts (.fieldLink RX2 72 "TallyLogs$Replica" "caught" "I") (by decide +kernel)) (fun _ h9 => h9) rfl (by decide +kernel) rfl rfl (Nat.le_of_ble_eq_true rfl) dX2_putLeader_41 (fun H locs hP hD hS => ?_)
        have hP := Eq.mp (congrArg (fun w => va_P (dC, dI) vwCl w H) (pP_4_6 (x := nw) hDo (hE.rL hp hk9560057 hlk560066).1 (hE.rL hp hk9560057 hlk560066).2 hj560068)) hP
        obtain ⟨I560069, eI560069⟩ : ∃ z, z = p2 Ia560057 (ra (5 * Gp + k560057)) 6 nw := ⟨_, rfl⟩
        rw [← eI560069] at hP
        have hR : RS v I560069 Qa560057 Ja560057 I560069 Qa560057 Ja560057 := RS.rf
        obtain ⟨sg560070, esg560070⟩ : ∃ z, z = sG (gTwo sg560056 Gp 5 6 (-1) nw k560057) (5 * Gp + k560057) 6 nw := ⟨_, rfl⟩
        have hE : REP v pa ra L K N T I560069 Qa560057 Ja560057 (fun i => kx' i ∨ (kx i ∧ ¬ (i / 5 = Gp ∧ i % 5 < k560057))) sg560070 := by rw [esg560070, eI560069]; exact hE.wr hp hk9560057 hlk560066 (by decide) (by decide) (fun _ _ z => z)
        have hlk560066 : lvj sg560070 Gp k560057 := by rw [esg560070]; exact hlk560066
        have ht9 : ¬ sg560070.1 2 Gp = 0 := by rw [esg560070]; exact ht9
        have hC : CT v L K N T I560069 Qa560057 := by rw [eI560069]; exact hC.pi (by rw [(hE.rL hp hk9560057 hlk560066).2]; decide)
        have hD : va_D A (va_pl L (pF cy K N T I560069 Qa560057 Ja560057)) := pD hDo
        refine lv_iload_n hx hb dX2_putLeader_44 rfl (lv_at hl 1 rfl) ?_
        refine lv_iload_n hx hb dX2_putLeader_45 rfl (lv_at hl 3 rfl) ?_
        refine lv_icmp_eq (tgt := 55) hx hb dX2_putLeader_46 (by decide) (fun c560071 => ?_) (fun c560071 => ?_)
        · have kc560071 : (nI k560057).toInt = nx.toInt := by have h9 := c560071; rw [xk_eq] at h9; exact h9
          obtain ⟨v560072, ev560072⟩ : ∃ y : Int32, y = (nI k560057) + Int32.ofInt 1 := ⟨_, rfl⟩
          refine lv_iinc (v := v560072) (lv' := [(3, .int v560072), (4, .ref (ra (5 * Gp + k560057))), (0, .ref (pa Gp)), (1, .int nx), (2, .int nw)]) hx hb dX2_putLeader_55 hl (k := 1) rfl ev560072.symm (by decide) rfl (fun ls hl => ?_)
          refine lv_goto (tgt := 17) hx hb dX2_putLeader_58 (by decide) ?_
          obtain rfl : v560072 = nI (k560057 + 1) := ev560072.trans (nI_add k560057 1)
          exact ih560057 (k560057 + 1)  _ _ _ _ _ _ (by omega) (trivial) (by show REP v pa ra L K N T I560069 Qa560057 Ja560057 (fun i => kx' i ∨ (kx i ∧ ¬ (i / 5 = Gp ∧ i % 5 < (k560057 + 1)))) (sG (sG (gTwo sg560056 Gp 5 6 (-1) nw k560057) (5 * Gp + k560057) 5 (-1)) (5 * Gp + k560057) 6 nw); rw [sG_comm (by decide), ← esg560070]; exact (hE.kf (x := -1) (Or.inl (by have e9 := nI_inj5 hk9560057 hm (c560071.trans hnx); rw [e9]; exact hk2))).km (fun i z => by by_cases e : i = 5 * Gp + k560057; (exact Or.inl (by rw [e]; have e9 := nI_inj5 hk9560057 hm (c560071.trans hnx); rw [e9]; exact hk2)); exact kstep z e)) hP hD hS (lv_sub hl [0, 2, 3, 4] rfl)
        · have kc560071 : ¬ ((nI k560057).toInt = nx.toInt) := by have h9 := c560071; rw [xk_eq] at h9; exact h9
          refine lv_aload hx hb dX2_putLeader_49 (lv_at hl 0 rfl) ?_
          refine lv_iconst (v := (-1)) hx hb dX2_putLeader_51 (by decide) ?_
          obtain ⟨j560073, hj560073⟩ := pG_4 (cy := cy) (N := N) (T := T) (I := I560069) (Q := Qa560057) (J := Ja560057) (hE.rL hp hk9560057 hlk560066).1 (hE.rL hp hk9560057 hlk560066).2
          have hDo := hD
          refine va_put (D := (dC, dI)) (ci := 4) (v := .int (-1)) (ty := .int) (C := RX4) (T := TX4) (N := 7) hx hb hts hi4 tyX4 tyX4_ok nmX4 hown hK hP hD hS j560073 hj560073 rfl 5 (by decide) (hts (.fieldLink RX2 51 "TallyLogs$Replica" "known" "I") (by decide +kernel)) (fun _ h9 => h9) rfl (by decide +kernel) rfl rfl (Nat.le_of_ble_eq_true rfl) dX2_putLeader_52 (fun H locs hP hD hS => ?_)
          have hP := Eq.mp (congrArg (fun w => va_P (dC, dI) vwCl w H) (pP_4_5 (x := (-1)) hDo (hE.rL hp hk9560057 hlk560066).1 (hE.rL hp hk9560057 hlk560066).2 hj560073)) hP
          obtain ⟨I560074, eI560074⟩ : ∃ z, z = p2 I560069 (ra (5 * Gp + k560057)) 5 (-1) := ⟨_, rfl⟩
          rw [← eI560074] at hP
          have hR : RS v I560074 Qa560057 Ja560057 I560074 Qa560057 Ja560057 := RS.rf
          obtain ⟨sg560075, esg560075⟩ : ∃ z, z = sG sg560070 (5 * Gp + k560057) 5 (-1) := ⟨_, rfl⟩
          have hE : REP v pa ra L K N T I560074 Qa560057 Ja560057 (fun i => kx' i ∨ (kx i ∧ ¬ (i / 5 = Gp ∧ i % 5 < (k560057 + 1)))) sg560075 := by rw [esg560075, eI560074]; exact hE.wr hp hk9560057 hlk560066 (by decide) (by decide) (fun i hi z => kstep z (fun e => hi ⟨e, rfl⟩))
          have hlk560066 : lvj sg560075 Gp k560057 := by rw [esg560075]; exact hlk560066
          have ht9 : ¬ sg560075.1 2 Gp = 0 := by rw [esg560075]; exact ht9
          have hC : CT v L K N T I560074 Qa560057 := by rw [eI560074]; exact hC.pi (by rw [(hE.rL hp hk9560057 hlk560066).2]; decide)
          have hD : va_D A (va_pl L (pF cy K N T I560074 Qa560057 Ja560057)) := pD hDo
          obtain ⟨v560076, ev560076⟩ : ∃ y : Int32, y = (nI k560057) + Int32.ofInt 1 := ⟨_, rfl⟩
          refine lv_iinc (v := v560076) (lv' := [(3, .int v560076), (4, .ref (ra (5 * Gp + k560057))), (0, .ref (pa Gp)), (1, .int nx), (2, .int nw)]) hx hb dX2_putLeader_55 hl (k := 1) rfl ev560076.symm (by decide) rfl (fun ls hl => ?_)
          refine lv_goto (tgt := 17) hx hb dX2_putLeader_58 (by decide) ?_
          obtain rfl : v560076 = nI (k560057 + 1) := ev560076.trans (nI_add k560057 1)
          exact ih560057 (k560057 + 1)  _ _ _ _ _ _ (by omega) (trivial) (by show REP v pa ra L K N T I560074 Qa560057 Ja560057 (fun i => kx' i ∨ (kx i ∧ ¬ (i / 5 = Gp ∧ i % 5 < (k560057 + 1)))) (sG (sG (gTwo sg560056 Gp 5 6 (-1) nw k560057) (5 * Gp + k560057) 5 (-1)) (5 * Gp + k560057) 6 nw); rw [sG_comm (by decide), ← esg560070, ← esg560075]; exact hE) hP hD hS (lv_sub hl [0, 2, 3, 4] rfl)
      · have hq560066 : Qa560057 t560065 (nI k560057).toNatClampNeg = none := by rw [et560065, hkc560057]; exact hE.rn hp hk9560057 ht9 hbt560066
        obtain ⟨j560077, hj560077⟩ := pG_12 (cy := cy) (N := N) (T := T) (I := Ia560057) (Q := Qa560057) (J := Ja560057) hLt560065 hkt560065
        refine va_aldq hx hb hK hP j560077 5 hj560077 rfl hki560057 dX2_putLeader_27 ?_
        refine W.eq (g2 := F0 m 28 ls [.null]) (by rw [hq560066]; rfl) ?_
        refine lv_astoreN (lv' := [(4, .null), (3, .int (nI k560057)), (0, .ref (pa Gp)), (1, .int nx), (2, .int nw)]) hx hb dX2_putLeader_28 hl (by decide) rfl (fun ls hl => ?_)
        refine lv_aloadN hx hb dX2_putLeader_30 (lv_at hl 0 rfl) ?_
        refine lv_ifnonnullN hx hb dX2_putLeader_32 ?_
        refine lv_goto (tgt := 55) hx hb dX2_putLeader_35 (by decide) ?_
        obtain ⟨v560078, ev560078⟩ : ∃ y : Int32, y = (nI k560057) + Int32.ofInt 1 := ⟨_, rfl⟩
        refine lv_iinc (v := v560078) (lv' := [(3, .int v560078), (4, .null), (0, .ref (pa Gp)), (1, .int nx), (2, .int nw)]) hx hb dX2_putLeader_55 hl (k := 1) rfl ev560078.symm (by decide) rfl (fun ls hl => ?_)
        refine lv_goto (tgt := 17) hx hb dX2_putLeader_58 (by decide) ?_
        obtain rfl : v560078 = nI (k560057 + 1) := ev560078.trans (nI_add k560057 1)
        exact ih560057 (k560057 + 1)  _ _ _ _ _ _ (by omega) (trivial) (by show REP v pa ra L K N T Ia560057 Qa560057 Ja560057 (fun i => kx' i ∨ (kx i ∧ ¬ (i / 5 = Gp ∧ i % 5 < (k560057 + 1)))) (sG (sG (gTwo sg560056 Gp 5 6 (-1) nw k560057) (5 * Gp + k560057) 5 (-1)) (5 * Gp + k560057) 6 nw); exact ((hE.dd hk9560057 (fun z => hbt560066 z.2) (f := 5) (x := -1) (by decide) (by decide)).dd hk9560057 (fun z => hbt560066 z.2) (f := 6) (x := nw) (by decide) (by decide)).kl (fun p n hp hn hl z => kstep z (fun e => by obtain ⟨rfl, rfl⟩ : p = Gp ∧ n = k560057 := (by omega); exact hbt560066 hl.2))) hP hD hS (lv_sub hl [0, 2, 3, 4] rfl)
  exact hLP560057 5 0  _ _ _ _ _ _ rfl (trivial) (hE.km (fun i z => Or.inr ⟨z, fun y => absurd y.2 (Nat.not_lt_zero _)⟩)) hP hD hS (lv_sub hl [0, 1, 2, 3] rfl)
