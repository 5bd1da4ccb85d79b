set_option maxHeartbeats 4000000 in
set_option maxRecDepth 100000 in
/-- create, exactly -/
theorem f_X7_create (l : Launch) (dC : Nat → ClassId) (dI : Nat → Nat → Nat) (cy : Nat → ClassId) (w : Nat → Nat) (L : List Nat) (K N : Nat → Nat) (T : Nat → Nat → Nat) (Q : Nat → Nat → Option Nat) (I J : Nat → Nat → Int32) (sz : Nat) (E : Int) (xp : Int32) (xr : Int32) (xl : Int32) (σ : SG) (hM : MS w L K N T Q) (hI : MI w E I J) (hE : E ≤ 1000) (hMR : MR w I J σ) : Met l yX7_create wsX7_create ({ frames := 1, cells := 0, slots := 0, locals := 27 }) (va_Pc [.ref (w 0), .int xp, .int xr, .int xl] (mW dC dI cy L (wF cy K N T I Q J) sz)) (va_Qi (fun (r : Int32) (d : (Nat → Nat → Int32) × (Nat → Nat → Int32)) => MI w (E + 5) d.1 d.2 ∧ MR w d.1 d.2 (qCe σ xp xr xl).1 ∧ r = (qCe σ xp xr xl).2) (fun (d : (Nat → Nat → Int32) × (Nat → Nat → Int32)) t => va_P (dC, dI) vwCl (va_pl L (wF cy K N T d.1 Q d.2)) t.heap ∧ va_K (dC, dI) vwCl (mTy cy) t ∧ va_D (va_A (va_pl L (wF cy K N T I Q J)) sz) (va_pl L (wF cy K N T d.1 Q d.2))) (va_A (va_pl L (wF cy K N T I Q J)) sz)) 0 0 (va_A (va_pl L (wF cy K N T I Q J)) sz) := by
  refine Met.ofW (cc := cX7_create) (maxL := 6) (ret := (some .int)) (by decide) rfl ?_
  intro p e s m args below meth c s₁ B hml hv
  obtain ⟨rfl, hsz, ⟨hP, hK⟩, hD0⟩ := hv
  have hx := B.exec
  have hb := B.bytes
  have hr := B.returns
  have hts := atoms_spec (ws := wsX7_create) B.pre
  have hown : s.vm.findClass RX7 = some m.cls := findClass_of_methodNamed B.named
  have hlocks := B.notSynchronized
  have hi7 : ∀ w ∈ wsX70, w ∈ wsX7_create := by decide +kernel
  have hi6 : ∀ w ∈ wsX60, w ∈ wsX7_create := by decide +kernel
  have hl := lv_entry ([.ref (w 0), .int xp, .int xr, .int xl]) (n := 6) (Nat.le_of_ble_eq_true rfl)
  rw [lg_entry_eq]
  generalize (lg_sl ([.ref (w 0), .int xp, .int xr, .int xl]) ++ List.replicate (6 - (lg_sl ([.ref (w 0), .int xp, .int xr, .int xl])).length) Slot.unset).toArray = ls at hl ⊢
  have hl : lv_has ls 6 [(0, .ref (w 0)), (1, .int xp), (2, .int xr), (3, .int xl)] := hl
  subst hsz
  have hD := hD0.self (sz := s.heap.size)
  generalize hAe : va_A (va_pl L (wF cy K N T I Q J)) s.heap.size = A at hD ⊢
  have hA : ∀ q : Nat, s.heap.size ≤ q → A q := fun q h => by rw [← hAe]; exact Or.inr h
  have hS : va_S A s.heap s.heap [] := va_S.rf
  have hR : RM w [2] I J I J := RM.rf
  obtain ⟨hML, hMD, hMU⟩ := hI
  refine lv_iload_n hx hb dX7_create_0 rfl (lv_at hl 2 rfl) ?_
  refine lv_bipush (v := 31) hx hb dX7_create_1 (by decide) ?_
  refine lv_iand hx hb dX7_create_3 ?_
  refine lv_topi (fun v340001 ev340001 => ?_)
  refine lv_istore (lv' := [(4, .int v340001), (0, .ref (w 0)), (1, .int xp), (2, .int xr), (3, .int xl)]) hx hb dX7_create_4 hl (by decide) rfl (fun ls hl => ?_)
  refine lv_iload_n hx hb dX7_create_6 rfl (lv_at hl 2 rfl) ?_
  refine lv_i2l (v := xp.toInt64) hx hb dX7_create_7 rfl ?_
  refine lv_lconst (v := 0) hx hb dX7_create_8 (by decide) ?_
  refine lv_ldc2 hx hb hown (hts (.constantLong RX7 80 3) (by decide +kernel)) dX7_create_9 ?_
  refine vp_callSi (W.runS (As := [.long xp.toInt64, .long 0, .long 3]) (rest := []) ⟨hx, hb, hml, hown, hts⟩ (c_X7_in l xp.toInt64 0 3) (va_cwS 3 hts gX7_create_X7_in rfl rfl rfl (by decide +kernel) ⟨Nat.le_of_ble_eq_true rfl, Nat.le_of_ble_eq_true rfl⟩) preEq rfl rfl hl.1 rfl (lv_room (Nat.le_of_ble_eq_true rfl)) dX7_create_12 ⟨Nat.le_of_ble_eq_true rfl, Nat.le_of_ble_eq_true rfl⟩) (fun r340002 hr340002 => ?_)
  subst hr340002
  refine lv_if_eq (tgt := 42) hx hb dX7_create_15 (by decide) (fun c340003 => ?_) (fun c340003 => ?_)
  · refine lv_iconst (v := (-1)) hx hb dX7_create_42 (by decide) ?_
    exact W.iret (v := (-1)) hx hb hr (fun t ht hW => ⟨⟨(-1), (I, J), rfl, ⟨⟨hML.mono (by omega), hMD, hMU⟩, by have e9 : qCe σ xp xr xl = (σ, (-1)) := (by rw [qCe, if_pos c340003]); show MR w I J _; rw [e9]; exact hMR, by have e9 : qCe σ xp xr xl = (σ, (-1)) := (by rw [qCe, if_pos c340003]); show _ = _; rw [e9]⟩, by rw [ht]; exact hP, va_K.moved hW.alike hK, hD⟩, hS.F ht⟩) hS.2.2 dX7_create_43
  · have hin340004 : vp_in xp 4 := xin_sp c340003 (by decide)
    refine lv_aload_n hx hb dX7_create_18 rfl (lv_at hl 1 rfl) ?_
    obtain ⟨j340005, hj340005⟩ := wG_7 (cy := cy) (N := N) (T := T) (I := I) (Q := Q) (J := J) (hM.at 0 (by decide)) (hM.k 0 (by decide) rfl)
    refine va_get (D := (dC, dI)) (ci := 7) (v := .ref (T (w 0) 1)) (C := RX7) (T := TX7) (N := 18) hx hb hts hi7 hown hK hP j340005 hj340005 rfl 1 (by decide) (hts (.fieldLink RX7 14 "TallyLogsModel" "there" "[Z") (by decide +kernel)) (fun _ h9 => h9) rfl dX7_create_19 ?_
    refine W.eq (g2 := F0 m 22 ls [.ref (w 2)]) (by rw [hM.t 1 (by decide)]) ?_
    refine lv_iload_n hx hb dX7_create_22 rfl (lv_at hl 2 rfl) ?_
    obtain ⟨j340006, hj340006⟩ := wG_21 (cy := cy) (N := N) (T := T) (I := I) (Q := Q) (J := J) (hM.at 2 (by decide)) (hM.k 2 (by decide) rfl)
    refine va_zald hx hb hK hP j340006 0 hj340006 rfl hin340004 dX7_create_23 ?_
    refine lv_topi (fun x340007 ex340007 => ?_)
    have sx340007 : x340007 = σ.1 2 xp.toNatClampNeg := ex340007.trans (hMR.a (k := 2) (by decide) (by decide) (show _ < 4 from vp_lt (n := 4) hin340004))
    refine lv_if_ne (tgt := 42) hx hb dX7_create_24 (by decide) (fun c340008 => ?_) (fun c340008 => ?_)
    · have kc340008 : ¬ (x340007.toInt = 0) := by have h9 := c340008; rw [xk_eq, xk_0] at h9; exact h9
      refine lv_iconst (v := (-1)) hx hb dX7_create_42 (by decide) ?_
      exact W.iret (v := (-1)) hx hb hr (fun t ht hW => ⟨⟨(-1), (I, J), rfl, ⟨⟨hML.mono (by omega), hMD, hMU⟩, by have e9 : qCe σ xp xr xl = (σ, (-1)) := (by rw [qCe, if_neg c340003, if_pos (by have k9 := c340008; simp only [sx340007] at k9; exact k9)]); show MR w I J _; rw [e9]; exact hMR, by have e9 : qCe σ xp xr xl = (σ, (-1)) := (by rw [qCe, if_neg c340003, if_pos (by have k9 := c340008; simp only [sx340007] at k9; exact k9)]); show _ = _; rw [e9]⟩, by rw [ht]; exact hP, va_K.moved hW.alike hK, hD⟩, hS.F ht⟩) hS.2.2 dX7_create_43
    · have kc340008 : x340007.toInt = 0 := by have h9 := c340008; rw [xk_eq, xk_0] at h9; exact h9
      refine lv_iload_n hx hb dX7_create_27 rfl (lv_at hl 4 rfl) ?_
      refine lv_i2l (v := xl.toInt64) hx hb dX7_create_28 rfl ?_
      refine lv_lconst (v := 1) hx hb dX7_create_29 (by decide) ?_
      refine lv_iload hx hb dX7_create_30 (lv_at hl 0 rfl) ?_
      refine vp_callSi (W.runS (As := [.int v340001]) (rest := [.long 1, .long xl.toInt64]) ⟨hx, hb, hml, hown, hts⟩ (c_J6_bitCount_0f7a4 l v340001) (va_cwS 1 hts gX7_create_J6_bitCount_0f7a4 rfl rfl rfl (by decide +kernel) ⟨Nat.le_of_ble_eq_true rfl, Nat.le_of_ble_eq_true rfl⟩) preEq rfl rfl hl.1 rfl (lv_room (Nat.le_of_ble_eq_true rfl)) dX7_create_32 ⟨Nat.le_of_ble_eq_true rfl, Nat.le_of_ble_eq_true rfl⟩) (fun r340009 hr340009 => ?_)
      subst hr340009
      refine lv_i2l (v := (sp_bc v340001).toInt64) hx hb dX7_create_35 rfl ?_
      refine vp_callSi (W.runS (As := [.long xl.toInt64, .long 1, .long ((sp_bc v340001).toInt64)]) (rest := []) ⟨hx, hb, hml, hown, hts⟩ (c_X7_in l xl.toInt64 1 ((sp_bc v340001).toInt64)) (va_cwS 3 hts gX7_create_X7_in rfl rfl rfl (by decide +kernel) ⟨Nat.le_of_ble_eq_true rfl, Nat.le_of_ble_eq_true rfl⟩) preEq rfl rfl hl.1 rfl (lv_room (Nat.le_of_ble_eq_true rfl)) dX7_create_36 ⟨Nat.le_of_ble_eq_true rfl, Nat.le_of_ble_eq_true rfl⟩) (fun r340010 hr340010 => ?_)
      subst hr340010
      refine lv_if_ne (tgt := 44) hx hb dX7_create_39 (by decide) (fun c340011 => ?_) (fun c340011 => ?_)
      · refine lv_iload hx hb dX7_create_44 (lv_at hl 0 rfl) ?_
        refine lv_aload_n hx hb dX7_create_46 rfl (lv_at hl 1 rfl) ?_
        obtain ⟨j340012, hj340012⟩ := wG_7 (cy := cy) (N := N) (T := T) (I := I) (Q := Q) (J := J) (hM.at 0 (by decide)) (hM.k 0 (by decide) rfl)
        refine va_get (D := (dC, dI)) (ci := 7) (v := .int (I (w 0) 16)) (C := RX7) (T := TX7) (N := 18) hx hb hts hi7 hown hK hP j340012 hj340012 rfl 16 (by decide) (hts (.fieldLink RX7 61 "TallyLogsModel" "up" "I") (by decide +kernel)) (fun _ h9 => h9) rfl dX7_create_47 ?_
        refine lv_topi (fun x340013 ex340013 => ?_)
        have sx340013 : x340013 = σ.1 0 0 := ex340013.trans hMR.1.1
        have tx340013 : x340013.toInt = (I (w 0) 16).toInt := congrArg Int32.toInt ex340013
        refine lv_iand hx hb dX7_create_50 ?_
        refine lv_topi (fun v340014 ev340014 => ?_)
        refine lv_if_ne (tgt := 57) hx hb dX7_create_51 (by decide) (fun c340015 => ?_) (fun c340015 => ?_)
        · have kc340015 : ¬ (v340014.toInt = 0) := by have h9 := c340015; rw [xk_eq, xk_0] at h9; exact h9
          refine lv_aload_n hx hb dX7_create_57 rfl (lv_at hl 1 rfl) ?_
          obtain ⟨j340016, hj340016⟩ := wG_7 (cy := cy) (N := N) (T := T) (I := I) (Q := Q) (J := J) (hM.at 0 (by decide)) (hM.k 0 (by decide) rfl)
          refine va_get (D := (dC, dI)) (ci := 7) (v := .ref (T (w 0) 1)) (C := RX7) (T := TX7) (N := 18) hx hb hts hi7 hown hK hP j340016 hj340016 rfl 1 (by decide) (hts (.fieldLink RX7 14 "TallyLogsModel" "there" "[Z") (by decide +kernel)) (fun _ h9 => h9) rfl dX7_create_58 ?_
          refine W.eq (g2 := F0 m 61 ls [.ref (w 2)]) (by rw [hM.t 1 (by decide)]) ?_
          refine lv_iload_n hx hb dX7_create_61 rfl (lv_at hl 2 rfl) ?_
          refine lv_iconst (v := 1) hx hb dX7_create_62 (by decide) ?_
          obtain ⟨j340017, hj340017⟩ := wG_21 (cy := cy) (N := N) (T := T) (I := I) (Q := Q) (J := J) (hM.at 2 (by decide)) (hM.k 2 (by decide) rfl)
          have hDo := hD
          refine va_zast (x := 1) hx hb hK hP hD hS j340017 0 hj340017 rfl hin340004 dX7_create_63 (fun H locs hP hD hS => ?_)
          have hP := Eq.mp (congrArg (fun w => va_P (dC, dI) vwCl w H) (wS_21 hDo (hM.at 2 (by decide)) (hM.k 2 (by decide) rfl) hj340017)) hP
          obtain ⟨J340018, eJ340018⟩ : ∃ z, z = va_up J (w 2) (upd (J (w 2)) xp.toNatClampNeg (vp_nar .boolean 1)) := ⟨_, rfl⟩
          rw [← eJ340018] at hP
          have hR : RM w [2] I J I J340018 := by rw [eJ340018]; exact hR.pj hM (by decide) (by decide)
          have hMD : MD w J340018 := by rw [eJ340018]; exact hMD.pj hM (by decide) (by decide)
          have hD : va_D A (va_pl L (wF cy K N T I Q J340018)) := pD hDo
          obtain ⟨sg340019, esg340019⟩ : ∃ z, z = sA σ 2 xp.toNatClampNeg (vp_nar .boolean 1) := ⟨_, rfl⟩
          have hMR : MR w I J340018 sg340019 := by rw [eJ340018, esg340019]; exact hMR.wa hM (by decide) (by decide)
          refine lv_aload_n hx hb dX7_create_64 rfl (lv_at hl 1 rfl) ?_
          obtain ⟨j340020, hj340020⟩ := wG_7 (cy := cy) (N := N) (T := T) (I := I) (Q := Q) (J := J340018) (hM.at 0 (by decide)) (hM.k 0 (by decide) rfl)
          refine va_get (D := (dC, dI)) (ci := 7) (v := .ref (T (w 0) 2)) (C := RX7) (T := TX7) (N := 18) hx hb hts hi7 hown hK hP j340020 hj340020 rfl 2 (by decide) (hts (.fieldLink RX7 18 "TallyLogsModel" "replicas" "[I") (by decide +kernel)) (fun _ h9 => h9) rfl dX7_create_65 ?_
          refine W.eq (g2 := F0 m 68 ls [.ref (w 3)]) (by rw [hM.t 2 (by decide)]) ?_
          refine lv_iload_n hx hb dX7_create_68 rfl (lv_at hl 2 rfl) ?_
          refine lv_iload hx hb dX7_create_69 (lv_at hl 0 rfl) ?_
          obtain ⟨j340021, hj340021⟩ := wG_20 (cy := cy) (N := N) (T := T) (I := I) (Q := Q) (J := J340018) (hM.at 3 (by decide)) (hM.k 3 (by decide) rfl)
          have hDo := hD
          refine va_iast (x := v340001) hx hb hK hP hD hS j340021 1 hj340021 rfl (hM.inN (n := 4) 3 (by decide) rfl rfl hin340004) dX7_create_71 (fun H locs hP hD hS => ?_)
          have hP := Eq.mp (congrArg (fun w => va_P (dC, dI) vwCl w H) (wS_20 hDo (hM.at 3 (by decide)) (hM.k 3 (by decide) rfl) hj340021)) hP
          obtain ⟨J340022, eJ340022⟩ : ∃ z, z = va_up J340018 (w 3) (upd (J340018 (w 3)) xp.toNatClampNeg v340001) := ⟨_, rfl⟩
          rw [← eJ340022] at hP
          have hR : RM w [2] I J I J340022 := by rw [eJ340022]; exact hR.pj hM (by decide) (by decide)
          have hMD : MD w J340022 := by rw [eJ340022]; exact hMD.pj hM (by decide) (by decide)
          have hD : va_D A (va_pl L (wF cy K N T I Q J340022)) := pD hDo
          obtain ⟨sg340023, esg340023⟩ : ∃ z, z = sA sg340019 3 xp.toNatClampNeg v340001 := ⟨_, rfl⟩
          have hMR : MR w I J340022 sg340023 := by rw [eJ340022, esg340023]; exact hMR.wa hM (by decide) (by decide)
          refine lv_aload_n hx hb dX7_create_72 rfl (lv_at hl 1 rfl) ?_
          obtain ⟨j340024, hj340024⟩ := wG_7 (cy := cy) (N := N) (T := T) (I := I) (Q := Q) (J := J340022) (hM.at 0 (by decide)) (hM.k 0 (by decide) rfl)
          refine va_get (D := (dC, dI)) (ci := 7) (v := .ref (T (w 0) 5)) (C := RX7) (T := TX7) (N := 18) hx hb hts hi7 hown hK hP j340024 hj340024 rfl 5 (by decide) (hts (.fieldLink RX7 28 "TallyLogsModel" "min" "[I") (by decide +kernel)) (fun _ h9 => h9) rfl dX7_create_73 ?_
          refine W.eq (g2 := F0 m 76 ls [.ref (w 6)]) (by rw [hM.t 5 (by decide)]) ?_
          refine lv_iload_n hx hb dX7_create_76 rfl (lv_at hl 2 rfl) ?_
          refine lv_iload_n hx hb dX7_create_77 rfl (lv_at hl 4 rfl) ?_
          obtain ⟨j340025, hj340025⟩ := wG_20 (cy := cy) (N := N) (T := T) (I := I) (Q := Q) (J := J340022) (hM.at 6 (by decide)) (hM.k 6 (by decide) rfl)
          have hDo := hD
          refine va_iast (x := xl) hx hb hK hP hD hS j340025 1 hj340025 rfl (hM.inN (n := 4) 6 (by decide) rfl rfl hin340004) dX7_create_78 (fun H locs hP hD hS => ?_)
          have hP := Eq.mp (congrArg (fun w => va_P (dC, dI) vwCl w H) (wS_20 hDo (hM.at 6 (by decide)) (hM.k 6 (by decide) rfl) hj340025)) hP
          obtain ⟨J340026, eJ340026⟩ : ∃ z, z = va_up J340022 (w 6) (upd (J340022 (w 6)) xp.toNatClampNeg xl) := ⟨_, rfl⟩
          rw [← eJ340026] at hP
          have hR : RM w [2] I J I J340026 := by rw [eJ340026]; exact hR.pj hM (by decide) (by decide)
          have hMD : MD w J340026 := by rw [eJ340026]; exact hMD.pj hM (by decide) (by decide)
          have hD : va_D A (va_pl L (wF cy K N T I Q J340026)) := pD hDo
          obtain ⟨sg340027, esg340027⟩ : ∃ z, z = sA sg340023 6 xp.toNatClampNeg xl := ⟨_, rfl⟩
          have hMR : MR w I J340026 sg340027 := by rw [eJ340026, esg340027]; exact hMR.wa hM (by decide) (by decide)
          refine lv_aload_n hx hb dX7_create_79 rfl (lv_at hl 1 rfl) ?_
          obtain ⟨j340028, hj340028⟩ := wG_7 (cy := cy) (N := N) (T := T) (I := I) (Q := Q) (J := J340026) (hM.at 0 (by decide)) (hM.k 0 (by decide) rfl)
          refine va_get (D := (dC, dI)) (ci := 7) (v := .ref (T (w 0) 4)) (C := RX7) (T := TX7) (N := 18) hx hb hts hi7 hown hK hP j340028 hj340028 rfl 4 (by decide) (hts (.fieldLink RX7 25 "TallyLogsModel" "epoch" "[I") (by decide +kernel)) (fun _ h9 => h9) rfl dX7_create_80 ?_
          refine W.eq (g2 := F0 m 83 ls [.ref (w 5)]) (by rw [hM.t 4 (by decide)]) ?_
          refine lv_iload_n hx hb dX7_create_83 rfl (lv_at hl 2 rfl) ?_
          refine lv_iconst (v := 0) hx hb dX7_create_84 (by decide) ?_
          obtain ⟨j340029, hj340029⟩ := wG_20 (cy := cy) (N := N) (T := T) (I := I) (Q := Q) (J := J340026) (hM.at 5 (by decide)) (hM.k 5 (by decide) rfl)
          have hDo := hD
          refine va_iast (x := 0) hx hb hK hP hD hS j340029 1 hj340029 rfl (hM.inN (n := 4) 5 (by decide) rfl rfl hin340004) dX7_create_85 (fun H locs hP hD hS => ?_)
          have hP := Eq.mp (congrArg (fun w => va_P (dC, dI) vwCl w H) (wS_20 hDo (hM.at 5 (by decide)) (hM.k 5 (by decide) rfl) hj340029)) hP
          obtain ⟨J340030, eJ340030⟩ : ∃ z, z = va_up J340026 (w 5) (upd (J340026 (w 5)) xp.toNatClampNeg 0) := ⟨_, rfl⟩
          rw [← eJ340030] at hP
          have hR : RM w [2] I J I J340030 := by rw [eJ340030]; exact hR.pj hM (by decide) (by decide)
          have hMD : MD w J340030 := by rw [eJ340030]; exact hMD.pj hM (by decide) (by decide)
          have hD : va_D A (va_pl L (wF cy K N T I Q J340030)) := pD hDo
          obtain ⟨sg340031, esg340031⟩ : ∃ z, z = sA sg340027 5 xp.toNatClampNeg 0 := ⟨_, rfl⟩
          have hMR : MR w I J340030 sg340031 := by rw [eJ340030, esg340031]; exact hMR.wa hM (by decide) (by decide)
          refine lv_aload_n hx hb dX7_create_86 rfl (lv_at hl 1 rfl) ?_
          obtain ⟨j340032, hj340032⟩ := wG_7 (cy := cy) (N := N) (T := T) (I := I) (Q := Q) (J := J340030) (hM.at 0 (by decide)) (hM.k 0 (by decide) rfl)
          refine va_get (D := (dC, dI)) (ci := 7) (v := .ref (T (w 0) 6)) (C := RX7) (T := TX7) (N := 18) hx hb hts hi7 hown hK hP j340032 hj340032 rfl 6 (by decide) (hts (.fieldLink RX7 31 "TallyLogsModel" "step" "[I") (by decide +kernel)) (fun _ h9 => h9) rfl dX7_create_87 ?_
          refine W.eq (g2 := F0 m 90 ls [.ref (w 7)]) (by rw [hM.t 6 (by decide)]) ?_
          refine lv_iload_n hx hb dX7_create_90 rfl (lv_at hl 2 rfl) ?_
          refine lv_iload hx hb dX7_create_91 (lv_at hl 0 rfl) ?_
          refine lv_aload_n hx hb dX7_create_93 rfl (lv_at hl 1 rfl) ?_
          obtain ⟨j340033, hj340033⟩ := wG_7 (cy := cy) (N := N) (T := T) (I := I) (Q := Q) (J := J340030) (hM.at 0 (by decide)) (hM.k 0 (by decide) rfl)
          refine va_get (D := (dC, dI)) (ci := 7) (v := .int (I (w 0) 16)) (C := RX7) (T := TX7) (N := 18) hx hb hts hi7 hown hK hP j340033 hj340033 rfl 16 (by decide) (hts (.fieldLink RX7 61 "TallyLogsModel" "up" "I") (by decide +kernel)) (fun _ h9 => h9) rfl dX7_create_94 ?_
          refine lv_topi (fun x340034 ex340034 => ?_)
          have sx340034 : x340034 = sg340031.1 0 0 := ex340034.trans hMR.1.1
          have tx340034 : x340034.toInt = (I (w 0) 16).toInt := congrArg Int32.toInt ex340034
          refine lv_iand hx hb dX7_create_97 ?_
          refine lv_topi (fun v340035 ev340035 => ?_)
          obtain ⟨j340036, hj340036⟩ := wG_20 (cy := cy) (N := N) (T := T) (I := I) (Q := Q) (J := J340030) (hM.at 7 (by decide)) (hM.k 7 (by decide) rfl)
          have hDo := hD
          refine va_iast (x := v340035) hx hb hK hP hD hS j340036 1 hj340036 rfl (hM.inN (n := 4) 7 (by decide) rfl rfl hin340004) dX7_create_98 (fun H locs hP hD hS => ?_)
          have hP := Eq.mp (congrArg (fun w => va_P (dC, dI) vwCl w H) (wS_20 hDo (hM.at 7 (by decide)) (hM.k 7 (by decide) rfl) hj340036)) hP
          obtain ⟨J340037, eJ340037⟩ : ∃ z, z = va_up J340030 (w 7) (upd (J340030 (w 7)) xp.toNatClampNeg v340035) := ⟨_, rfl⟩
          rw [← eJ340037] at hP
          have hR : RM w [2] I J I J340037 := by rw [eJ340037]; exact hR.pj hM (by decide) (by decide)
          have hD : va_D A (va_pl L (wF cy K N T I Q J340037)) := pD hDo
          obtain ⟨sg340038, esg340038⟩ : ∃ z, z = sA sg340031 7 xp.toNatClampNeg v340035 := ⟨_, rfl⟩
          have hMR : MR w I J340037 sg340038 := by rw [eJ340037, esg340038]; exact hMR.wa hM (by decide) (by decide)
          refine lv_aload_n hx hb dX7_create_99 rfl (lv_at hl 1 rfl) ?_
          obtain ⟨j340039, hj340039⟩ := wG_7 (cy := cy) (N := N) (T := T) (I := I) (Q := Q) (J := J340037) (hM.at 0 (by decide)) (hM.k 0 (by decide) rfl)
          refine va_get (D := (dC, dI)) (ci := 7) (v := .ref (T (w 0) 3)) (C := RX7) (T := TX7) (N := 18) hx hb hts hi7 hown hK hP j340039 hj340039 rfl 3 (by decide) (hts (.fieldLink RX7 22 "TallyLogsModel" "leader" "[I") (by decide +kernel)) (fun _ h9 => h9) rfl dX7_create_100 ?_
          refine W.eq (g2 := F0 m 103 ls [.ref (w 4)]) (by rw [hM.t 3 (by decide)]) ?_
          refine lv_iload_n hx hb dX7_create_103 rfl (lv_at hl 2 rfl) ?_
          refine lv_aload_n hx hb dX7_create_104 rfl (lv_at hl 1 rfl) ?_
          obtain ⟨j340040, hj340040⟩ := wG_7 (cy := cy) (N := N) (T := T) (I := I) (Q := Q) (J := J340037) (hM.at 0 (by decide)) (hM.k 0 (by decide) rfl)
          refine va_get (D := (dC, dI)) (ci := 7) (v := .ref (T (w 0) 6)) (C := RX7) (T := TX7) (N := 18) hx hb hts hi7 hown hK hP j340040 hj340040 rfl 6 (by decide) (hts (.fieldLink RX7 31 "TallyLogsModel" "step" "[I") (by decide +kernel)) (fun _ h9 => h9) rfl dX7_create_105 ?_
          refine W.eq (g2 := F0 m 108 ls [.ref (w 7), .int xp, .ref (w 4)]) (by rw [hM.t 6 (by decide)]) ?_
          refine lv_iload_n hx hb dX7_create_108 rfl (lv_at hl 2 rfl) ?_
          obtain ⟨j340041, hj340041⟩ := wG_20 (cy := cy) (N := N) (T := T) (I := I) (Q := Q) (J := J340037) (hM.at 7 (by decide)) (hM.k 7 (by decide) rfl)
          refine va_iald hx hb hK hP j340041 1 hj340041 rfl (hM.inN (n := 4) 7 (by decide) rfl rfl hin340004) dX7_create_109 ?_
          refine lv_topi (fun x340042 ex340042 => ?_)
          have sx340042 : x340042 = sg340038.1 7 xp.toNatClampNeg := ex340042.trans (hMR.a (k := 7) (by decide) (by decide) (show _ < 4 from vp_lt (n := 4) hin340004))
          refine vp_callSi (W.runS (As := [.int x340042]) (rest := [.int xp, .ref (w 4)]) ⟨hx, hb, hml, hown, hts⟩ (c_J6_numberOfTrailingZeros_0f7a4 l x340042) (va_cwS 1 hts gX7_create_J6_numberOfTrailingZeros_0f7a4 rfl rfl rfl (by decide +kernel) ⟨Nat.le_of_ble_eq_true rfl, Nat.le_of_ble_eq_true rfl⟩) preEq rfl rfl hl.1 rfl (lv_room (Nat.le_of_ble_eq_true rfl)) dX7_create_110 ⟨Nat.le_of_ble_eq_true rfl, Nat.le_of_ble_eq_true rfl⟩) (fun r340043 hr340043 => ?_)
          subst hr340043
          obtain ⟨j340044, hj340044⟩ := wG_20 (cy := cy) (N := N) (T := T) (I := I) (Q := Q) (J := J340037) (hM.at 4 (by decide)) (hM.k 4 (by decide) rfl)
          have hDo := hD
          refine va_iast (x := (sp_nz x340042)) hx hb hK hP hD hS j340044 1 hj340044 rfl (hM.inN (n := 4) 4 (by decide) rfl rfl hin340004) dX7_create_113 (fun H locs hP hD hS => ?_)
          have hP := Eq.mp (congrArg (fun w => va_P (dC, dI) vwCl w H) (wS_20 hDo (hM.at 4 (by decide)) (hM.k 4 (by decide) rfl) hj340044)) hP
          obtain ⟨J340045, eJ340045⟩ : ∃ z, z = va_up J340037 (w 4) (upd (J340037 (w 4)) xp.toNatClampNeg (sp_nz x340042)) := ⟨_, rfl⟩
          rw [← eJ340045] at hP
          have hR : RM w [2] I J I J340045 := by rw [eJ340045]; exact hR.pj hM (by decide) (by decide)
          have esx340042 : x340042 = v340035 := by rw [ex340042, eJ340037, va_up_self]; simp only [upd, if_true]
          have hMD : MD w J340045 := by
            rw [eJ340045, eJ340037]
            refine MD.p4 hM (hMD.p7' hM) ?_
            rw [va_up_self]
            simp only [upd, if_true]
            rw [esx340042]
            have hu9 : ∃ u : Nat, u < 32 ∧ v340035 = nI u := by rw [ev340035, ex340034]; exact xu_and' hMU
            have h9 := xntz hu9 (fun q => c340015 (by rw [← q, ev340014, ev340001, ex340013, ev340035, ev340001, ex340034]))
            exact Or.inr ⟨h9.1, h9.2.2⟩
          have hD : va_D A (va_pl L (wF cy K N T I Q J340045)) := pD hDo
          obtain ⟨sg340046, esg340046⟩ : ∃ z, z = sA sg340038 4 xp.toNatClampNeg (sp_nz x340042) := ⟨_, rfl⟩
          have hMR : MR w I J340045 sg340046 := by rw [eJ340045, esg340046]; exact hMR.wa hM (by decide) (by decide)
          refine lv_iconst (v := 0) hx hb dX7_create_114 (by decide) ?_
          refine lv_istore (lv' := [(5, .int 0), (4, .int v340001), (0, .ref (w 0)), (1, .int xp), (2, .int xr), (3, .int xl)]) hx hb dX7_create_115 hl (by decide) rfl (fun ls hl => ?_)
          refine wq_gen (fun Qz hQz => ?_)
          have hLP340047 : ∀ (n : Nat) (y340048 : Int32) (Ia340047 Ja340047 : Nat → Nat → Int32) (H : Heap) (locs : List Loc) (ls : Array Slot), (5 - y340048.toInt).toNat < n → 0 ≤ y340048.toInt → (y340048.toInt ≤ 5) → RM w [2] I J Ia340047 Ja340047 → ML w E Ia340047 → MD w Ja340047 → MU w Ia340047 → MR w Ia340047 Ja340047 (gTwo sg340046 xp.toNatClampNeg 6 5 (σ.1 0 1) 0 y340048.toNatClampNeg) →  va_P (dC, dI) vwCl (va_pl L (wF cy K N T Ia340047 Q Ja340047)) H → va_D A (va_pl L (wF cy K N T Ia340047 Q Ja340047)) → va_S A s.heap H locs → lv_has ls 6 [(5, .int y340048), (4, .int v340001), (0, .ref (w 0)), (1, .int xp), (2, .int xr), (3, .int xl)] → W p l e (headSpec wsX7_create ({ frames := 1, cells := 0, slots := 0, locals := 27 })).room s m ([.ref (w 0), .int xp, .int xr, .int xl] : List Value).toArray below meth c H locs 0 0 Qz (F0 m 117 ls []) := by
            intro n
            induction n with
            | zero => intro y340048 Ia340047 Ja340047 H locs ls hms; exact absurd hms (Nat.not_lt_zero _)
            | succ n ih340047 =>
              intro y340048 Ia340047 Ja340047 H locs ls hms hnn340047 hiv340047 hR hML hMD hMU hMR hP hD hS hl
              refine lv_iload hx hb dX7_create_117 (lv_at hl 0 rfl) ?_
              refine lv_iconst (v := 5) hx hb dX7_create_119 (by decide) ?_
              refine lv_icmp_ge (tgt := 158) hx hb dX7_create_120 (by decide) (fun c340049 => ?_) (fun c340049 => ?_)
              · have kc340049 : 5 ≤ y340048.toInt := by have h9 := c340049; rw [xk_le, xk_5] at h9; exact h9
                refine lv_aload_n hx hb dX7_create_158 rfl (lv_at hl 2 rfl) ?_
                obtain ⟨j340050, hj340050⟩ := wG_7 (cy := cy) (N := N) (T := T) (I := Ia340047) (Q := Q) (J := Ja340047) (hM.at 0 (by decide)) (hM.k 0 (by decide) rfl)
                refine va_get (D := (dC, dI)) (ci := 7) (v := .ref (T (w 0) 3)) (C := RX7) (T := TX7) (N := 18) hx hb hts hi7 hown hK hP j340050 hj340050 rfl 3 (by decide) (hts (.fieldLink RX7 22 "TallyLogsModel" "leader" "[I") (by decide +kernel)) (fun _ h9 => h9) rfl dX7_create_159 ?_
                refine W.eq (g2 := F0 m 162 ls [.ref (w 4)]) (by rw [hM.t 3 (by decide)]) ?_
                refine lv_iload_n hx hb dX7_create_162 rfl (lv_at hl 3 rfl) ?_
                obtain ⟨j340051, hj340051⟩ := wG_20 (cy := cy) (N := N) (T := T) (I := Ia340047) (Q := Q) (J := Ja340047) (hM.at 4 (by decide)) (hM.k 4 (by decide) rfl)
                refine va_iald hx hb hK hP j340051 1 hj340051 rfl (hM.inN (n := 4) 4 (by decide) rfl rfl hin340004) dX7_create_163 ?_
                refine lv_topi (fun x340052 ex340052 => ?_)
                have sx340052 : x340052 = (gTwo sg340046 xp.toNatClampNeg 6 5 (σ.1 0 1) 0 y340048.toNatClampNeg).1 4 xp.toNatClampNeg := ex340052.trans (hMR.a (k := 4) (by decide) (by decide) (show _ < 4 from vp_lt (n := 4) hin340004))
                rw [hQz]
                exact W.iret (v := x340052) hx hb hr (fun t ht hW => ⟨⟨x340052, (Ia340047, Ja340047), rfl, ⟨⟨hML.mono (by omega), hMD, hMU⟩, by have e9 : qCe σ xp xr xl = (gTwo sg340046 xp.toNatClampNeg 6 5 (σ.1 0 1) 0 y340048.toNatClampNeg, x340052) := (by rw [qCe, if_neg c340003, if_neg (fun q => q (by have k9 := c340008; simp only [sx340007] at k9; exact k9)), if_neg (by have k9 := c340011; simp only [ev340001] at k9; exact k9), if_neg (by have k9 := c340015; simp only [ev340014, ev340001, sx340013] at k9; exact k9), sx340052, show y340048.toNatClampNeg = 5 by rw [clT]; omega, gTwo_1]; simp only [esg340046, sx340042, esg340038, ev340035, ev340001, sx340034, esg340031, esg340027, esg340023, esg340019, sA_s, sA_n, sA_2, sG_1, gTwo_1, nar1, not_false_eq_true] <;> rfl); show MR w Ia340047 Ja340047 _; rw [e9]; exact hMR, by have e9 : qCe σ xp xr xl = (gTwo sg340046 xp.toNatClampNeg 6 5 (σ.1 0 1) 0 y340048.toNatClampNeg, x340052) := (by rw [qCe, if_neg c340003, if_neg (fun q => q (by have k9 := c340008; simp only [sx340007] at k9; exact k9)), if_neg (by have k9 := c340011; simp only [ev340001] at k9; exact k9), if_neg (by have k9 := c340015; simp only [ev340014, ev340001, sx340013] at k9; exact k9), sx340052, show y340048.toNatClampNeg = 5 by rw [clT]; omega, gTwo_1]; simp only [esg340046, sx340042, esg340038, ev340035, ev340001, sx340034, esg340031, esg340027, esg340023, esg340019, sA_s, sA_n, sA_2, sG_1, gTwo_1, nar1, not_false_eq_true] <;> rfl); show _ = _; rw [e9]⟩, by rw [ht]; exact hP, va_K.moved hW.alike hK, hD⟩, hS.F ht⟩) hS.2.2 dX7_create_164
              · have kc340049 : ¬ (5 ≤ y340048.toInt) := by have h9 := c340049; rw [xk_le, xk_5] at h9; exact h9
                refine lv_aload_n hx hb dX7_create_123 rfl (lv_at hl 2 rfl) ?_
                obtain ⟨j340053, hj340053⟩ := wG_7 (cy := cy) (N := N) (T := T) (I := Ia340047) (Q := Q) (J := Ja340047) (hM.at 0 (by decide)) (hM.k 0 (by decide) rfl)
                refine va_get (D := (dC, dI)) (ci := 7) (v := .ref (T (w 0) 0)) (C := RX7) (T := TX7) (N := 18) hx hb hts hi7 hown hK hP j340053 hj340053 rfl 0 (by decide) (hts (.fieldLink RX7 11 "TallyLogsModel" "log" "[[LTallyLogsModel$Log;") (by decide +kernel)) (fun _ h9 => h9) rfl dX7_create_124 ?_
                refine W.eq (g2 := F0 m 127 ls [.ref (w 1)]) (by rw [hM.t 0 (by decide)]) ?_
                refine lv_iload_n hx hb dX7_create_127 rfl (lv_at hl 3 rfl) ?_
                obtain ⟨j340054, hj340054⟩ := wG_22 (cy := cy) (N := N) (T := T) (I := Ia340047) (Q := Q) (J := Ja340047) (hM.at 1 (by decide)) (hM.k 1 (by decide) rfl)
                refine xg_aldg hx hb hK hP j340054 2 hj340054 rfl hin340004 dX7_create_128 ?_
                refine W.eq (g2 := F0 m 129 ls [.ref (w (17 + xp.toNatClampNeg))]) (by rw [hM.qo (vp_lt (n := 4) hin340004)]; rfl) ?_
                refine lv_iload hx hb dX7_create_129 (lv_at hl 0 rfl) ?_
                obtain ⟨j340055, hj340055⟩ := wG_23 (cy := cy) (N := N) (T := T) (I := Ia340047) (Q := Q) (J := Ja340047) (hM.row (vp_lt (n := 4) hin340004)).1 (hM.row (vp_lt (n := 4) hin340004)).2
                refine va_aldq hx hb hK hP j340055 3 hj340055 rfl (xin_of hnn340047 (by have kc := c340049; simp only [xk_lt, xk_le, xk_0, xk_1, xk_2, xk_3, xk_4, xk_5, xk_6, xk_7, xk_8, xk_50] at kc; omega)) dX7_create_131 ?_
                have hjl340056 : (5 * xp.toNatClampNeg + y340048.toNatClampNeg) < 20 := by have h1 := (vp_lt (n := 4) hin340004); have h2 := (vp_lt (n := 5) (xin_of hnn340047 (by have kc := c340049; simp only [xk_lt, xk_le, xk_0, xk_1, xk_2, xk_3, xk_4, xk_5, xk_6, xk_7, xk_8, xk_50] at kc; omega))); omega
                refine W.eq (g2 := F0 m 132 ls [.ref (w (21 + (5 * xp.toNatClampNeg + y340048.toNatClampNeg)))]) (by rw [hM.qr (vp_lt (n := 4) hin340004) (vp_lt (n := 5) (xin_of hnn340047 (by have kc := c340049; simp only [xk_lt, xk_le, xk_0, xk_1, xk_2, xk_3, xk_4, xk_5, xk_6, xk_7, xk_8, xk_50] at kc; omega)))]; rfl) ?_
                refine lv_aload_n hx hb dX7_create_132 rfl (lv_at hl 2 rfl) ?_
                obtain ⟨j340057, hj340057⟩ := wG_7 (cy := cy) (N := N) (T := T) (I := Ia340047) (Q := Q) (J := Ja340047) (hM.at 0 (by decide)) (hM.k 0 (by decide) rfl)
                refine va_get (D := (dC, dI)) (ci := 7) (v := .int (Ia340047 (w 0) 17)) (C := RX7) (T := TX7) (N := 18) hx hb hts hi7 hown hK hP j340057 hj340057 rfl 17 (by decide) (hts (.fieldLink RX7 119 "TallyLogsModel" "now" "I") (by decide +kernel)) (fun _ h9 => h9) rfl dX7_create_133 ?_
                refine lv_topi (fun x340058 ex340058 => ?_)
                have sx340058 : x340058 = (gTwo sg340046 xp.toNatClampNeg 6 5 (σ.1 0 1) 0 y340048.toNatClampNeg).1 0 1 := ex340058.trans hMR.1.2
                have tx340058 : x340058.toInt = (Ia340047 (w 0) 17).toInt := congrArg Int32.toInt ex340058
                obtain ⟨j340059, hj340059⟩ := wG_6 (cy := cy) (N := N) (T := T) (I := Ia340047) (Q := Q) (J := Ja340047) (hM.lg hjl340056).1 (hM.lg hjl340056).2
                have hDo := hD
                refine va_put (D := (dC, dI)) (ci := 6) (v := .int x340058) (ty := .int) (C := RX6) (T := TX6) (N := 7) hx hb hts hi6 tyX6 tyX6_ok nmX6 hown hK hP hD hS j340059 hj340059 rfl 6 (by decide) (hts (.fieldLink RX7 122 "TallyLogsModel$Log" "caught" "I") (by decide +kernel)) (fun _ h9 => h9) rfl (by decide +kernel) rfl rfl (Nat.le_of_ble_eq_true rfl) dX7_create_136 (fun H locs hP hD hS => ?_)
                have hP := Eq.mp (congrArg (fun w => va_P (dC, dI) vwCl w H) (wP_6_6 (x := x340058) hDo (hM.lg hjl340056).1 (hM.lg hjl340056).2 hj340059)) hP
                obtain ⟨I340060, eI340060⟩ : ∃ z, z = p2 Ia340047 (w (21 + (5 * xp.toNatClampNeg + y340048.toNatClampNeg))) 6 x340058 := ⟨_, rfl⟩
                rw [← eI340060] at hP
                have hD : va_D A (va_pl L (wF cy K N T I340060 Q Ja340047)) := pD hDo
                obtain ⟨sg340061, esg340061⟩ : ∃ z, z = sG (gTwo sg340046 xp.toNatClampNeg 6 5 (σ.1 0 1) 0 y340048.toNatClampNeg) (5 * xp.toNatClampNeg + y340048.toNatClampNeg) 6 x340058 := ⟨_, rfl⟩
                have hMR : MR w I340060 Ja340047 sg340061 := by rw [eI340060, esg340061]; exact hMR.wg hM hjl340056 (by decide) (by decide)
                have hR : RM w [2] I J I340060 Ja340047 := by rw [eI340060]; exact hR.pl hM hjl340056
                have hMU : MU w I340060 := by rw [eI340060]; exact hMU.pl hM hjl340056
                have hML : ML w E I340060 := by rw [eI340060]; exact hML.p56 hM hjl340056 (by decide)
                refine lv_aload_n hx hb dX7_create_139 rfl (lv_at hl 2 rfl) ?_
                obtain ⟨j340062, hj340062⟩ := wG_7 (cy := cy) (N := N) (T := T) (I := I340060) (Q := Q) (J := Ja340047) (hM.at 0 (by decide)) (hM.k 0 (by decide) rfl)
                refine va_get (D := (dC, dI)) (ci := 7) (v := .ref (T (w 0) 0)) (C := RX7) (T := TX7) (N := 18) hx hb hts hi7 hown hK hP j340062 hj340062 rfl 0 (by decide) (hts (.fieldLink RX7 11 "TallyLogsModel" "log" "[[LTallyLogsModel$Log;") (by decide +kernel)) (fun _ h9 => h9) rfl dX7_create_140 ?_
                refine W.eq (g2 := F0 m 143 ls [.ref (w 1)]) (by rw [hM.t 0 (by decide)]) ?_
                refine lv_iload_n hx hb dX7_create_143 rfl (lv_at hl 3 rfl) ?_
                obtain ⟨j340063, hj340063⟩ := wG_22 (cy := cy) (N := N) (T := T) (I := I340060) (Q := Q) (J := Ja340047) (hM.at 1 (by decide)) (hM.k 1 (by decide) rfl)
                refine xg_aldg hx hb hK hP j340063 2 hj340063 rfl hin340004 dX7_create_144 ?_
                refine W.eq (g2 := F0 m 145 ls [.ref (w (17 + xp.toNatClampNeg))]) (by rw [hM.qo (vp_lt (n := 4) hin340004)]; rfl) ?_
                refine lv_iload hx hb dX7_create_145 (lv_at hl 0 rfl) ?_
                obtain ⟨j340064, hj340064⟩ := wG_23 (cy := cy) (N := N) (T := T) (I := I340060) (Q := Q) (J := Ja340047) (hM.row (vp_lt (n := 4) hin340004)).1 (hM.row (vp_lt (n := 4) hin340004)).2
                refine va_aldq hx hb hK hP j340064 3 hj340064 rfl (xin_of hnn340047 (by have kc := c340049; simp only [xk_lt, xk_le, xk_0, xk_1, xk_2, xk_3, xk_4, xk_5, xk_6, xk_7, xk_8, xk_50] at kc; omega)) dX7_create_147 ?_
                have hjl340065 : (5 * xp.toNatClampNeg + y340048.toNatClampNeg) < 20 := by have h1 := (vp_lt (n := 4) hin340004); have h2 := (vp_lt (n := 5) (xin_of hnn340047 (by have kc := c340049; simp only [xk_lt, xk_le, xk_0, xk_1, xk_2, xk_3, xk_4, xk_5, xk_6, xk_7, xk_8, xk_50] at kc; omega))); omega
                refine W.eq (g2 := F0 m 148 ls [.ref (w (21 + (5 * xp.toNatClampNeg + y340048.toNatClampNeg)))]) (by rw [hM.qr (vp_lt (n := 4) hin340004) (vp_lt (n := 5) (xin_of hnn340047 (by have kc := c340049; simp only [xk_lt, xk_le, xk_0, xk_1, xk_2, xk_3, xk_4, xk_5, xk_6, xk_7, xk_8, xk_50] at kc; omega)))]; rfl) ?_
                refine lv_iconst (v := 0) hx hb dX7_create_148 (by decide) ?_
                obtain ⟨j340066, hj340066⟩ := wG_6 (cy := cy) (N := N) (T := T) (I := I340060) (Q := Q) (J := Ja340047) (hM.lg hjl340065).1 (hM.lg hjl340065).2
                have hDo := hD
                refine va_put (D := (dC, dI)) (ci := 6) (v := .int 0) (ty := .int) (C := RX6) (T := TX6) (N := 7) hx hb hts hi6 tyX6 tyX6_ok nmX6 hown hK hP hD hS j340066 hj340066 rfl 5 (by decide) (hts (.fieldLink RX7 92 "TallyLogsModel$Log" "known" "I") (by decide +kernel)) (fun _ h9 => h9) rfl (by decide +kernel) rfl rfl (Nat.le_of_ble_eq_true rfl) dX7_create_149 (fun H locs hP hD hS => ?_)
                have hP := Eq.mp (congrArg (fun w => va_P (dC, dI) vwCl w H) (wP_6_5 (x := 0) hDo (hM.lg hjl340065).1 (hM.lg hjl340065).2 hj340066)) hP
                obtain ⟨I340067, eI340067⟩ : ∃ z, z = p2 I340060 (w (21 + (5 * xp.toNatClampNeg + y340048.toNatClampNeg))) 5 0 := ⟨_, rfl⟩
                rw [← eI340067] at hP
                have hD : va_D A (va_pl L (wF cy K N T I340067 Q Ja340047)) := pD hDo
                obtain ⟨sg340068, esg340068⟩ : ∃ z, z = sG sg340061 (5 * xp.toNatClampNeg + y340048.toNatClampNeg) 5 0 := ⟨_, rfl⟩
                have hMR : MR w I340067 Ja340047 sg340068 := by rw [eI340067, esg340068]; exact hMR.wg hM hjl340065 (by decide) (by decide)
                have hR : RM w [2] I J I340067 Ja340047 := by rw [eI340067]; exact hR.pl hM hjl340065
                have hMU : MU w I340067 := by rw [eI340067]; exact hMU.pl hM hjl340065
                have hML : ML w E I340067 := by rw [eI340067]; exact hML.p56 hM hjl340065 (by decide)
                obtain ⟨v340069, ev340069⟩ : ∃ y : Int32, y = y340048 + Int32.ofInt 1 := ⟨_, rfl⟩
                refine lv_iinc (v := v340069) (lv' := [(5, .int v340069), (4, .int v340001), (0, .ref (w 0)), (1, .int xp), (2, .int xr), (3, .int xl)]) hx hb dX7_create_152 hl (k := 0) rfl ev340069.symm (by decide) rfl (fun ls hl => ?_)
                refine lv_goto (tgt := 117) hx hb dX7_create_155 (by decide) ?_
                have tv340069 : v340069.toInt = y340048.toInt + 1 := by rw [ev340069, show y340048 + Int32.ofInt 1 = y340048 + 1 from rfl]; exact xinc (y := (5 : Int32)) (by rw [xk_lt, xk_5]; omega)
                exact ih340047 _ _ _ _ _ _ (by omega) (by omega) (by omega) hR (hML.mono (by omega)) hMD hMU (by have vx340058 : x340058 = σ.1 0 1 := (by rw [sx340058]; simp only [esg340061, esg340046, sx340042, esg340038, ev340035, ev340001, sx340034, esg340031, esg340027, esg340023, esg340019, sA_s, sA_n, sA_2, sG_1, gTwo_1, nar1, not_false_eq_true] <;> rfl); have z1 := esg340061; have z2 := esg340068; rw [vx340058] at z1; rw [clsucc (y := y340048) (by omega) tv340069]; show MR w _ _ (sG (sG (gTwo sg340046 xp.toNatClampNeg 6 5 (σ.1 0 1) 0 y340048.toNatClampNeg) (5 * xp.toNatClampNeg + y340048.toNatClampNeg) 6 (σ.1 0 1)) (5 * xp.toNatClampNeg + y340048.toNatClampNeg) 5 0); rw [← z1, ← z2]; exact hMR) hP hD hS (lv_sub hl [0, 1, 2, 3, 4, 5] rfl)
          exact hLP340047 _ _ _ _ _ _ _ (Nat.lt_succ_self _) (by decide) (by decide) hR (hML.mono (by omega)) hMD hMU (by rw [cl_0]; exact hMR) hP hD hS (lv_sub hl [0, 1, 2, 3, 4, 5] rfl)
        · have kc340015 : v340014.toInt = 0 := by have h9 := c340015; rw [xk_eq, xk_0] at h9; exact h9
          refine lv_bipush (v := (-2)) hx hb dX7_create_54 (by decide) ?_
          exact W.iret (v := (-2)) hx hb hr (fun t ht hW => ⟨⟨(-2), (I, J), rfl, ⟨⟨hML.mono (by omega), hMD, hMU⟩, by have e9 : qCe σ xp xr xl = (σ, (-2)) := (by rw [qCe, if_neg c340003, if_neg (fun q => q (by have k9 := c340008; simp only [sx340007] at k9; exact k9)), if_neg (by have k9 := c340011; simp only [ev340001] at k9; exact k9), if_pos (by have k9 := c340015; simp only [ev340014, ev340001, sx340013] at k9; exact k9)]); show MR w I J _; rw [e9]; exact hMR, by have e9 : qCe σ xp xr xl = (σ, (-2)) := (by rw [qCe, if_neg c340003, if_neg (fun q => q (by have k9 := c340008; simp only [sx340007] at k9; exact k9)), if_neg (by have k9 := c340011; simp only [ev340001] at k9; exact k9), if_pos (by have k9 := c340015; simp only [ev340014, ev340001, sx340013] at k9; exact k9)]); show _ = _; rw [e9]⟩, by rw [ht]; exact hP, va_K.moved hW.alike hK, hD⟩, hS.F ht⟩) hS.2.2 dX7_create_56
      · refine lv_iconst (v := (-1)) hx hb dX7_create_42 (by decide) ?_
        exact W.iret (v := (-1)) hx hb hr (fun t ht hW => ⟨⟨(-1), (I, J), rfl, ⟨⟨hML.mono (by omega), hMD, hMU⟩, by have e9 : qCe σ xp xr xl = (σ, (-1)) := (by rw [qCe, if_neg c340003, if_neg (fun q => q (by have k9 := c340008; simp only [sx340007] at k9; exact k9)), if_pos (by have k9 := c340011; simp only [ev340001] at k9; exact k9)]); show MR w I J _; rw [e9]; exact hMR, by have e9 : qCe σ xp xr xl = (σ, (-1)) := (by rw [qCe, if_neg c340003, if_neg (fun q => q (by have k9 := c340008; simp only [sx340007] at k9; exact k9)), if_pos (by have k9 := c340011; simp only [ev340001] at k9; exact k9)]); show _ = _; rw [e9]⟩, by rw [ht]; exact hP, va_K.moved hW.alike hK, hD⟩, hS.F ht⟩) hS.2.2 dX7_create_43
set_option maxHeartbeats 4000000 in
set_option maxRecDepth 100000 in
/-- elect, exactly -/
theorem f_X7_elect (l : Launch) (dC : Nat → ClassId) (dI : Nat → Nat → Nat) (cy : Nat → ClassId) (w : Nat → Nat) (L : List Nat) (K N : Nat → Nat) (T : Nat → Nat → Nat) (Q : Nat → Nat → Option Nat) (I J : Nat → Nat → Int32) (sz : Nat) (E : Int) (xp : Int32) (un : Int32) (σ : SG) (hM : MS w L K N T Q) (hI : MI w E I J) (hE : E ≤ 1000) (hMR : MR w I J σ) : Met l yX7_elect wsX7_elect ({ frames := 4, cells := 0, slots := 0, locals := 99 }) (va_Pc [.ref (w 0), .int xp, .int un] (mW dC dI cy L (wF cy K N T I Q J) sz)) (va_Qi (fun (r : Int32) (d : (Nat → Nat → Int32) × (Nat → Nat → Int32)) => MI w (E + 5) d.1 d.2 ∧ MR w d.1 d.2 (qEl σ xp un).1 ∧ r = (qEl σ xp un).2) (fun (d : (Nat → Nat → Int32) × (Nat → Nat → Int32)) t => va_P (dC, dI) vwCl (va_pl L (wF cy K N T d.1 Q d.2)) t.heap ∧ va_K (dC, dI) vwCl (mTy cy) t ∧ va_D (va_A (va_pl L (wF cy K N T I Q J)) sz) (va_pl L (wF cy K N T d.1 Q d.2))) (va_A (va_pl L (wF cy K N T I Q J)) sz)) 0 0 (va_A (va_pl L (wF cy K N T I Q J)) sz) := by
  refine Met.ofW (cc := cX7_elect) (maxL := 6) (ret := (some .int)) (by decide) rfl ?_
  intro p e s m args below meth c s₁ B hml hv
  obtain ⟨rfl, hsz, ⟨hP, hK⟩, hD0⟩ := hv
  have hx := B.exec
  have hb := B.bytes
  have hr := B.returns
  have hts := atoms_spec (ws := wsX7_elect) B.pre
  have hown : s.vm.findClass RX7 = some m.cls := findClass_of_methodNamed B.named
  have hlocks := B.notSynchronized
  have hi7 : ∀ w ∈ wsX70, w ∈ wsX7_elect := by decide +kernel
  have hi6 : ∀ w ∈ wsX60, w ∈ wsX7_elect := by decide +kernel
  have hl := lv_entry ([.ref (w 0), .int xp, .int un]) (n := 6) (Nat.le_of_ble_eq_true rfl)
  rw [lg_entry_eq]
  generalize (lg_sl ([.ref (w 0), .int xp, .int un]) ++ List.replicate (6 - (lg_sl ([.ref (w 0), .int xp, .int un])).length) Slot.unset).toArray = ls at hl ⊢
  have hl : lv_has ls 6 [(0, .ref (w 0)), (1, .int xp), (2, .int un)] := hl
  subst hsz
  have hD := hD0.self (sz := s.heap.size)
  generalize hAe : va_A (va_pl L (wF cy K N T I Q J)) s.heap.size = A at hD ⊢
  have hA : ∀ q : Nat, s.heap.size ≤ q → A q := fun q h => by rw [← hAe]; exact Or.inr h
  have hS : va_S A s.heap s.heap [] := va_S.rf
  have hR : RM w [] I J I J := RM.rf
  obtain ⟨hML, hMD, hMU⟩ := hI
  refine lv_aload_n hx hb dX7_elect_0 rfl (lv_at hl 0 rfl) ?_
  refine lv_iload_n hx hb dX7_elect_1 rfl (lv_at hl 1 rfl) ?_
  obtain ⟨j340071, hj340071⟩ := wG_7 (cy := cy) (N := N) (T := T) (I := I) (Q := Q) (J := J) (hM.at 0 (by decide)) (hM.k 0 (by decide) rfl)
  refine vp_callSi (W.runV (As := [.int xp]) (rest := []) ⟨hx, hb, hml, hown, hts⟩ (c_X7_isThere l dC dI cy w L K N T Q I J xp hM) (cwV 1 hts gX7_elect_X7_isThere rfl rfl rfl (by decide +kernel) ⟨Nat.le_of_ble_eq_true rfl, Nat.le_of_ble_eq_true rfl⟩) ⟨mb_blind, va_recv hK hP (ci := 7) (q0 := j340071) rfl hj340071, fun U hU hW => ⟨rfl, mb_pre hP hK hU hW⟩⟩ rfl rfl hl.1 rfl (lv_room (Nat.le_of_ble_eq_true rfl)) dX7_elect_2 ⟨Nat.le_of_ble_eq_true rfl, Nat.le_of_ble_eq_true rfl⟩) (fun r340070 hr340070 => ?_)
  have hir340070 : r340070 = sp_it (σ.1 2) xp := hr340070.trans (hMR.it _)
  refine lv_if_ne (tgt := 10) hx hb dX7_elect_5 (by decide) (fun c340072 => ?_) (fun c340072 => ?_)
  · have hth340073 := sp_it1 (by rw [← hr340070]; exact c340072)
    have kc340072 : ¬ (r340070.toInt = 0) := by have h9 := c340072; rw [xk_eq, xk_0] at h9; exact h9
    refine lv_aload_n hx hb dX7_elect_10 rfl (lv_at hl 0 rfl) ?_
    obtain ⟨j340074, hj340074⟩ := wG_7 (cy := cy) (N := N) (T := T) (I := I) (Q := Q) (J := J) (hM.at 0 (by decide)) (hM.k 0 (by decide) rfl)
    refine va_get (D := (dC, dI)) (ci := 7) (v := .ref (T (w 0) 6)) (C := RX7) (T := TX7) (N := 18) hx hb hts hi7 hown hK hP j340074 hj340074 rfl 6 (by decide) (hts (.fieldLink RX7 31 "TallyLogsModel" "step" "[I") (by decide +kernel)) (fun _ h9 => h9) rfl dX7_elect_11 ?_
    refine W.eq (g2 := F0 m 14 ls [.ref (w 7)]) (by rw [hM.t 6 (by decide)]) ?_
    refine lv_iload_n hx hb dX7_elect_14 rfl (lv_at hl 1 rfl) ?_
    obtain ⟨j340075, hj340075⟩ := wG_20 (cy := cy) (N := N) (T := T) (I := I) (Q := Q) (J := J) (hM.at 7 (by decide)) (hM.k 7 (by decide) rfl)
    refine va_iald hx hb hK hP j340075 1 hj340075 rfl (hM.inN (n := 4) 7 (by decide) rfl rfl hth340073.1) dX7_elect_15 ?_
    refine lv_topi (fun x340076 ex340076 => ?_)
    have sx340076 : x340076 = σ.1 7 xp.toNatClampNeg := ex340076.trans (hMR.a (k := 7) (by decide) (by decide) (show _ < 4 from vp_lt (n := 4) hth340073.1))
    refine lv_aload_n hx hb dX7_elect_16 rfl (lv_at hl 0 rfl) ?_
    obtain ⟨j340077, hj340077⟩ := wG_7 (cy := cy) (N := N) (T := T) (I := I) (Q := Q) (J := J) (hM.at 0 (by decide)) (hM.k 0 (by decide) rfl)
    refine va_get (D := (dC, dI)) (ci := 7) (v := .int (I (w 0) 16)) (C := RX7) (T := TX7) (N := 18) hx hb hts hi7 hown hK hP j340077 hj340077 rfl 16 (by decide) (hts (.fieldLink RX7 61 "TallyLogsModel" "up" "I") (by decide +kernel)) (fun _ h9 => h9) rfl dX7_elect_17 ?_
    refine lv_topi (fun x340078 ex340078 => ?_)
    have sx340078 : x340078 = σ.1 0 0 := ex340078.trans hMR.1.1
    have tx340078 : x340078.toInt = (I (w 0) 16).toInt := congrArg Int32.toInt ex340078
    refine lv_iand hx hb dX7_elect_20 ?_
    refine lv_topi (fun v340079 ev340079 => ?_)
    refine lv_istore_n (lv' := [(3, .int v340079), (0, .ref (w 0)), (1, .int xp), (2, .int un)]) hx hb dX7_elect_21 rfl hl (by decide) rfl (fun ls hl => ?_)
    refine lv_iload_n hx hb dX7_elect_22 rfl (lv_at hl 0 rfl) ?_
    refine lv_if_ne (tgt := 42) hx hb dX7_elect_23 (by decide) (fun c340080 => ?_) (fun c340080 => ?_)
    · have kc340080 : ¬ (v340079.toInt = 0) := by have h9 := c340080; rw [xk_eq, xk_0] at h9; exact h9
      refine lv_iload_n hx hb dX7_elect_42 rfl (lv_at hl 0 rfl) ?_
      refine lv_if_ne (tgt := 49) hx hb dX7_elect_43 (by decide) (fun c340081 => ?_) (fun c340081 => ?_)
      · have kc340081 : ¬ (v340079.toInt = 0) := by have h9 := c340081; rw [xk_eq, xk_0] at h9; exact h9
        have hmy340082 := xntz (a := v340079) (show ∃ u : Nat, u < 32 ∧ v340079 = nI u by rw [ev340079, ex340078]; exact xu_and' hMU) c340081
        refine lv_iload_n hx hb dX7_elect_49 rfl (lv_at hl 0 rfl) ?_
        refine vp_callSi (W.runS (As := [.int v340079]) (rest := []) ⟨hx, hb, hml, hown, hts⟩ (c_J6_numberOfTrailingZeros_0f7a4 l v340079) (va_cwS 1 hts gX7_elect_J6_numberOfTrailingZeros_0f7a4 rfl rfl rfl (by decide +kernel) ⟨Nat.le_of_ble_eq_true rfl, Nat.le_of_ble_eq_true rfl⟩) preEq rfl rfl hl.1 rfl (lv_room (Nat.le_of_ble_eq_true rfl)) dX7_elect_50 ⟨Nat.le_of_ble_eq_true rfl, Nat.le_of_ble_eq_true rfl⟩) (fun r340083 hr340083 => ?_)
        subst hr340083
        refine lv_istore (lv' := [(4, .int (sp_nz v340079)), (3, .int v340079), (0, .ref (w 0)), (1, .int xp), (2, .int un)]) hx hb dX7_elect_53 hl (by decide) rfl (fun ls hl => ?_)
        refine lv_aload_n hx hb dX7_elect_55 rfl (lv_at hl 2 rfl) ?_
        obtain ⟨j340084, hj340084⟩ := wG_7 (cy := cy) (N := N) (T := T) (I := I) (Q := Q) (J := J) (hM.at 0 (by decide)) (hM.k 0 (by decide) rfl)
        refine va_get (D := (dC, dI)) (ci := 7) (v := .ref (T (w 0) 6)) (C := RX7) (T := TX7) (N := 18) hx hb hts hi7 hown hK hP j340084 hj340084 rfl 6 (by decide) (hts (.fieldLink RX7 31 "TallyLogsModel" "step" "[I") (by decide +kernel)) (fun _ h9 => h9) rfl dX7_elect_56 ?_
        refine W.eq (g2 := F0 m 59 ls [.ref (w 7)]) (by rw [hM.t 6 (by decide)]) ?_
        refine lv_iload_n hx hb dX7_elect_59 rfl (lv_at hl 3 rfl) ?_
        obtain ⟨j340085, hj340085⟩ := wG_20 (cy := cy) (N := N) (T := T) (I := I) (Q := Q) (J := J) (hM.at 7 (by decide)) (hM.k 7 (by decide) rfl)
        refine va_iald hx hb hK hP j340085 1 hj340085 rfl (hM.inN (n := 4) 7 (by decide) rfl rfl hth340073.1) dX7_elect_60 ?_
        refine lv_topi (fun x340086 ex340086 => ?_)
        have sx340086 : x340086 = σ.1 7 xp.toNatClampNeg := ex340086.trans (hMR.a (k := 7) (by decide) (by decide) (show _ < 4 from vp_lt (n := 4) hth340073.1))
        refine lv_iload hx hb dX7_elect_61 (lv_at hl 0 rfl) ?_
        refine lv_ishr hx hb dX7_elect_63 ?_
        refine lv_topi (fun v340087 ev340087 => ?_)
        refine lv_iconst (v := 1) hx hb dX7_elect_64 (by decide) ?_
        refine lv_iand hx hb dX7_elect_65 ?_
        refine lv_topi (fun v340088 ev340088 => ?_)
        refine lv_if_ne (tgt := 79) hx hb dX7_elect_66 (by decide) (fun c340089 => ?_) (fun c340089 => ?_)
        · have kc340089 : ¬ (v340088.toInt = 0) := by have h9 := c340089; rw [xk_eq, xk_0] at h9; exact h9
          refine lv_aload_n hx hb dX7_elect_79 rfl (lv_at hl 2 rfl) ?_
          obtain ⟨j340090, hj340090⟩ := wG_7 (cy := cy) (N := N) (T := T) (I := I) (Q := Q) (J := J) (hM.at 0 (by decide)) (hM.k 0 (by decide) rfl)
          refine va_get (D := (dC, dI)) (ci := 7) (v := .ref (T (w 0) 3)) (C := RX7) (T := TX7) (N := 18) hx hb hts hi7 hown hK hP j340090 hj340090 rfl 3 (by decide) (hts (.fieldLink RX7 22 "TallyLogsModel" "leader" "[I") (by decide +kernel)) (fun _ h9 => h9) rfl dX7_elect_80 ?_
          refine W.eq (g2 := F0 m 83 ls [.ref (w 4)]) (by rw [hM.t 3 (by decide)]) ?_
          refine lv_iload_n hx hb dX7_elect_83 rfl (lv_at hl 3 rfl) ?_
          refine lv_iload hx hb dX7_elect_84 (lv_at hl 0 rfl) ?_
          obtain ⟨j340091, hj340091⟩ := wG_20 (cy := cy) (N := N) (T := T) (I := I) (Q := Q) (J := J) (hM.at 4 (by decide)) (hM.k 4 (by decide) rfl)
          have hDo := hD
          refine va_iast (x := (sp_nz v340079)) hx hb hK hP hD hS j340091 1 hj340091 rfl (hM.inN (n := 4) 4 (by decide) rfl rfl hth340073.1) dX7_elect_86 (fun H locs hP hD hS => ?_)
          have hP := Eq.mp (congrArg (fun w => va_P (dC, dI) vwCl w H) (wS_20 hDo (hM.at 4 (by decide)) (hM.k 4 (by decide) rfl) hj340091)) hP
          obtain ⟨J340092, eJ340092⟩ : ∃ z, z = va_up J (w 4) (upd (J (w 4)) xp.toNatClampNeg (sp_nz v340079)) := ⟨_, rfl⟩
          rw [← eJ340092] at hP
          have hR : RM w [] I J I J340092 := by rw [eJ340092]; exact hR.pj hM (by decide) (by decide)
          have hMD : MD w J340092 := by
            rw [eJ340092]
            refine MD.p4 hM (fun p hp _ => hMD p hp) (Or.inr ⟨hmy340082.1, ?_⟩)
            have h9 := xbit _ (fun q => c340089 ((ev340088).trans q))
            rw [ev340087, ex340086] at h9
            exact h9
          have hD : va_D A (va_pl L (wF cy K N T I Q J340092)) := pD hDo
          obtain ⟨sg340093, esg340093⟩ : ∃ z, z = sA σ 4 xp.toNatClampNeg (sp_nz v340079) := ⟨_, rfl⟩
          have hMR : MR w I J340092 sg340093 := by rw [eJ340092, esg340093]; exact hMR.wa hM (by decide) (by decide)
          refine lv_aload_n hx hb dX7_elect_87 rfl (lv_at hl 2 rfl) ?_
          obtain ⟨j340094, hj340094⟩ := wG_7 (cy := cy) (N := N) (T := T) (I := I) (Q := Q) (J := J340092) (hM.at 0 (by decide)) (hM.k 0 (by decide) rfl)
          refine va_get (D := (dC, dI)) (ci := 7) (v := .ref (T (w 0) 4)) (C := RX7) (T := TX7) (N := 18) hx hb hts hi7 hown hK hP j340094 hj340094 rfl 4 (by decide) (hts (.fieldLink RX7 25 "TallyLogsModel" "epoch" "[I") (by decide +kernel)) (fun _ h9 => h9) rfl dX7_elect_88 ?_
          refine W.eq (g2 := F0 m 91 ls [.ref (w 5)]) (by rw [hM.t 4 (by decide)]) ?_
          refine lv_iload_n hx hb dX7_elect_91 rfl (lv_at hl 3 rfl) ?_
          refine lv_dup2_11 hx hb dX7_elect_92 rfl rfl ?_
          obtain ⟨j340095, hj340095⟩ := wG_20 (cy := cy) (N := N) (T := T) (I := I) (Q := Q) (J := J340092) (hM.at 5 (by decide)) (hM.k 5 (by decide) rfl)
          refine va_iald hx hb hK hP j340095 1 hj340095 rfl (hM.inN (n := 4) 5 (by decide) rfl rfl hth340073.1) dX7_elect_93 ?_
          refine lv_topi (fun x340096 ex340096 => ?_)
          have sx340096 : x340096 = sg340093.1 5 xp.toNatClampNeg := ex340096.trans (hMR.a (k := 5) (by decide) (by decide) (show _ < 4 from vp_lt (n := 4) hth340073.1))
          refine lv_iconst (v := 1) hx hb dX7_elect_94 (by decide) ?_
          refine lv_iadd hx hb dX7_elect_95 ?_
          refine lv_topi (fun v340097 ev340097 => ?_)
          obtain ⟨j340098, hj340098⟩ := wG_20 (cy := cy) (N := N) (T := T) (I := I) (Q := Q) (J := J340092) (hM.at 5 (by decide)) (hM.k 5 (by decide) rfl)
          have hDo := hD
          refine va_iast (x := v340097) hx hb hK hP hD hS j340098 1 hj340098 rfl (hM.inN (n := 4) 5 (by decide) rfl rfl hth340073.1) dX7_elect_96 (fun H locs hP hD hS => ?_)
          have hP := Eq.mp (congrArg (fun w => va_P (dC, dI) vwCl w H) (wS_20 hDo (hM.at 5 (by decide)) (hM.k 5 (by decide) rfl) hj340098)) hP
          obtain ⟨J340099, eJ340099⟩ : ∃ z, z = va_up J340092 (w 5) (upd (J340092 (w 5)) xp.toNatClampNeg v340097) := ⟨_, rfl⟩
          rw [← eJ340099] at hP
          have hR : RM w [] I J I J340099 := by rw [eJ340099]; exact hR.pj hM (by decide) (by decide)
          have hMD : MD w J340099 := by rw [eJ340099]; exact hMD.pj hM (by decide) (by decide)
          have hD : va_D A (va_pl L (wF cy K N T I Q J340099)) := pD hDo
          obtain ⟨sg340100, esg340100⟩ : ∃ z, z = sA sg340093 5 xp.toNatClampNeg v340097 := ⟨_, rfl⟩
          have hMR : MR w I J340099 sg340100 := by rw [eJ340099, esg340100]; exact hMR.wa hM (by decide) (by decide)
          refine lv_iconst (v := 0) hx hb dX7_elect_97 (by decide) ?_
          refine lv_istore (lv' := [(5, .int 0), (4, .int (sp_nz v340079)), (3, .int v340079), (0, .ref (w 0)), (1, .int xp), (2, .int un)]) hx hb dX7_elect_98 hl (by decide) rfl (fun ls hl => ?_)
          refine wq_gen (fun Qz hQz => ?_)
          have hLP340101 : ∀ (n : Nat) (y340102 : Int32) (Ia340101 Ja340101 : Nat → Nat → Int32) (H : Heap) (locs : List Loc) (ls : Array Slot), (5 - y340102.toInt).toNat < n → 0 ≤ y340102.toInt → (y340102.toInt ≤ 5) → RM w [] I J Ia340101 Ja340101 → ML w E Ia340101 → MD w Ja340101 → MU w Ia340101 → MR w Ia340101 Ja340101 (gTwo sg340100 xp.toNatClampNeg 5 6 (-1) (σ.1 0 1) y340102.toNatClampNeg) →  va_P (dC, dI) vwCl (va_pl L (wF cy K N T Ia340101 Q Ja340101)) H → va_D A (va_pl L (wF cy K N T Ia340101 Q Ja340101)) → va_S A s.heap H locs → lv_has ls 6 [(5, .int y340102), (4, .int (sp_nz v340079)), (3, .int v340079), (0, .ref (w 0)), (1, .int xp), (2, .int un)] → W p l e (headSpec wsX7_elect ({ frames := 4, cells := 0, slots := 0, locals := 99 })).room s m ([.ref (w 0), .int xp, .int un] : List Value).toArray below meth c H locs 0 0 Qz (F0 m 100 ls []) := by
            intro n
            induction n with
            | zero => intro y340102 Ia340101 Ja340101 H locs ls hms; exact absurd hms (Nat.not_lt_zero _)
            | succ n ih340101 =>
              intro y340102 Ia340101 Ja340101 H locs ls hms hnn340101 hiv340101 hR hML hMD hMU hMR hP hD hS hl
              refine lv_iload hx hb dX7_elect_100 (lv_at hl 0 rfl) ?_
              refine lv_iconst (v := 5) hx hb dX7_elect_102 (by decide) ?_
              refine lv_icmp_ge (tgt := 141) hx hb dX7_elect_103 (by decide) (fun c340103 => ?_) (fun c340103 => ?_)
              · have kc340103 : 5 ≤ y340102.toInt := by have h9 := c340103; rw [xk_le, xk_5] at h9; exact h9
                refine lv_aload_n hx hb dX7_elect_141 rfl (lv_at hl 3 rfl) ?_
                refine lv_iload_n hx hb dX7_elect_142 rfl (lv_at hl 4 rfl) ?_
                obtain ⟨j340104, hj340104⟩ := wG_7 (cy := cy) (N := N) (T := T) (I := Ia340101) (Q := Q) (J := Ja340101) (hM.at 0 (by decide)) (hM.k 0 (by decide) rfl)
                have hFc := pfree hD hS hA
                refine va_callv (va_runV (As := [.int xp]) (rest := []) ⟨hx, hb, hml, hown, hts⟩ (f_X7_rise l dC dI cy w L K N T Q Ia340101 Ja340101 H.size xp (gTwo sg340100 xp.toNatClampNeg 5 6 (-1) (σ.1 0 1) y340102.toNatClampNeg) hM hth340073.1 (hMD _ (vp_lt (n := 4) hth340073.1)) hMR) (cwV 1 hts gX7_elect_X7_rise rfl rfl rfl (by decide +kernel) ⟨Nat.le_of_ble_eq_true rfl, Nat.le_of_ble_eq_true rfl⟩) ⟨mw_blind, va_recv hK hP (ci := 7) (q0 := j340104) rfl hj340104, fun U hU hW => ⟨rfl, mw_pre hP hK hD hU hW⟩⟩ rfl rfl hl.1 rfl (lv_room (Nat.le_of_ble_eq_true rfl)) dX7_elect_143 ⟨Nat.le_of_ble_eq_true rfl, Nat.le_of_ble_eq_true rfl⟩) hS (fun q _ h => hFc q h) hFc (fun d9 t H1 locs ht hvm hw hB hz1 hk1 hS => ?_)
                obtain ⟨I340105, J340105⟩ := d9
                obtain ⟨hP, hK1, hD1⟩ := hB
                rw [ht] at hP
                have hD := hD1.weaken (fun _ _ _ h => hFc _ h)
                generalize H1 = H at hP hS ⊢
                have hP : va_P (dC, dI) vwCl (va_pl L (wF cy K N T I340105 Q J340105)) H := hP
                have hD : va_D A (va_pl L (wF cy K N T I340105 Q J340105)) := hD
                have hMRn := hw.1
                have hw := hw.2
                have hw340107 : RZ w Ia340101 Ja340101 I340105 J340105 xp.toNatClampNeg := hw
                have hR : RM w [] I J I340105 J340105 := hR.rz hM (vp_lt (n := 4) hth340073.1) hw340107
                have hMD : MD w J340105 := hMD.rz hw340107
                have hMU : MU w I340105 := hMU.rz hM (vp_lt (n := 4) hth340073.1) hw340107
                have hML : ML w E I340105 := hML.rz hM (vp_lt (n := 4) hth340073.1) hw340107
                obtain ⟨sg340108, esg340108⟩ : ∃ z, z = oRi (gTwo sg340100 xp.toNatClampNeg 5 6 (-1) (σ.1 0 1) y340102.toNatClampNeg) xp.toNatClampNeg := ⟨_, rfl⟩
                have hMR : MR w I340105 J340105 sg340108 := by rw [esg340108]; exact hMRn
                refine lv_iload hx hb dX7_elect_146 (lv_at hl 1 rfl) ?_
                rw [hQz]
                exact W.iret (v := (sp_nz v340079)) hx hb hr (fun t ht hW => ⟨⟨(sp_nz v340079), (I340105, J340105), rfl, ⟨⟨hML.mono (by omega), hMD, hMU⟩, by have e9 : qEl σ xp un = (sg340108, (sp_nz v340079)) := (by have hm : oMay σ xp.toNatClampNeg un = v340079 := (by rw [oMay, if_neg (by have k9 := c340080; simp only [ev340079, sx340076, sx340078] at k9; exact k9)]; simp only [ev340079, sx340076, sx340078]); rw [qEl, if_neg (by have k9 := c340072; simp only [hir340070] at k9; exact k9), hm, if_neg c340081, oEl, if_neg (by have k9 := c340089; simp only [ev340088, ev340087, sx340086, sx340076, sx340078] at k9; exact k9), esg340108, show y340102.toNatClampNeg = 5 by rw [clT]; omega]; simp only [esg340100, ev340097, sx340096, esg340093, ev340079, sx340076, sx340078, sA_s, sA_n, sA_2, sG_1, gTwo_1, nar1, not_false_eq_true] <;> rfl); show MR w I340105 J340105 _; rw [e9]; exact hMR, by have e9 : qEl σ xp un = (sg340108, (sp_nz v340079)) := (by have hm : oMay σ xp.toNatClampNeg un = v340079 := (by rw [oMay, if_neg (by have k9 := c340080; simp only [ev340079, sx340076, sx340078] at k9; exact k9)]; simp only [ev340079, sx340076, sx340078]); rw [qEl, if_neg (by have k9 := c340072; simp only [hir340070] at k9; exact k9), hm, if_neg c340081, oEl, if_neg (by have k9 := c340089; simp only [ev340088, ev340087, sx340086, sx340076, sx340078] at k9; exact k9), esg340108, show y340102.toNatClampNeg = 5 by rw [clT]; omega]; simp only [esg340100, ev340097, sx340096, esg340093, ev340079, sx340076, sx340078, sA_s, sA_n, sA_2, sG_1, gTwo_1, nar1, not_false_eq_true] <;> rfl); show _ = _; rw [e9]⟩, by rw [ht]; exact hP, va_K.moved hW.alike hK, hD⟩, hS.F ht⟩) hS.2.2 dX7_elect_148
              · have kc340103 : ¬ (5 ≤ y340102.toInt) := by have h9 := c340103; rw [xk_le, xk_5] at h9; exact h9
                refine lv_aload_n hx hb dX7_elect_106 rfl (lv_at hl 3 rfl) ?_
                obtain ⟨j340109, hj340109⟩ := wG_7 (cy := cy) (N := N) (T := T) (I := Ia340101) (Q := Q) (J := Ja340101) (hM.at 0 (by decide)) (hM.k 0 (by decide) rfl)
                refine va_get (D := (dC, dI)) (ci := 7) (v := .ref (T (w 0) 0)) (C := RX7) (T := TX7) (N := 18) hx hb hts hi7 hown hK hP j340109 hj340109 rfl 0 (by decide) (hts (.fieldLink RX7 11 "TallyLogsModel" "log" "[[LTallyLogsModel$Log;") (by decide +kernel)) (fun _ h9 => h9) rfl dX7_elect_107 ?_
                refine W.eq (g2 := F0 m 110 ls [.ref (w 1)]) (by rw [hM.t 0 (by decide)]) ?_
                refine lv_iload_n hx hb dX7_elect_110 rfl (lv_at hl 4 rfl) ?_
                obtain ⟨j340110, hj340110⟩ := wG_22 (cy := cy) (N := N) (T := T) (I := Ia340101) (Q := Q) (J := Ja340101) (hM.at 1 (by decide)) (hM.k 1 (by decide) rfl)
                refine xg_aldg hx hb hK hP j340110 2 hj340110 rfl hth340073.1 dX7_elect_111 ?_
                refine W.eq (g2 := F0 m 112 ls [.ref (w (17 + xp.toNatClampNeg))]) (by rw [hM.qo (vp_lt (n := 4) hth340073.1)]; rfl) ?_
                refine lv_iload hx hb dX7_elect_112 (lv_at hl 0 rfl) ?_
                obtain ⟨j340111, hj340111⟩ := wG_23 (cy := cy) (N := N) (T := T) (I := Ia340101) (Q := Q) (J := Ja340101) (hM.row (vp_lt (n := 4) hth340073.1)).1 (hM.row (vp_lt (n := 4) hth340073.1)).2
                refine va_aldq hx hb hK hP j340111 3 hj340111 rfl (xin_of hnn340101 (by have kc := c340103; simp only [xk_lt, xk_le, xk_0, xk_1, xk_2, xk_3, xk_4, xk_5, xk_6, xk_7, xk_8, xk_50] at kc; omega)) dX7_elect_114 ?_
                have hjl340112 : (5 * xp.toNatClampNeg + y340102.toNatClampNeg) < 20 := by have h1 := (vp_lt (n := 4) hth340073.1); have h2 := (vp_lt (n := 5) (xin_of hnn340101 (by have kc := c340103; simp only [xk_lt, xk_le, xk_0, xk_1, xk_2, xk_3, xk_4, xk_5, xk_6, xk_7, xk_8, xk_50] at kc; omega))); omega
                refine W.eq (g2 := F0 m 115 ls [.ref (w (21 + (5 * xp.toNatClampNeg + y340102.toNatClampNeg)))]) (by rw [hM.qr (vp_lt (n := 4) hth340073.1) (vp_lt (n := 5) (xin_of hnn340101 (by have kc := c340103; simp only [xk_lt, xk_le, xk_0, xk_1, xk_2, xk_3, xk_4, xk_5, xk_6, xk_7, xk_8, xk_50] at kc; omega)))]; rfl) ?_
                refine lv_iconst (v := (-1)) hx hb dX7_elect_115 (by decide) ?_
                obtain ⟨j340113, hj340113⟩ := wG_6 (cy := cy) (N := N) (T := T) (I := Ia340101) (Q := Q) (J := Ja340101) (hM.lg hjl340112).1 (hM.lg hjl340112).2
                have hDo := hD
                refine va_put (D := (dC, dI)) (ci := 6) (v := .int (-1)) (ty := .int) (C := RX6) (T := TX6) (N := 7) hx hb hts hi6 tyX6 tyX6_ok nmX6 hown hK hP hD hS j340113 hj340113 rfl 5 (by decide) (hts (.fieldLink RX7 92 "TallyLogsModel$Log" "known" "I") (by decide +kernel)) (fun _ h9 => h9) rfl (by decide +kernel) rfl rfl (Nat.le_of_ble_eq_true rfl) dX7_elect_116 (fun H locs hP hD hS => ?_)
                have hP := Eq.mp (congrArg (fun w => va_P (dC, dI) vwCl w H) (wP_6_5 (x := (-1)) hDo (hM.lg hjl340112).1 (hM.lg hjl340112).2 hj340113)) hP
                obtain ⟨I340114, eI340114⟩ : ∃ z, z = p2 Ia340101 (w (21 + (5 * xp.toNatClampNeg + y340102.toNatClampNeg))) 5 (-1) := ⟨_, rfl⟩
                rw [← eI340114] at hP
                have hD : va_D A (va_pl L (wF cy K N T I340114 Q Ja340101)) := pD hDo
                obtain ⟨sg340115, esg340115⟩ : ∃ z, z = sG (gTwo sg340100 xp.toNatClampNeg 5 6 (-1) (σ.1 0 1) y340102.toNatClampNeg) (5 * xp.toNatClampNeg + y340102.toNatClampNeg) 5 (-1) := ⟨_, rfl⟩
                have hMR : MR w I340114 Ja340101 sg340115 := by rw [eI340114, esg340115]; exact hMR.wg hM hjl340112 (by decide) (by decide)
                have hR : RM w [] I J I340114 Ja340101 := by rw [eI340114]; exact hR.pl hM hjl340112
                have hMU : MU w I340114 := by rw [eI340114]; exact hMU.pl hM hjl340112
                have hML : ML w E I340114 := by rw [eI340114]; exact hML.p56 hM hjl340112 (by decide)
                refine lv_aload_n hx hb dX7_elect_119 rfl (lv_at hl 3 rfl) ?_
                obtain ⟨j340116, hj340116⟩ := wG_7 (cy := cy) (N := N) (T := T) (I := I340114) (Q := Q) (J := Ja340101) (hM.at 0 (by decide)) (hM.k 0 (by decide) rfl)
                refine va_get (D := (dC, dI)) (ci := 7) (v := .ref (T (w 0) 0)) (C := RX7) (T := TX7) (N := 18) hx hb hts hi7 hown hK hP j340116 hj340116 rfl 0 (by decide) (hts (.fieldLink RX7 11 "TallyLogsModel" "log" "[[LTallyLogsModel$Log;") (by decide +kernel)) (fun _ h9 => h9) rfl dX7_elect_120 ?_
                refine W.eq (g2 := F0 m 123 ls [.ref (w 1)]) (by rw [hM.t 0 (by decide)]) ?_
                refine lv_iload_n hx hb dX7_elect_123 rfl (lv_at hl 4 rfl) ?_
                obtain ⟨j340117, hj340117⟩ := wG_22 (cy := cy) (N := N) (T := T) (I := I340114) (Q := Q) (J := Ja340101) (hM.at 1 (by decide)) (hM.k 1 (by decide) rfl)
                refine xg_aldg hx hb hK hP j340117 2 hj340117 rfl hth340073.1 dX7_elect_124 ?_
                refine W.eq (g2 := F0 m 125 ls [.ref (w (17 + xp.toNatClampNeg))]) (by rw [hM.qo (vp_lt (n := 4) hth340073.1)]; rfl) ?_
                refine lv_iload hx hb dX7_elect_125 (lv_at hl 0 rfl) ?_
                obtain ⟨j340118, hj340118⟩ := wG_23 (cy := cy) (N := N) (T := T) (I := I340114) (Q := Q) (J := Ja340101) (hM.row (vp_lt (n := 4) hth340073.1)).1 (hM.row (vp_lt (n := 4) hth340073.1)).2
                refine va_aldq hx hb hK hP j340118 3 hj340118 rfl (xin_of hnn340101 (by have kc := c340103; simp only [xk_lt, xk_le, xk_0, xk_1, xk_2, xk_3, xk_4, xk_5, xk_6, xk_7, xk_8, xk_50] at kc; omega)) dX7_elect_127 ?_
                have hjl340119 : (5 * xp.toNatClampNeg + y340102.toNatClampNeg) < 20 := by have h1 := (vp_lt (n := 4) hth340073.1); have h2 := (vp_lt (n := 5) (xin_of hnn340101 (by have kc := c340103; simp only [xk_lt, xk_le, xk_0, xk_1, xk_2, xk_3, xk_4, xk_5, xk_6, xk_7, xk_8, xk_50] at kc; omega))); omega
                refine W.eq (g2 := F0 m 128 ls [.ref (w (21 + (5 * xp.toNatClampNeg + y340102.toNatClampNeg)))]) (by rw [hM.qr (vp_lt (n := 4) hth340073.1) (vp_lt (n := 5) (xin_of hnn340101 (by have kc := c340103; simp only [xk_lt, xk_le, xk_0, xk_1, xk_2, xk_3, xk_4, xk_5, xk_6, xk_7, xk_8, xk_50] at kc; omega)))]; rfl) ?_
                refine lv_aload_n hx hb dX7_elect_128 rfl (lv_at hl 3 rfl) ?_
                obtain ⟨j340120, hj340120⟩ := wG_7 (cy := cy) (N := N) (T := T) (I := I340114) (Q := Q) (J := Ja340101) (hM.at 0 (by decide)) (hM.k 0 (by decide) rfl)
                refine va_get (D := (dC, dI)) (ci := 7) (v := .int (I340114 (w 0) 17)) (C := RX7) (T := TX7) (N := 18) hx hb hts hi7 hown hK hP j340120 hj340120 rfl 17 (by decide) (hts (.fieldLink RX7 119 "TallyLogsModel" "now" "I") (by decide +kernel)) (fun _ h9 => h9) rfl dX7_elect_129 ?_
                refine lv_topi (fun x340121 ex340121 => ?_)
                have sx340121 : x340121 = sg340115.1 0 1 := ex340121.trans hMR.1.2
                have ex340121 : x340121 = Ia340101 (w 0) 17 := by rw [ex340121, eI340114, p2_na _ _ (hM.ne (by omega) (by omega) (by omega))]
                have tx340121 : x340121.toInt = (Ia340101 (w 0) 17).toInt := congrArg Int32.toInt ex340121
                obtain ⟨j340122, hj340122⟩ := wG_6 (cy := cy) (N := N) (T := T) (I := I340114) (Q := Q) (J := Ja340101) (hM.lg hjl340119).1 (hM.lg hjl340119).2
                have hDo := hD
                refine va_put (D := (dC, dI)) (ci := 6) (v := .int x340121) (ty := .int) (C := RX6) (T := TX6) (N := 7) hx hb hts hi6 tyX6 tyX6_ok nmX6 hown hK hP hD hS j340122 hj340122 rfl 6 (by decide) (hts (.fieldLink RX7 122 "TallyLogsModel$Log" "caught" "I") (by decide +kernel)) (fun _ h9 => h9) rfl (by decide +kernel) rfl rfl (Nat.le_of_ble_eq_true rfl) dX7_elect_132 (fun H locs hP hD hS => ?_)
                have hP := Eq.mp (congrArg (fun w => va_P (dC, dI) vwCl w H) (wP_6_6 (x := x340121) hDo (hM.lg hjl340119).1 (hM.lg hjl340119).2 hj340122)) hP
                obtain ⟨I340123, eI340123⟩ : ∃ z, z = p2 I340114 (w (21 + (5 * xp.toNatClampNeg + y340102.toNatClampNeg))) 6 x340121 := ⟨_, rfl⟩
                rw [← eI340123] at hP
                have hD : va_D A (va_pl L (wF cy K N T I340123 Q Ja340101)) := pD hDo
                obtain ⟨sg340124, esg340124⟩ : ∃ z, z = sG sg340115 (5 * xp.toNatClampNeg + y340102.toNatClampNeg) 6 x340121 := ⟨_, rfl⟩
                have hMR : MR w I340123 Ja340101 sg340124 := by rw [eI340123, esg340124]; exact hMR.wg hM hjl340119 (by decide) (by decide)
                have hR : RM w [] I J I340123 Ja340101 := by rw [eI340123]; exact hR.pl hM hjl340119
                have hMU : MU w I340123 := by rw [eI340123]; exact hMU.pl hM hjl340119
                have hML : ML w E I340123 := by rw [eI340123]; exact hML.p56 hM hjl340119 (by decide)
                obtain ⟨v340125, ev340125⟩ : ∃ y : Int32, y = y340102 + Int32.ofInt 1 := ⟨_, rfl⟩
                refine lv_iinc (v := v340125) (lv' := [(5, .int v340125), (4, .int (sp_nz v340079)), (3, .int v340079), (0, .ref (w 0)), (1, .int xp), (2, .int un)]) hx hb dX7_elect_135 hl (k := 0) rfl ev340125.symm (by decide) rfl (fun ls hl => ?_)
                refine lv_goto (tgt := 100) hx hb dX7_elect_138 (by decide) ?_
                have tv340125 : v340125.toInt = y340102.toInt + 1 := by rw [ev340125, show y340102 + Int32.ofInt 1 = y340102 + 1 from rfl]; exact xinc (y := (5 : Int32)) (by rw [xk_lt, xk_5]; omega)
                exact ih340101 _ _ _ _ _ _ (by omega) (by omega) (by omega) hR (hML.mono (by omega)) hMD hMU (by have vx340121 : x340121 = σ.1 0 1 := (by rw [sx340121]; simp only [esg340115, esg340100, ev340097, sx340096, esg340093, ev340079, sx340076, sx340078, sA_s, sA_n, sA_2, sG_1, gTwo_1, nar1, not_false_eq_true] <;> rfl); have z1 := esg340115; have z2 := esg340124; rw [vx340121] at z2; rw [clsucc (y := y340102) (by omega) tv340125]; show MR w _ _ (sG (sG (gTwo sg340100 xp.toNatClampNeg 5 6 (-1) (σ.1 0 1) y340102.toNatClampNeg) (5 * xp.toNatClampNeg + y340102.toNatClampNeg) 5 (-1)) (5 * xp.toNatClampNeg + y340102.toNatClampNeg) 6 (σ.1 0 1)); rw [← z1, ← z2]; exact hMR) hP hD hS (lv_sub hl [0, 1, 2, 3, 4, 5] rfl)
          exact hLP340101 _ _ _ _ _ _ _ (Nat.lt_succ_self _) (by decide) (by decide) hR (hML.mono (by omega)) hMD hMU (by rw [cl_0]; exact hMR) hP hD hS (lv_sub hl [0, 1, 2, 3, 4, 5] rfl)
        · have kc340089 : v340088.toInt = 0 := by have h9 := c340089; rw [xk_eq, xk_0] at h9; exact h9
          refine lv_aload_n hx hb dX7_elect_69 rfl (lv_at hl 2 rfl) ?_
          obtain ⟨j340126, hj340126⟩ := wG_7 (cy := cy) (N := N) (T := T) (I := I) (Q := Q) (J := J) (hM.at 0 (by decide)) (hM.k 0 (by decide) rfl)
          refine va_get (D := (dC, dI)) (ci := 7) (v := .ref (T (w 0) 6)) (C := RX7) (T := TX7) (N := 18) hx hb hts hi7 hown hK hP j340126 hj340126 rfl 6 (by decide) (hts (.fieldLink RX7 31 "TallyLogsModel" "step" "[I") (by decide +kernel)) (fun _ h9 => h9) rfl dX7_elect_70 ?_
          refine W.eq (g2 := F0 m 73 ls [.ref (w 7)]) (by rw [hM.t 6 (by decide)]) ?_
          refine lv_iload_n hx hb dX7_elect_73 rfl (lv_at hl 3 rfl) ?_
          refine lv_iconst (v := 1) hx hb dX7_elect_74 (by decide) ?_
          refine lv_iload hx hb dX7_elect_75 (lv_at hl 0 rfl) ?_
          refine lv_ishl hx hb dX7_elect_77 ?_
          refine lv_topi (fun v340127 ev340127 => ?_)
          obtain ⟨j340128, hj340128⟩ := wG_20 (cy := cy) (N := N) (T := T) (I := I) (Q := Q) (J := J) (hM.at 7 (by decide)) (hM.k 7 (by decide) rfl)
          have hDo := hD
          refine va_iast (x := v340127) hx hb hK hP hD hS j340128 1 hj340128 rfl (hM.inN (n := 4) 7 (by decide) rfl rfl hth340073.1) dX7_elect_78 (fun H locs hP hD hS => ?_)
          have hP := Eq.mp (congrArg (fun w => va_P (dC, dI) vwCl w H) (wS_20 hDo (hM.at 7 (by decide)) (hM.k 7 (by decide) rfl) hj340128)) hP
          obtain ⟨J340129, eJ340129⟩ : ∃ z, z = va_up J (w 7) (upd (J (w 7)) xp.toNatClampNeg v340127) := ⟨_, rfl⟩
          rw [← eJ340129] at hP
          have hR : RM w [] I J I J340129 := by rw [eJ340129]; exact hR.pj hM (by decide) (by decide)
          have hD : va_D A (va_pl L (wF cy K N T I Q J340129)) := pD hDo
          obtain ⟨sg340130, esg340130⟩ : ∃ z, z = sA σ 7 xp.toNatClampNeg v340127 := ⟨_, rfl⟩
          have hMR : MR w I J340129 sg340130 := by rw [eJ340129, esg340130]; exact hMR.wa hM (by decide) (by decide)
          refine lv_aload_n hx hb dX7_elect_79 rfl (lv_at hl 2 rfl) ?_
          obtain ⟨j340131, hj340131⟩ := wG_7 (cy := cy) (N := N) (T := T) (I := I) (Q := Q) (J := J340129) (hM.at 0 (by decide)) (hM.k 0 (by decide) rfl)
          refine va_get (D := (dC, dI)) (ci := 7) (v := .ref (T (w 0) 3)) (C := RX7) (T := TX7) (N := 18) hx hb hts hi7 hown hK hP j340131 hj340131 rfl 3 (by decide) (hts (.fieldLink RX7 22 "TallyLogsModel" "leader" "[I") (by decide +kernel)) (fun _ h9 => h9) rfl dX7_elect_80 ?_
          refine W.eq (g2 := F0 m 83 ls [.ref (w 4)]) (by rw [hM.t 3 (by decide)]) ?_
          refine lv_iload_n hx hb dX7_elect_83 rfl (lv_at hl 3 rfl) ?_
          refine lv_iload hx hb dX7_elect_84 (lv_at hl 0 rfl) ?_
          obtain ⟨j340132, hj340132⟩ := wG_20 (cy := cy) (N := N) (T := T) (I := I) (Q := Q) (J := J340129) (hM.at 4 (by decide)) (hM.k 4 (by decide) rfl)
          have hDo := hD
          refine va_iast (x := (sp_nz v340079)) hx hb hK hP hD hS j340132 1 hj340132 rfl (hM.inN (n := 4) 4 (by decide) rfl rfl hth340073.1) dX7_elect_86 (fun H locs hP hD hS => ?_)
          have hP := Eq.mp (congrArg (fun w => va_P (dC, dI) vwCl w H) (wS_20 hDo (hM.at 4 (by decide)) (hM.k 4 (by decide) rfl) hj340132)) hP
          obtain ⟨J340133, eJ340133⟩ : ∃ z, z = va_up J340129 (w 4) (upd (J340129 (w 4)) xp.toNatClampNeg (sp_nz v340079)) := ⟨_, rfl⟩
          rw [← eJ340133] at hP
          have hR : RM w [] I J I J340133 := by rw [eJ340133]; exact hR.pj hM (by decide) (by decide)
          have hMD : MD w J340133 := by
            rw [eJ340133, eJ340129]
            refine MD.p4 hM (hMD.p7' hM) (Or.inr ⟨hmy340082.1, ?_⟩)
            rw [va_up_self]
            simp only [upd, if_true]
            rw [ev340127]
            exact xsh1 _
          have hD : va_D A (va_pl L (wF cy K N T I Q J340133)) := pD hDo
          obtain ⟨sg340134, esg340134⟩ : ∃ z, z = sA sg340130 4 xp.toNatClampNeg (sp_nz v340079) := ⟨_, rfl⟩
          have hMR : MR w I J340133 sg340134 := by rw [eJ340133, esg340134]; exact hMR.wa hM (by decide) (by decide)
          refine lv_aload_n hx hb dX7_elect_87 rfl (lv_at hl 2 rfl) ?_
          obtain ⟨j340135, hj340135⟩ := wG_7 (cy := cy) (N := N) (T := T) (I := I) (Q := Q) (J := J340133) (hM.at 0 (by decide)) (hM.k 0 (by decide) rfl)
          refine va_get (D := (dC, dI)) (ci := 7) (v := .ref (T (w 0) 4)) (C := RX7) (T := TX7) (N := 18) hx hb hts hi7 hown hK hP j340135 hj340135 rfl 4 (by decide) (hts (.fieldLink RX7 25 "TallyLogsModel" "epoch" "[I") (by decide +kernel)) (fun _ h9 => h9) rfl dX7_elect_88 ?_
          refine W.eq (g2 := F0 m 91 ls [.ref (w 5)]) (by rw [hM.t 4 (by decide)]) ?_
          refine lv_iload_n hx hb dX7_elect_91 rfl (lv_at hl 3 rfl) ?_
          refine lv_dup2_11 hx hb dX7_elect_92 rfl rfl ?_
          obtain ⟨j340136, hj340136⟩ := wG_20 (cy := cy) (N := N) (T := T) (I := I) (Q := Q) (J := J340133) (hM.at 5 (by decide)) (hM.k 5 (by decide) rfl)
          refine va_iald hx hb hK hP j340136 1 hj340136 rfl (hM.inN (n := 4) 5 (by decide) rfl rfl hth340073.1) dX7_elect_93 ?_
          refine lv_topi (fun x340137 ex340137 => ?_)
          have sx340137 : x340137 = sg340134.1 5 xp.toNatClampNeg := ex340137.trans (hMR.a (k := 5) (by decide) (by decide) (show _ < 4 from vp_lt (n := 4) hth340073.1))
          refine lv_iconst (v := 1) hx hb dX7_elect_94 (by decide) ?_
          refine lv_iadd hx hb dX7_elect_95 ?_
          refine lv_topi (fun v340138 ev340138 => ?_)
          obtain ⟨j340139, hj340139⟩ := wG_20 (cy := cy) (N := N) (T := T) (I := I) (Q := Q) (J := J340133) (hM.at 5 (by decide)) (hM.k 5 (by decide) rfl)
          have hDo := hD
          refine va_iast (x := v340138) hx hb hK hP hD hS j340139 1 hj340139 rfl (hM.inN (n := 4) 5 (by decide) rfl rfl hth340073.1) dX7_elect_96 (fun H locs hP hD hS => ?_)
          have hP := Eq.mp (congrArg (fun w => va_P (dC, dI) vwCl w H) (wS_20 hDo (hM.at 5 (by decide)) (hM.k 5 (by decide) rfl) hj340139)) hP
          obtain ⟨J340140, eJ340140⟩ : ∃ z, z = va_up J340133 (w 5) (upd (J340133 (w 5)) xp.toNatClampNeg v340138) := ⟨_, rfl⟩
          rw [← eJ340140] at hP
          have hR : RM w [] I J I J340140 := by rw [eJ340140]; exact hR.pj hM (by decide) (by decide)
          have hMD : MD w J340140 := by rw [eJ340140]; exact hMD.pj hM (by decide) (by decide)
          have hD : va_D A (va_pl L (wF cy K N T I Q J340140)) := pD hDo
          obtain ⟨sg340141, esg340141⟩ : ∃ z, z = sA sg340134 5 xp.toNatClampNeg v340138 := ⟨_, rfl⟩
          have hMR : MR w I J340140 sg340141 := by rw [eJ340140, esg340141]; exact hMR.wa hM (by decide) (by decide)
          refine lv_iconst (v := 0) hx hb dX7_elect_97 (by decide) ?_
          refine lv_istore (lv' := [(5, .int 0), (4, .int (sp_nz v340079)), (3, .int v340079), (0, .ref (w 0)), (1, .int xp), (2, .int un)]) hx hb dX7_elect_98 hl (by decide) rfl (fun ls hl => ?_)
          refine wq_gen (fun Qz hQz => ?_)
          have hLP340142 : ∀ (n : Nat) (y340143 : Int32) (Ia340142 Ja340142 : Nat → Nat → Int32) (H : Heap) (locs : List Loc) (ls : Array Slot), (5 - y340143.toInt).toNat < n → 0 ≤ y340143.toInt → (y340143.toInt ≤ 5) → RM w [] I J Ia340142 Ja340142 → ML w E Ia340142 → MD w Ja340142 → MU w Ia340142 → MR w Ia340142 Ja340142 (gTwo sg340141 xp.toNatClampNeg 5 6 (-1) (σ.1 0 1) y340143.toNatClampNeg) →  va_P (dC, dI) vwCl (va_pl L (wF cy K N T Ia340142 Q Ja340142)) H → va_D A (va_pl L (wF cy K N T Ia340142 Q Ja340142)) → va_S A s.heap H locs → lv_has ls 6 [(5, .int y340143), (4, .int (sp_nz v340079)), (3, .int v340079), (0, .ref (w 0)), (1, .int xp), (2, .int un)] → W p l e (headSpec wsX7_elect ({ frames := 4, cells := 0, slots := 0, locals := 99 })).room s m ([.ref (w 0), .int xp, .int un] : List Value).toArray below meth c H locs 0 0 Qz (F0 m 100 ls []) := by
            intro n
            induction n with
            | zero => intro y340143 Ia340142 Ja340142 H locs ls hms; exact absurd hms (Nat.not_lt_zero _)
            | succ n ih340142 =>
              intro y340143 Ia340142 Ja340142 H locs ls hms hnn340142 hiv340142 hR hML hMD hMU hMR hP hD hS hl
              refine lv_iload hx hb dX7_elect_100 (lv_at hl 0 rfl) ?_
              refine lv_iconst (v := 5) hx hb dX7_elect_102 (by decide) ?_
              refine lv_icmp_ge (tgt := 141) hx hb dX7_elect_103 (by decide) (fun c340144 => ?_) (fun c340144 => ?_)
              · have kc340144 : 5 ≤ y340143.toInt := by have h9 := c340144; rw [xk_le, xk_5] at h9; exact h9
                refine lv_aload_n hx hb dX7_elect_141 rfl (lv_at hl 3 rfl) ?_
                refine lv_iload_n hx hb dX7_elect_142 rfl (lv_at hl 4 rfl) ?_
                obtain ⟨j340145, hj340145⟩ := wG_7 (cy := cy) (N := N) (T := T) (I := Ia340142) (Q := Q) (J := Ja340142) (hM.at 0 (by decide)) (hM.k 0 (by decide) rfl)
                have hFc := pfree hD hS hA
                refine va_callv (va_runV (As := [.int xp]) (rest := []) ⟨hx, hb, hml, hown, hts⟩ (f_X7_rise l dC dI cy w L K N T Q Ia340142 Ja340142 H.size xp (gTwo sg340141 xp.toNatClampNeg 5 6 (-1) (σ.1 0 1) y340143.toNatClampNeg) hM hth340073.1 (hMD _ (vp_lt (n := 4) hth340073.1)) hMR) (cwV 1 hts gX7_elect_X7_rise rfl rfl rfl (by decide +kernel) ⟨Nat.le_of_ble_eq_true rfl, Nat.le_of_ble_eq_true rfl⟩) ⟨mw_blind, va_recv hK hP (ci := 7) (q0 := j340145) rfl hj340145, fun U hU hW => ⟨rfl, mw_pre hP hK hD hU hW⟩⟩ rfl rfl hl.1 rfl (lv_room (Nat.le_of_ble_eq_true rfl)) dX7_elect_143 ⟨Nat.le_of_ble_eq_true rfl, Nat.le_of_ble_eq_true rfl⟩) hS (fun q _ h => hFc q h) hFc (fun d9 t H1 locs ht hvm hw hB hz1 hk1 hS => ?_)
                obtain ⟨I340146, J340146⟩ := d9
                obtain ⟨hP, hK1, hD1⟩ := hB
                rw [ht] at hP
                have hD := hD1.weaken (fun _ _ _ h => hFc _ h)
                generalize H1 = H at hP hS ⊢
                have hP : va_P (dC, dI) vwCl (va_pl L (wF cy K N T I340146 Q J340146)) H := hP
                have hD : va_D A (va_pl L (wF cy K N T I340146 Q J340146)) := hD
                have hMRn := hw.1
                have hw := hw.2
                have hw340148 : RZ w Ia340142 Ja340142 I340146 J340146 xp.toNatClampNeg := hw
                have hR : RM w [] I J I340146 J340146 := hR.rz hM (vp_lt (n := 4) hth340073.1) hw340148
                have hMD : MD w J340146 := hMD.rz hw340148
                have hMU : MU w I340146 := hMU.rz hM (vp_lt (n := 4) hth340073.1) hw340148
                have hML : ML w E I340146 := hML.rz hM (vp_lt (n := 4) hth340073.1) hw340148
                obtain ⟨sg340149, esg340149⟩ : ∃ z, z = oRi (gTwo sg340141 xp.toNatClampNeg 5 6 (-1) (σ.1 0 1) y340143.toNatClampNeg) xp.toNatClampNeg := ⟨_, rfl⟩
                have hMR : MR w I340146 J340146 sg340149 := by rw [esg340149]; exact hMRn
                refine lv_iload hx hb dX7_elect_146 (lv_at hl 1 rfl) ?_
                rw [hQz]
                exact W.iret (v := (sp_nz v340079)) hx hb hr (fun t ht hW => ⟨⟨(sp_nz v340079), (I340146, J340146), rfl, ⟨⟨hML.mono (by omega), hMD, hMU⟩, by have e9 : qEl σ xp un = (sg340149, (sp_nz v340079)) := (by have hm : oMay σ xp.toNatClampNeg un = v340079 := (by rw [oMay, if_neg (by have k9 := c340080; simp only [ev340079, sx340076, sx340078] at k9; exact k9)]; simp only [ev340079, sx340076, sx340078]); rw [qEl, if_neg (by have k9 := c340072; simp only [hir340070] at k9; exact k9), hm, if_neg c340081, oEl, if_pos (by have k9 := c340089; simp only [ev340088, ev340087, sx340086, sx340076, sx340078] at k9; exact k9), esg340149, show y340143.toNatClampNeg = 5 by rw [clT]; omega]; simp only [esg340141, ev340138, sx340137, esg340134, ev340079, sx340076, sx340078, esg340130, ev340127, sA_s, sA_n, sA_2, sG_1, gTwo_1, nar1, not_false_eq_true] <;> rfl); show MR w I340146 J340146 _; rw [e9]; exact hMR, by have e9 : qEl σ xp un = (sg340149, (sp_nz v340079)) := (by have hm : oMay σ xp.toNatClampNeg un = v340079 := (by rw [oMay, if_neg (by have k9 := c340080; simp only [ev340079, sx340076, sx340078] at k9; exact k9)]; simp only [ev340079, sx340076, sx340078]); rw [qEl, if_neg (by have k9 := c340072; simp only [hir340070] at k9; exact k9), hm, if_neg c340081, oEl, if_pos (by have k9 := c340089; simp only [ev340088, ev340087, sx340086, sx340076, sx340078] at k9; exact k9), esg340149, show y340143.toNatClampNeg = 5 by rw [clT]; omega]; simp only [esg340141, ev340138, sx340137, esg340134, ev340079, sx340076, sx340078, esg340130, ev340127, sA_s, sA_n, sA_2, sG_1, gTwo_1, nar1, not_false_eq_true] <;> rfl); show _ = _; rw [e9]⟩, by rw [ht]; exact hP, va_K.moved hW.alike hK, hD⟩, hS.F ht⟩) hS.2.2 dX7_elect_148
              · have kc340144 : ¬ (5 ≤ y340143.toInt) := by have h9 := c340144; rw [xk_le, xk_5] at h9; exact h9
                refine lv_aload_n hx hb dX7_elect_106 rfl (lv_at hl 3 rfl) ?_
                obtain ⟨j340150, hj340150⟩ := wG_7 (cy := cy) (N := N) (T := T) (I := Ia340142) (Q := Q) (J := Ja340142) (hM.at 0 (by decide)) (hM.k 0 (by decide) rfl)
                refine va_get (D := (dC, dI)) (ci := 7) (v := .ref (T (w 0) 0)) (C := RX7) (T := TX7) (N := 18) hx hb hts hi7 hown hK hP j340150 hj340150 rfl 0 (by decide) (hts (.fieldLink RX7 11 "TallyLogsModel" "log" "[[LTallyLogsModel$Log;") (by decide +kernel)) (fun _ h9 => h9) rfl dX7_elect_107 ?_
                refine W.eq (g2 := F0 m 110 ls [.ref (w 1)]) (by rw [hM.t 0 (by decide)]) ?_
                refine lv_iload_n hx hb dX7_elect_110 rfl (lv_at hl 4 rfl) ?_
                obtain ⟨j340151, hj340151⟩ := wG_22 (cy := cy) (N := N) (T := T) (I := Ia340142) (Q := Q) (J := Ja340142) (hM.at 1 (by decide)) (hM.k 1 (by decide) rfl)
                refine xg_aldg hx hb hK hP j340151 2 hj340151 rfl hth340073.1 dX7_elect_111 ?_
                refine W.eq (g2 := F0 m 112 ls [.ref (w (17 + xp.toNatClampNeg))]) (by rw [hM.qo (vp_lt (n := 4) hth340073.1)]; rfl) ?_
                refine lv_iload hx hb dX7_elect_112 (lv_at hl 0 rfl) ?_
                obtain ⟨j340152, hj340152⟩ := wG_23 (cy := cy) (N := N) (T := T) (I := Ia340142) (Q := Q) (J := Ja340142) (hM.row (vp_lt (n := 4) hth340073.1)).1 (hM.row (vp_lt (n := 4) hth340073.1)).2
                refine va_aldq hx hb hK hP j340152 3 hj340152 rfl (xin_of hnn340142 (by have kc := c340144; simp only [xk_lt, xk_le, xk_0, xk_1, xk_2, xk_3, xk_4, xk_5, xk_6, xk_7, xk_8, xk_50] at kc; omega)) dX7_elect_114 ?_
                have hjl340153 : (5 * xp.toNatClampNeg + y340143.toNatClampNeg) < 20 := by have h1 := (vp_lt (n := 4) hth340073.1); have h2 := (vp_lt (n := 5) (xin_of hnn340142 (by have kc := c340144; simp only [xk_lt, xk_le, xk_0, xk_1, xk_2, xk_3, xk_4, xk_5, xk_6, xk_7, xk_8, xk_50] at kc; omega))); omega
                refine W.eq (g2 := F0 m 115 ls [.ref (w (21 + (5 * xp.toNatClampNeg + y340143.toNatClampNeg)))]) (by rw [hM.qr (vp_lt (n := 4) hth340073.1) (vp_lt (n := 5) (xin_of hnn340142 (by have kc := c340144; simp only [xk_lt, xk_le, xk_0, xk_1, xk_2, xk_3, xk_4, xk_5, xk_6, xk_7, xk_8, xk_50] at kc; omega)))]; rfl) ?_
                refine lv_iconst (v := (-1)) hx hb dX7_elect_115 (by decide) ?_
                obtain ⟨j340154, hj340154⟩ := wG_6 (cy := cy) (N := N) (T := T) (I := Ia340142) (Q := Q) (J := Ja340142) (hM.lg hjl340153).1 (hM.lg hjl340153).2
                have hDo := hD
                refine va_put (D := (dC, dI)) (ci := 6) (v := .int (-1)) (ty := .int) (C := RX6) (T := TX6) (N := 7) hx hb hts hi6 tyX6 tyX6_ok nmX6 hown hK hP hD hS j340154 hj340154 rfl 5 (by decide) (hts (.fieldLink RX7 92 "TallyLogsModel$Log" "known" "I") (by decide +kernel)) (fun _ h9 => h9) rfl (by decide +kernel) rfl rfl (Nat.le_of_ble_eq_true rfl) dX7_elect_116 (fun H locs hP hD hS => ?_)
                have hP := Eq.mp (congrArg (fun w => va_P (dC, dI) vwCl w H) (wP_6_5 (x := (-1)) hDo (hM.lg hjl340153).1 (hM.lg hjl340153).2 hj340154)) hP
                obtain ⟨I340155, eI340155⟩ : ∃ z, z = p2 Ia340142 (w (21 + (5 * xp.toNatClampNeg + y340143.toNatClampNeg))) 5 (-1) := ⟨_, rfl⟩
                rw [← eI340155] at hP
                have hD : va_D A (va_pl L (wF cy K N T I340155 Q Ja340142)) := pD hDo
                obtain ⟨sg340156, esg340156⟩ : ∃ z, z = sG (gTwo sg340141 xp.toNatClampNeg 5 6 (-1) (σ.1 0 1) y340143.toNatClampNeg) (5 * xp.toNatClampNeg + y340143.toNatClampNeg) 5 (-1) := ⟨_, rfl⟩
                have hMR : MR w I340155 Ja340142 sg340156 := by rw [eI340155, esg340156]; exact hMR.wg hM hjl340153 (by decide) (by decide)
                have hR : RM w [] I J I340155 Ja340142 := by rw [eI340155]; exact hR.pl hM hjl340153
                have hMU : MU w I340155 := by rw [eI340155]; exact hMU.pl hM hjl340153
                have hML : ML w E I340155 := by rw [eI340155]; exact hML.p56 hM hjl340153 (by decide)
                refine lv_aload_n hx hb dX7_elect_119 rfl (lv_at hl 3 rfl) ?_
                obtain ⟨j340157, hj340157⟩ := wG_7 (cy := cy) (N := N) (T := T) (I := I340155) (Q := Q) (J := Ja340142) (hM.at 0 (by decide)) (hM.k 0 (by decide) rfl)
                refine va_get (D := (dC, dI)) (ci := 7) (v := .ref (T (w 0) 0)) (C := RX7) (T := TX7) (N := 18) hx hb hts hi7 hown hK hP j340157 hj340157 rfl 0 (by decide) (hts (.fieldLink RX7 11 "TallyLogsModel" "log" "[[LTallyLogsModel$Log;") (by decide +kernel)) (fun _ h9 => h9) rfl dX7_elect_120 ?_
                refine W.eq (g2 := F0 m 123 ls [.ref (w 1)]) (by rw [hM.t 0 (by decide)]) ?_
                refine lv_iload_n hx hb dX7_elect_123 rfl (lv_at hl 4 rfl) ?_
                obtain ⟨j340158, hj340158⟩ := wG_22 (cy := cy) (N := N) (T := T) (I := I340155) (Q := Q) (J := Ja340142) (hM.at 1 (by decide)) (hM.k 1 (by decide) rfl)
                refine xg_aldg hx hb hK hP j340158 2 hj340158 rfl hth340073.1 dX7_elect_124 ?_
                refine W.eq (g2 := F0 m 125 ls [.ref (w (17 + xp.toNatClampNeg))]) (by rw [hM.qo (vp_lt (n := 4) hth340073.1)]; rfl) ?_
                refine lv_iload hx hb dX7_elect_125 (lv_at hl 0 rfl) ?_
                obtain ⟨j340159, hj340159⟩ := wG_23 (cy := cy) (N := N) (T := T) (I := I340155) (Q := Q) (J := Ja340142) (hM.row (vp_lt (n := 4) hth340073.1)).1 (hM.row (vp_lt (n := 4) hth340073.1)).2
                refine va_aldq hx hb hK hP j340159 3 hj340159 rfl (xin_of hnn340142 (by have kc := c340144; simp only [xk_lt, xk_le, xk_0, xk_1, xk_2, xk_3, xk_4, xk_5, xk_6, xk_7, xk_8, xk_50] at kc; omega)) dX7_elect_127 ?_
                have hjl340160 : (5 * xp.toNatClampNeg + y340143.toNatClampNeg) < 20 := by have h1 := (vp_lt (n := 4) hth340073.1); have h2 := (vp_lt (n := 5) (xin_of hnn340142 (by have kc := c340144; simp only [xk_lt, xk_le, xk_0, xk_1, xk_2, xk_3, xk_4, xk_5, xk_6, xk_7, xk_8, xk_50] at kc; omega))); omega
                refine W.eq (g2 := F0 m 128 ls [.ref (w (21 + (5 * xp.toNatClampNeg + y340143.toNatClampNeg)))]) (by rw [hM.qr (vp_lt (n := 4) hth340073.1) (vp_lt (n := 5) (xin_of hnn340142 (by have kc := c340144; simp only [xk_lt, xk_le, xk_0, xk_1, xk_2, xk_3, xk_4, xk_5, xk_6, xk_7, xk_8, xk_50] at kc; omega)))]; rfl) ?_
                refine lv_aload_n hx hb dX7_elect_128 rfl (lv_at hl 3 rfl) ?_
                obtain ⟨j340161, hj340161⟩ := wG_7 (cy := cy) (N := N) (T := T) (I := I340155) (Q := Q) (J := Ja340142) (hM.at 0 (by decide)) (hM.k 0 (by decide) rfl)
                refine va_get (D := (dC, dI)) (ci := 7) (v := .int (I340155 (w 0) 17)) (C := RX7) (T := TX7) (N := 18) hx hb hts hi7 hown hK hP j340161 hj340161 rfl 17 (by decide) (hts (.fieldLink RX7 119 "TallyLogsModel" "now" "I") (by decide +kernel)) (fun _ h9 => h9) rfl dX7_elect_129 ?_
                refine lv_topi (fun x340162 ex340162 => ?_)
                have sx340162 : x340162 = sg340156.1 0 1 := ex340162.trans hMR.1.2
                have ex340162 : x340162 = Ia340142 (w 0) 17 := by rw [ex340162, eI340155, p2_na _ _ (hM.ne (by omega) (by omega) (by omega))]
                have tx340162 : x340162.toInt = (Ia340142 (w 0) 17).toInt := congrArg Int32.toInt ex340162
                obtain ⟨j340163, hj340163⟩ := wG_6 (cy := cy) (N := N) (T := T) (I := I340155) (Q := Q) (J := Ja340142) (hM.lg hjl340160).1 (hM.lg hjl340160).2
                have hDo := hD
                refine va_put (D := (dC, dI)) (ci := 6) (v := .int x340162) (ty := .int) (C := RX6) (T := TX6) (N := 7) hx hb hts hi6 tyX6 tyX6_ok nmX6 hown hK hP hD hS j340163 hj340163 rfl 6 (by decide) (hts (.fieldLink RX7 122 "TallyLogsModel$Log" "caught" "I") (by decide +kernel)) (fun _ h9 => h9) rfl (by decide +kernel) rfl rfl (Nat.le_of_ble_eq_true rfl) dX7_elect_132 (fun H locs hP hD hS => ?_)
                have hP := Eq.mp (congrArg (fun w => va_P (dC, dI) vwCl w H) (wP_6_6 (x := x340162) hDo (hM.lg hjl340160).1 (hM.lg hjl340160).2 hj340163)) hP
                obtain ⟨I340164, eI340164⟩ : ∃ z, z = p2 I340155 (w (21 + (5 * xp.toNatClampNeg + y340143.toNatClampNeg))) 6 x340162 := ⟨_, rfl⟩
                rw [← eI340164] at hP
                have hD : va_D A (va_pl L (wF cy K N T I340164 Q Ja340142)) := pD hDo
                obtain ⟨sg340165, esg340165⟩ : ∃ z, z = sG sg340156 (5 * xp.toNatClampNeg + y340143.toNatClampNeg) 6 x340162 := ⟨_, rfl⟩
                have hMR : MR w I340164 Ja340142 sg340165 := by rw [eI340164, esg340165]; exact hMR.wg hM hjl340160 (by decide) (by decide)
                have hR : RM w [] I J I340164 Ja340142 := by rw [eI340164]; exact hR.pl hM hjl340160
                have hMU : MU w I340164 := by rw [eI340164]; exact hMU.pl hM hjl340160
                have hML : ML w E I340164 := by rw [eI340164]; exact hML.p56 hM hjl340160 (by decide)
                obtain ⟨v340166, ev340166⟩ : ∃ y : Int32, y = y340143 + Int32.ofInt 1 := ⟨_, rfl⟩
                refine lv_iinc (v := v340166) (lv' := [(5, .int v340166), (4, .int (sp_nz v340079)), (3, .int v340079), (0, .ref (w 0)), (1, .int xp), (2, .int un)]) hx hb dX7_elect_135 hl (k := 0) rfl ev340166.symm (by decide) rfl (fun ls hl => ?_)
                refine lv_goto (tgt := 100) hx hb dX7_elect_138 (by decide) ?_
                have tv340166 : v340166.toInt = y340143.toInt + 1 := by rw [ev340166, show y340143 + Int32.ofInt 1 = y340143 + 1 from rfl]; exact xinc (y := (5 : Int32)) (by rw [xk_lt, xk_5]; omega)
                exact ih340142 _ _ _ _ _ _ (by omega) (by omega) (by omega) hR (hML.mono (by omega)) hMD hMU (by have vx340162 : x340162 = σ.1 0 1 := (by rw [sx340162]; simp only [esg340156, esg340141, ev340138, sx340137, esg340134, ev340079, sx340076, sx340078, esg340130, ev340127, sA_s, sA_n, sA_2, sG_1, gTwo_1, nar1, not_false_eq_true] <;> rfl); have z1 := esg340156; have z2 := esg340165; rw [vx340162] at z2; rw [clsucc (y := y340143) (by omega) tv340166]; show MR w _ _ (sG (sG (gTwo sg340141 xp.toNatClampNeg 5 6 (-1) (σ.1 0 1) y340143.toNatClampNeg) (5 * xp.toNatClampNeg + y340143.toNatClampNeg) 5 (-1)) (5 * xp.toNatClampNeg + y340143.toNatClampNeg) 6 (σ.1 0 1)); rw [← z1, ← z2]; exact hMR) hP hD hS (lv_sub hl [0, 1, 2, 3, 4, 5] rfl)
          exact hLP340142 _ _ _ _ _ _ _ (Nat.lt_succ_self _) (by decide) (by decide) hR (hML.mono (by omega)) hMD hMU (by rw [cl_0]; exact hMR) hP hD hS (lv_sub hl [0, 1, 2, 3, 4, 5] rfl)
      · have kc340081 : v340079.toInt = 0 := by have h9 := c340081; rw [xk_eq, xk_0] at h9; exact h9
        refine lv_bipush (v := (-2)) hx hb dX7_elect_46 (by decide) ?_
        exact W.iret (v := (-2)) hx hb hr (fun t ht hW => ⟨⟨(-2), (I, J), rfl, ⟨⟨hML.mono (by omega), hMD, hMU⟩, by have e9 : qEl σ xp un = (σ, (-2)) := (by have hm : oMay σ xp.toNatClampNeg un = v340079 := (by rw [oMay, if_neg (by have k9 := c340080; simp only [ev340079, sx340076, sx340078] at k9; exact k9)]; simp only [ev340079, sx340076, sx340078]); rw [qEl, if_neg (by have k9 := c340072; simp only [hir340070] at k9; exact k9), hm, if_pos c340081]); show MR w I J _; rw [e9]; exact hMR, by have e9 : qEl σ xp un = (σ, (-2)) := (by have hm : oMay σ xp.toNatClampNeg un = v340079 := (by rw [oMay, if_neg (by have k9 := c340080; simp only [ev340079, sx340076, sx340078] at k9; exact k9)]; simp only [ev340079, sx340076, sx340078]); rw [qEl, if_neg (by have k9 := c340072; simp only [hir340070] at k9; exact k9), hm, if_pos c340081]); show _ = _; rw [e9]⟩, by rw [ht]; exact hP, va_K.moved hW.alike hK, hD⟩, hS.F ht⟩) hS.2.2 dX7_elect_48
    · have kc340080 : v340079.toInt = 0 := by have h9 := c340080; rw [xk_eq, xk_0] at h9; exact h9
      refine lv_iload_n hx hb dX7_elect_26 rfl (lv_at hl 3 rfl) ?_
      refine lv_if_eq (tgt := 42) hx hb dX7_elect_27 (by decide) (fun c340167 => ?_) (fun c340167 => ?_)
      · have kc340167 : un.toInt = 0 := by have h9 := c340167; rw [xk_eq, xk_0] at h9; exact h9
        refine lv_iload_n hx hb dX7_elect_42 rfl (lv_at hl 0 rfl) ?_
        refine lv_if_ne (tgt := 49) hx hb dX7_elect_43 (by decide) (fun c340168 => ?_) (fun c340168 => ?_)
        · have kc340168 : ¬ (v340079.toInt = 0) := by have h9 := c340168; rw [xk_eq, xk_0] at h9; exact h9
          have hmy340169 := xntz (a := v340079) (show ∃ u : Nat, u < 32 ∧ v340079 = nI u by rw [ev340079, ex340078]; exact xu_and' hMU) c340168
          refine lv_iload_n hx hb dX7_elect_49 rfl (lv_at hl 0 rfl) ?_
          refine vp_callSi (W.runS (As := [.int v340079]) (rest := []) ⟨hx, hb, hml, hown, hts⟩ (c_J6_numberOfTrailingZeros_0f7a4 l v340079) (va_cwS 1 hts gX7_elect_J6_numberOfTrailingZeros_0f7a4 rfl rfl rfl (by decide +kernel) ⟨Nat.le_of_ble_eq_true rfl, Nat.le_of_ble_eq_true rfl⟩) preEq rfl rfl hl.1 rfl (lv_room (Nat.le_of_ble_eq_true rfl)) dX7_elect_50 ⟨Nat.le_of_ble_eq_true rfl, Nat.le_of_ble_eq_true rfl⟩) (fun r340170 hr340170 => ?_)
          subst hr340170
          refine lv_istore (lv' := [(4, .int (sp_nz v340079)), (3, .int v340079), (0, .ref (w 0)), (1, .int xp), (2, .int un)]) hx hb dX7_elect_53 hl (by decide) rfl (fun ls hl => ?_)
          refine lv_aload_n hx hb dX7_elect_55 rfl (lv_at hl 2 rfl) ?_
          obtain ⟨j340171, hj340171⟩ := wG_7 (cy := cy) (N := N) (T := T) (I := I) (Q := Q) (J := J) (hM.at 0 (by decide)) (hM.k 0 (by decide) rfl)
          refine va_get (D := (dC, dI)) (ci := 7) (v := .ref (T (w 0) 6)) (C := RX7) (T := TX7) (N := 18) hx hb hts hi7 hown hK hP j340171 hj340171 rfl 6 (by decide) (hts (.fieldLink RX7 31 "TallyLogsModel" "step" "[I") (by decide +kernel)) (fun _ h9 => h9) rfl dX7_elect_56 ?_
          refine W.eq (g2 := F0 m 59 ls [.ref (w 7)]) (by rw [hM.t 6 (by decide)]) ?_
          refine lv_iload_n hx hb dX7_elect_59 rfl (lv_at hl 3 rfl) ?_
          obtain ⟨j340172, hj340172⟩ := wG_20 (cy := cy) (N := N) (T := T) (I := I) (Q := Q) (J := J) (hM.at 7 (by decide)) (hM.k 7 (by decide) rfl)
          refine va_iald hx hb hK hP j340172 1 hj340172 rfl (hM.inN (n := 4) 7 (by decide) rfl rfl hth340073.1) dX7_elect_60 ?_
          refine lv_topi (fun x340173 ex340173 => ?_)
          have sx340173 : x340173 = σ.1 7 xp.toNatClampNeg := ex340173.trans (hMR.a (k := 7) (by decide) (by decide) (show _ < 4 from vp_lt (n := 4) hth340073.1))
          refine lv_iload hx hb dX7_elect_61 (lv_at hl 0 rfl) ?_
          refine lv_ishr hx hb dX7_elect_63 ?_
          refine lv_topi (fun v340174 ev340174 => ?_)
          refine lv_iconst (v := 1) hx hb dX7_elect_64 (by decide) ?_
          refine lv_iand hx hb dX7_elect_65 ?_
          refine lv_topi (fun v340175 ev340175 => ?_)
          refine lv_if_ne (tgt := 79) hx hb dX7_elect_66 (by decide) (fun c340176 => ?_) (fun c340176 => ?_)
          · have kc340176 : ¬ (v340175.toInt = 0) := by have h9 := c340176; rw [xk_eq, xk_0] at h9; exact h9
            refine lv_aload_n hx hb dX7_elect_79 rfl (lv_at hl 2 rfl) ?_
            obtain ⟨j340177, hj340177⟩ := wG_7 (cy := cy) (N := N) (T := T) (I := I) (Q := Q) (J := J) (hM.at 0 (by decide)) (hM.k 0 (by decide) rfl)
            refine va_get (D := (dC, dI)) (ci := 7) (v := .ref (T (w 0) 3)) (C := RX7) (T := TX7) (N := 18) hx hb hts hi7 hown hK hP j340177 hj340177 rfl 3 (by decide) (hts (.fieldLink RX7 22 "TallyLogsModel" "leader" "[I") (by decide +kernel)) (fun _ h9 => h9) rfl dX7_elect_80 ?_
            refine W.eq (g2 := F0 m 83 ls [.ref (w 4)]) (by rw [hM.t 3 (by decide)]) ?_
            refine lv_iload_n hx hb dX7_elect_83 rfl (lv_at hl 3 rfl) ?_
            refine lv_iload hx hb dX7_elect_84 (lv_at hl 0 rfl) ?_
            obtain ⟨j340178, hj340178⟩ := wG_20 (cy := cy) (N := N) (T := T) (I := I) (Q := Q) (J := J) (hM.at 4 (by decide)) (hM.k 4 (by decide) rfl)
            have hDo := hD
            refine va_iast (x := (sp_nz v340079)) hx hb hK hP hD hS j340178 1 hj340178 rfl (hM.inN (n := 4) 4 (by decide) rfl rfl hth340073.1) dX7_elect_86 (fun H locs hP hD hS => ?_)
            have hP := Eq.mp (congrArg (fun w => va_P (dC, dI) vwCl w H) (wS_20 hDo (hM.at 4 (by decide)) (hM.k 4 (by decide) rfl) hj340178)) hP
            obtain ⟨J340179, eJ340179⟩ : ∃ z, z = va_up J (w 4) (upd (J (w 4)) xp.toNatClampNeg (sp_nz v340079)) := ⟨_, rfl⟩
            rw [← eJ340179] at hP
            have hR : RM w [] I J I J340179 := by rw [eJ340179]; exact hR.pj hM (by decide) (by decide)
            have hMD : MD w J340179 := by
              rw [eJ340179]
              refine MD.p4 hM (fun p hp _ => hMD p hp) (Or.inr ⟨hmy340169.1, ?_⟩)
              have h9 := xbit _ (fun q => c340176 ((ev340175).trans q))
              rw [ev340174, ex340173] at h9
              exact h9
            have hD : va_D A (va_pl L (wF cy K N T I Q J340179)) := pD hDo
            obtain ⟨sg340180, esg340180⟩ : ∃ z, z = sA σ 4 xp.toNatClampNeg (sp_nz v340079) := ⟨_, rfl⟩
            have hMR : MR w I J340179 sg340180 := by rw [eJ340179, esg340180]; exact hMR.wa hM (by decide) (by decide)
            refine lv_aload_n hx hb dX7_elect_87 rfl (lv_at hl 2 rfl) ?_
            obtain ⟨j340181, hj340181⟩ := wG_7 (cy := cy) (N := N) (T := T) (I := I) (Q := Q) (J := J340179) (hM.at 0 (by decide)) (hM.k 0 (by decide) rfl)
            refine va_get (D := (dC, dI)) (ci := 7) (v := .ref (T (w 0) 4)) (C := RX7) (T := TX7) (N := 18) hx hb hts hi7 hown hK hP j340181 hj340181 rfl 4 (by decide) (hts (.fieldLink RX7 25 "TallyLogsModel" "epoch" "[I") (by decide +kernel)) (fun _ h9 => h9) rfl dX7_elect_88 ?_
            refine W.eq (g2 := F0 m 91 ls [.ref (w 5)]) (by rw [hM.t 4 (by decide)]) ?_
            refine lv_iload_n hx hb dX7_elect_91 rfl (lv_at hl 3 rfl) ?_
            refine lv_dup2_11 hx hb dX7_elect_92 rfl rfl ?_
            obtain ⟨j340182, hj340182⟩ := wG_20 (cy := cy) (N := N) (T := T) (I := I) (Q := Q) (J := J340179) (hM.at 5 (by decide)) (hM.k 5 (by decide) rfl)
            refine va_iald hx hb hK hP j340182 1 hj340182 rfl (hM.inN (n := 4) 5 (by decide) rfl rfl hth340073.1) dX7_elect_93 ?_
            refine lv_topi (fun x340183 ex340183 => ?_)
            have sx340183 : x340183 = sg340180.1 5 xp.toNatClampNeg := ex340183.trans (hMR.a (k := 5) (by decide) (by decide) (show _ < 4 from vp_lt (n := 4) hth340073.1))
            refine lv_iconst (v := 1) hx hb dX7_elect_94 (by decide) ?_
            refine lv_iadd hx hb dX7_elect_95 ?_
            refine lv_topi (fun v340184 ev340184 => ?_)
            obtain ⟨j340185, hj340185⟩ := wG_20 (cy := cy) (N := N) (T := T) (I := I) (Q := Q) (J := J340179) (hM.at 5 (by decide)) (hM.k 5 (by decide) rfl)
            have hDo := hD
            refine va_iast (x := v340184) hx hb hK hP hD hS j340185 1 hj340185 rfl (hM.inN (n := 4) 5 (by decide) rfl rfl hth340073.1) dX7_elect_96 (fun H locs hP hD hS => ?_)
            have hP := Eq.mp (congrArg (fun w => va_P (dC, dI) vwCl w H) (wS_20 hDo (hM.at 5 (by decide)) (hM.k 5 (by decide) rfl) hj340185)) hP
            obtain ⟨J340186, eJ340186⟩ : ∃ z, z = va_up J340179 (w 5) (upd (J340179 (w 5)) xp.toNatClampNeg v340184) := ⟨_, rfl⟩
            rw [← eJ340186] at hP
            have hR : RM w [] I J I J340186 := by rw [eJ340186]; exact hR.pj hM (by decide) (by decide)
            have hMD : MD w J340186 := by rw [eJ340186]; exact hMD.pj hM (by decide) (by decide)
            have hD : va_D A (va_pl L (wF cy K N T I Q J340186)) := pD hDo
            obtain ⟨sg340187, esg340187⟩ : ∃ z, z = sA sg340180 5 xp.toNatClampNeg v340184 := ⟨_, rfl⟩
            have hMR : MR w I J340186 sg340187 := by rw [eJ340186, esg340187]; exact hMR.wa hM (by decide) (by decide)
            refine lv_iconst (v := 0) hx hb dX7_elect_97 (by decide) ?_
            refine lv_istore (lv' := [(5, .int 0), (4, .int (sp_nz v340079)), (3, .int v340079), (0, .ref (w 0)), (1, .int xp), (2, .int un)]) hx hb dX7_elect_98 hl (by decide) rfl (fun ls hl => ?_)
            refine wq_gen (fun Qz hQz => ?_)
            have hLP340188 : ∀ (n : Nat) (y340189 : Int32) (Ia340188 Ja340188 : Nat → Nat → Int32) (H : Heap) (locs : List Loc) (ls : Array Slot), (5 - y340189.toInt).toNat < n → 0 ≤ y340189.toInt → (y340189.toInt ≤ 5) → RM w [] I J Ia340188 Ja340188 → ML w E Ia340188 → MD w Ja340188 → MU w Ia340188 → MR w Ia340188 Ja340188 (gTwo sg340187 xp.toNatClampNeg 5 6 (-1) (σ.1 0 1) y340189.toNatClampNeg) →  va_P (dC, dI) vwCl (va_pl L (wF cy K N T Ia340188 Q Ja340188)) H → va_D A (va_pl L (wF cy K N T Ia340188 Q Ja340188)) → va_S A s.heap H locs → lv_has ls 6 [(5, .int y340189), (4, .int (sp_nz v340079)), (3, .int v340079), (0, .ref (w 0)), (1, .int xp), (2, .int un)] → W p l e (headSpec wsX7_elect ({ frames := 4, cells := 0, slots := 0, locals := 99 })).room s m ([.ref (w 0), .int xp, .int un] : List Value).toArray below meth c H locs 0 0 Qz (F0 m 100 ls []) := by
              intro n
              induction n with
              | zero => intro y340189 Ia340188 Ja340188 H locs ls hms; exact absurd hms (Nat.not_lt_zero _)
              | succ n ih340188 =>
                intro y340189 Ia340188 Ja340188 H locs ls hms hnn340188 hiv340188 hR hML hMD hMU hMR hP hD hS hl
                refine lv_iload hx hb dX7_elect_100 (lv_at hl 0 rfl) ?_
                refine lv_iconst (v := 5) hx hb dX7_elect_102 (by decide) ?_
                refine lv_icmp_ge (tgt := 141) hx hb dX7_elect_103 (by decide) (fun c340190 => ?_) (fun c340190 => ?_)
                · have kc340190 : 5 ≤ y340189.toInt := by have h9 := c340190; rw [xk_le, xk_5] at h9; exact h9
                  refine lv_aload_n hx hb dX7_elect_141 rfl (lv_at hl 3 rfl) ?_
                  refine lv_iload_n hx hb dX7_elect_142 rfl (lv_at hl 4 rfl) ?_
                  obtain ⟨j340191, hj340191⟩ := wG_7 (cy := cy) (N := N) (T := T) (I := Ia340188) (Q := Q) (J := Ja340188) (hM.at 0 (by decide)) (hM.k 0 (by decide) rfl)
                  have hFc := pfree hD hS hA
                  refine va_callv (va_runV (As := [.int xp]) (rest := []) ⟨hx, hb, hml, hown, hts⟩ (f_X7_rise l dC dI cy w L K N T Q Ia340188 Ja340188 H.size xp (gTwo sg340187 xp.toNatClampNeg 5 6 (-1) (σ.1 0 1) y340189.toNatClampNeg) hM hth340073.1 (hMD _ (vp_lt (n := 4) hth340073.1)) hMR) (cwV 1 hts gX7_elect_X7_rise rfl rfl rfl (by decide +kernel) ⟨Nat.le_of_ble_eq_true rfl, Nat.le_of_ble_eq_true rfl⟩) ⟨mw_blind, va_recv hK hP (ci := 7) (q0 := j340191) rfl hj340191, fun U hU hW => ⟨rfl, mw_pre hP hK hD hU hW⟩⟩ rfl rfl hl.1 rfl (lv_room (Nat.le_of_ble_eq_true rfl)) dX7_elect_143 ⟨Nat.le_of_ble_eq_true rfl, Nat.le_of_ble_eq_true rfl⟩) hS (fun q _ h => hFc q h) hFc (fun d9 t H1 locs ht hvm hw hB hz1 hk1 hS => ?_)
                  obtain ⟨I340192, J340192⟩ := d9
                  obtain ⟨hP, hK1, hD1⟩ := hB
                  rw [ht] at hP
                  have hD := hD1.weaken (fun _ _ _ h => hFc _ h)
                  generalize H1 = H at hP hS ⊢
                  have hP : va_P (dC, dI) vwCl (va_pl L (wF cy K N T I340192 Q J340192)) H := hP
                  have hD : va_D A (va_pl L (wF cy K N T I340192 Q J340192)) := hD
                  have hMRn := hw.1
                  have hw := hw.2
                  have hw340194 : RZ w Ia340188 Ja340188 I340192 J340192 xp.toNatClampNeg := hw
                  have hR : RM w [] I J I340192 J340192 := hR.rz hM (vp_lt (n := 4) hth340073.1) hw340194
                  have hMD : MD w J340192 := hMD.rz hw340194
                  have hMU : MU w I340192 := hMU.rz hM (vp_lt (n := 4) hth340073.1) hw340194
                  have hML : ML w E I340192 := hML.rz hM (vp_lt (n := 4) hth340073.1) hw340194
                  obtain ⟨sg340195, esg340195⟩ : ∃ z, z = oRi (gTwo sg340187 xp.toNatClampNeg 5 6 (-1) (σ.1 0 1) y340189.toNatClampNeg) xp.toNatClampNeg := ⟨_, rfl⟩
                  have hMR : MR w I340192 J340192 sg340195 := by rw [esg340195]; exact hMRn
                  refine lv_iload hx hb dX7_elect_146 (lv_at hl 1 rfl) ?_
                  rw [hQz]
                  exact W.iret (v := (sp_nz v340079)) hx hb hr (fun t ht hW => ⟨⟨(sp_nz v340079), (I340192, J340192), rfl, ⟨⟨hML.mono (by omega), hMD, hMU⟩, by have e9 : qEl σ xp un = (sg340195, (sp_nz v340079)) := (by have hm : oMay σ xp.toNatClampNeg un = v340079 := (by rw [oMay, if_pos (by have k9 := c340080; simp only [ev340079, sx340076, sx340078] at k9; exact k9), if_pos c340167]; simp only [ev340079, sx340076, sx340078]); rw [qEl, if_neg (by have k9 := c340072; simp only [hir340070] at k9; exact k9), hm, if_neg c340168, oEl, if_neg (by have k9 := c340176; simp only [ev340175, ev340174, sx340173, sx340076, sx340078] at k9; exact k9), esg340195, show y340189.toNatClampNeg = 5 by rw [clT]; omega]; simp only [esg340187, ev340184, sx340183, esg340180, ev340079, sx340076, sx340078, sA_s, sA_n, sA_2, sG_1, gTwo_1, nar1, not_false_eq_true] <;> rfl); show MR w I340192 J340192 _; rw [e9]; exact hMR, by have e9 : qEl σ xp un = (sg340195, (sp_nz v340079)) := (by have hm : oMay σ xp.toNatClampNeg un = v340079 := (by rw [oMay, if_pos (by have k9 := c340080; simp only [ev340079, sx340076, sx340078] at k9; exact k9), if_pos c340167]; simp only [ev340079, sx340076, sx340078]); rw [qEl, if_neg (by have k9 := c340072; simp only [hir340070] at k9; exact k9), hm, if_neg c340168, oEl, if_neg (by have k9 := c340176; simp only [ev340175, ev340174, sx340173, sx340076, sx340078] at k9; exact k9), esg340195, show y340189.toNatClampNeg = 5 by rw [clT]; omega]; simp only [esg340187, ev340184, sx340183, esg340180, ev340079, sx340076, sx340078, sA_s, sA_n, sA_2, sG_1, gTwo_1, nar1, not_false_eq_true] <;> rfl); show _ = _; rw [e9]⟩, by rw [ht]; exact hP, va_K.moved hW.alike hK, hD⟩, hS.F ht⟩) hS.2.2 dX7_elect_148
                · have kc340190 : ¬ (5 ≤ y340189.toInt) := by have h9 := c340190; rw [xk_le, xk_5] at h9; exact h9
                  refine lv_aload_n hx hb dX7_elect_106 rfl (lv_at hl 3 rfl) ?_
                  obtain ⟨j340196, hj340196⟩ := wG_7 (cy := cy) (N := N) (T := T) (I := Ia340188) (Q := Q) (J := Ja340188) (hM.at 0 (by decide)) (hM.k 0 (by decide) rfl)
                  refine va_get (D := (dC, dI)) (ci := 7) (v := .ref (T (w 0) 0)) (C := RX7) (T := TX7) (N := 18) hx hb hts hi7 hown hK hP j340196 hj340196 rfl 0 (by decide) (hts (.fieldLink RX7 11 "TallyLogsModel" "log" "[[LTallyLogsModel$Log;") (by decide +kernel)) (fun _ h9 => h9) rfl dX7_elect_107 ?_
                  refine W.eq (g2 := F0 m 110 ls [.ref (w 1)]) (by rw [hM.t 0 (by decide)]) ?_
                  refine lv_iload_n hx hb dX7_elect_110 rfl (lv_at hl 4 rfl) ?_
                  obtain ⟨j340197, hj340197⟩ := wG_22 (cy := cy) (N := N) (T := T) (I := Ia340188) (Q := Q) (J := Ja340188) (hM.at 1 (by decide)) (hM.k 1 (by decide) rfl)
                  refine xg_aldg hx hb hK hP j340197 2 hj340197 rfl hth340073.1 dX7_elect_111 ?_
                  refine W.eq (g2 := F0 m 112 ls [.ref (w (17 + xp.toNatClampNeg))]) (by rw [hM.qo (vp_lt (n := 4) hth340073.1)]; rfl) ?_
                  refine lv_iload hx hb dX7_elect_112 (lv_at hl 0 rfl) ?_
                  obtain ⟨j340198, hj340198⟩ := wG_23 (cy := cy) (N := N) (T := T) (I := Ia340188) (Q := Q) (J := Ja340188) (hM.row (vp_lt (n := 4) hth340073.1)).1 (hM.row (vp_lt (n := 4) hth340073.1)).2
                  refine va_aldq hx hb hK hP j340198 3 hj340198 rfl (xin_of hnn340188 (by have kc := c340190; simp only [xk_lt, xk_le, xk_0, xk_1, xk_2, xk_3, xk_4, xk_5, xk_6, xk_7, xk_8, xk_50] at kc; omega)) dX7_elect_114 ?_
                  have hjl340199 : (5 * xp.toNatClampNeg + y340189.toNatClampNeg) < 20 := by have h1 := (vp_lt (n := 4) hth340073.1); have h2 := (vp_lt (n := 5) (xin_of hnn340188 (by have kc := c340190; simp only [xk_lt, xk_le, xk_0, xk_1, xk_2, xk_3, xk_4, xk_5, xk_6, xk_7, xk_8, xk_50] at kc; omega))); omega
                  refine W.eq (g2 := F0 m 115 ls [.ref (w (21 + (5 * xp.toNatClampNeg + y340189.toNatClampNeg)))]) (by rw [hM.qr (vp_lt (n := 4) hth340073.1) (vp_lt (n := 5) (xin_of hnn340188 (by have kc := c340190; simp only [xk_lt, xk_le, xk_0, xk_1, xk_2, xk_3, xk_4, xk_5, xk_6, xk_7, xk_8, xk_50] at kc; omega)))]; rfl) ?_
                  refine lv_iconst (v := (-1)) hx hb dX7_elect_115 (by decide) ?_
                  obtain ⟨j340200, hj340200⟩ := wG_6 (cy := cy) (N := N) (T := T) (I := Ia340188) (Q := Q) (J := Ja340188) (hM.lg hjl340199).1 (hM.lg hjl340199).2
                  have hDo := hD
                  refine va_put (D := (dC, dI)) (ci := 6) (v := .int (-1)) (ty := .int) (C := RX6) (T := TX6) (N := 7) hx hb hts hi6 tyX6 tyX6_ok nmX6 hown hK hP hD hS j340200 hj340200 rfl 5 (by decide) (hts (.fieldLink RX7 92 "TallyLogsModel$Log" "known" "I") (by decide +kernel)) (fun _ h9 => h9) rfl (by decide +kernel) rfl rfl (Nat.le_of_ble_eq_true rfl) dX7_elect_116 (fun H locs hP hD hS => ?_)
                  have hP := Eq.mp (congrArg (fun w => va_P (dC, dI) vwCl w H) (wP_6_5 (x := (-1)) hDo (hM.lg hjl340199).1 (hM.lg hjl340199).2 hj340200)) hP
                  obtain ⟨I340201, eI340201⟩ : ∃ z, z = p2 Ia340188 (w (21 + (5 * xp.toNatClampNeg + y340189.toNatClampNeg))) 5 (-1) := ⟨_, rfl⟩
                  rw [← eI340201] at hP
                  have hD : va_D A (va_pl L (wF cy K N T I340201 Q Ja340188)) := pD hDo
                  obtain ⟨sg340202, esg340202⟩ : ∃ z, z = sG (gTwo sg340187 xp.toNatClampNeg 5 6 (-1) (σ.1 0 1) y340189.toNatClampNeg) (5 * xp.toNatClampNeg + y340189.toNatClampNeg) 5 (-1) := ⟨_, rfl⟩
                  have hMR : MR w I340201 Ja340188 sg340202 := by rw [eI340201, esg340202]; exact hMR.wg hM hjl340199 (by decide) (by decide)
                  have hR : RM w [] I J I340201 Ja340188 := by rw [eI340201]; exact hR.pl hM hjl340199
                  have hMU : MU w I340201 := by rw [eI340201]; exact hMU.pl hM hjl340199
                  have hML : ML w E I340201 := by rw [eI340201]; exact hML.p56 hM hjl340199 (by decide)
                  refine lv_aload_n hx hb dX7_elect_119 rfl (lv_at hl 3 rfl) ?_
                  obtain ⟨j340203, hj340203⟩ := wG_7 (cy := cy) (N := N) (T := T) (I := I340201) (Q := Q) (J := Ja340188) (hM.at 0 (by decide)) (hM.k 0 (by decide) rfl)
                  refine va_get (D := (dC, dI)) (ci := 7) (v := .ref (T (w 0) 0)) (C := RX7) (T := TX7) (N := 18) hx hb hts hi7 hown hK hP j340203 hj340203 rfl 0 (by decide) (hts (.fieldLink RX7 11 "TallyLogsModel" "log" "[[LTallyLogsModel$Log;") (by decide +kernel)) (fun _ h9 => h9) rfl dX7_elect_120 ?_
                  refine W.eq (g2 := F0 m 123 ls [.ref (w 1)]) (by rw [hM.t 0 (by decide)]) ?_
                  refine lv_iload_n hx hb dX7_elect_123 rfl (lv_at hl 4 rfl) ?_
                  obtain ⟨j340204, hj340204⟩ := wG_22 (cy := cy) (N := N) (T := T) (I := I340201) (Q := Q) (J := Ja340188) (hM.at 1 (by decide)) (hM.k 1 (by decide) rfl)
                  refine xg_aldg hx hb hK hP j340204 2 hj340204 rfl hth340073.1 dX7_elect_124 ?_
                  refine W.eq (g2 := F0 m 125 ls [.ref (w (17 + xp.toNatClampNeg))]) (by rw [hM.qo (vp_lt (n := 4) hth340073.1)]; rfl) ?_
                  refine lv_iload hx hb dX7_elect_125 (lv_at hl 0 rfl) ?_
                  obtain ⟨j340205, hj340205⟩ := wG_23 (cy := cy) (N := N) (T := T) (I := I340201) (Q := Q) (J := Ja340188) (hM.row (vp_lt (n := 4) hth340073.1)).1 (hM.row (vp_lt (n := 4) hth340073.1)).2
                  refine va_aldq hx hb hK hP j340205 3 hj340205 rfl (xin_of hnn340188 (by have kc := c340190; simp only [xk_lt, xk_le, xk_0, xk_1, xk_2, xk_3, xk_4, xk_5, xk_6, xk_7, xk_8, xk_50] at kc; omega)) dX7_elect_127 ?_
                  have hjl340206 : (5 * xp.toNatClampNeg + y340189.toNatClampNeg) < 20 := by have h1 := (vp_lt (n := 4) hth340073.1); have h2 := (vp_lt (n := 5) (xin_of hnn340188 (by have kc := c340190; simp only [xk_lt, xk_le, xk_0, xk_1, xk_2, xk_3, xk_4, xk_5, xk_6, xk_7, xk_8, xk_50] at kc; omega))); omega
                  refine W.eq (g2 := F0 m 128 ls [.ref (w (21 + (5 * xp.toNatClampNeg + y340189.toNatClampNeg)))]) (by rw [hM.qr (vp_lt (n := 4) hth340073.1) (vp_lt (n := 5) (xin_of hnn340188 (by have kc := c340190; simp only [xk_lt, xk_le, xk_0, xk_1, xk_2, xk_3, xk_4, xk_5, xk_6, xk_7, xk_8, xk_50] at kc; omega)))]; rfl) ?_
                  refine lv_aload_n hx hb dX7_elect_128 rfl (lv_at hl 3 rfl) ?_
                  obtain ⟨j340207, hj340207⟩ := wG_7 (cy := cy) (N := N) (T := T) (I := I340201) (Q := Q) (J := Ja340188) (hM.at 0 (by decide)) (hM.k 0 (by decide) rfl)
                  refine va_get (D := (dC, dI)) (ci := 7) (v := .int (I340201 (w 0) 17)) (C := RX7) (T := TX7) (N := 18) hx hb hts hi7 hown hK hP j340207 hj340207 rfl 17 (by decide) (hts (.fieldLink RX7 119 "TallyLogsModel" "now" "I") (by decide +kernel)) (fun _ h9 => h9) rfl dX7_elect_129 ?_
                  refine lv_topi (fun x340208 ex340208 => ?_)
                  have sx340208 : x340208 = sg340202.1 0 1 := ex340208.trans hMR.1.2
                  have ex340208 : x340208 = Ia340188 (w 0) 17 := by rw [ex340208, eI340201, p2_na _ _ (hM.ne (by omega) (by omega) (by omega))]
                  have tx340208 : x340208.toInt = (Ia340188 (w 0) 17).toInt := congrArg Int32.toInt ex340208
                  obtain ⟨j340209, hj340209⟩ := wG_6 (cy := cy) (N := N) (T := T) (I := I340201) (Q := Q) (J := Ja340188) (hM.lg hjl340206).1 (hM.lg hjl340206).2
                  have hDo := hD
                  refine va_put (D := (dC, dI)) (ci := 6) (v := .int x340208) (ty := .int) (C := RX6) (T := TX6) (N := 7) hx hb hts hi6 tyX6 tyX6_ok nmX6 hown hK hP hD hS j340209 hj340209 rfl 6 (by decide) (hts (.fieldLink RX7 122 "TallyLogsModel$Log" "caught" "I") (by decide +kernel)) (fun _ h9 => h9) rfl (by decide +kernel) rfl rfl (Nat.le_of_ble_eq_true rfl) dX7_elect_132 (fun H locs hP hD hS => ?_)
                  have hP := Eq.mp (congrArg (fun w => va_P (dC, dI) vwCl w H) (wP_6_6 (x := x340208) hDo (hM.lg hjl340206).1 (hM.lg hjl340206).2 hj340209)) hP
                  obtain ⟨I340210, eI340210⟩ : ∃ z, z = p2 I340201 (w (21 + (5 * xp.toNatClampNeg + y340189.toNatClampNeg))) 6 x340208 := ⟨_, rfl⟩
                  rw [← eI340210] at hP
                  have hD : va_D A (va_pl L (wF cy K N T I340210 Q Ja340188)) := pD hDo
                  obtain ⟨sg340211, esg340211⟩ : ∃ z, z = sG sg340202 (5 * xp.toNatClampNeg + y340189.toNatClampNeg) 6 x340208 := ⟨_, rfl⟩
                  have hMR : MR w I340210 Ja340188 sg340211 := by rw [eI340210, esg340211]; exact hMR.wg hM hjl340206 (by decide) (by decide)
                  have hR : RM w [] I J I340210 Ja340188 := by rw [eI340210]; exact hR.pl hM hjl340206
                  have hMU : MU w I340210 := by rw [eI340210]; exact hMU.pl hM hjl340206
                  have hML : ML w E I340210 := by rw [eI340210]; exact hML.p56 hM hjl340206 (by decide)
                  obtain ⟨v340212, ev340212⟩ : ∃ y : Int32, y = y340189 + Int32.ofInt 1 := ⟨_, rfl⟩
                  refine lv_iinc (v := v340212) (lv' := [(5, .int v340212), (4, .int (sp_nz v340079)), (3, .int v340079), (0, .ref (w 0)), (1, .int xp), (2, .int un)]) hx hb dX7_elect_135 hl (k := 0) rfl ev340212.symm (by decide) rfl (fun ls hl => ?_)
                  refine lv_goto (tgt := 100) hx hb dX7_elect_138 (by decide) ?_
                  have tv340212 : v340212.toInt = y340189.toInt + 1 := by rw [ev340212, show y340189 + Int32.ofInt 1 = y340189 + 1 from rfl]; exact xinc (y := (5 : Int32)) (by rw [xk_lt, xk_5]; omega)
                  exact ih340188 _ _ _ _ _ _ (by omega) (by omega) (by omega) hR (hML.mono (by omega)) hMD hMU (by have vx340208 : x340208 = σ.1 0 1 := (by rw [sx340208]; simp only [esg340202, esg340187, ev340184, sx340183, esg340180, ev340079, sx340076, sx340078, sA_s, sA_n, sA_2, sG_1, gTwo_1, nar1, not_false_eq_true] <;> rfl); have z1 := esg340202; have z2 := esg340211; rw [vx340208] at z2; rw [clsucc (y := y340189) (by omega) tv340212]; show MR w _ _ (sG (sG (gTwo sg340187 xp.toNatClampNeg 5 6 (-1) (σ.1 0 1) y340189.toNatClampNeg) (5 * xp.toNatClampNeg + y340189.toNatClampNeg) 5 (-1)) (5 * xp.toNatClampNeg + y340189.toNatClampNeg) 6 (σ.1 0 1)); rw [← z1, ← z2]; exact hMR) hP hD hS (lv_sub hl [0, 1, 2, 3, 4, 5] rfl)
            exact hLP340188 _ _ _ _ _ _ _ (Nat.lt_succ_self _) (by decide) (by decide) hR (hML.mono (by omega)) hMD hMU (by rw [cl_0]; exact hMR) hP hD hS (lv_sub hl [0, 1, 2, 3, 4, 5] rfl)
          · have kc340176 : v340175.toInt = 0 := by have h9 := c340176; rw [xk_eq, xk_0] at h9; exact h9
            refine lv_aload_n hx hb dX7_elect_69 rfl (lv_at hl 2 rfl) ?_
            obtain ⟨j340213, hj340213⟩ := wG_7 (cy := cy) (N := N) (T := T) (I := I) (Q := Q) (J := J) (hM.at 0 (by decide)) (hM.k 0 (by decide) rfl)
            refine va_get (D := (dC, dI)) (ci := 7) (v := .ref (T (w 0) 6)) (C := RX7) (T := TX7) (N := 18) hx hb hts hi7 hown hK hP j340213 hj340213 rfl 6 (by decide) (hts (.fieldLink RX7 31 "TallyLogsModel" "step" "[I") (by decide +kernel)) (fun _ h9 => h9) rfl dX7_elect_70 ?_
            refine W.eq (g2 := F0 m 73 ls [.ref (w 7)]) (by rw [hM.t 6 (by decide)]) ?_
            refine lv_iload_n hx hb dX7_elect_73 rfl (lv_at hl 3 rfl) ?_
            refine lv_iconst (v := 1) hx hb dX7_elect_74 (by decide) ?_
            refine lv_iload hx hb dX7_elect_75 (lv_at hl 0 rfl) ?_
            refine lv_ishl hx hb dX7_elect_77 ?_
            refine lv_topi (fun v340214 ev340214 => ?_)
            obtain ⟨j340215, hj340215⟩ := wG_20 (cy := cy) (N := N) (T := T) (I := I) (Q := Q) (J := J) (hM.at 7 (by decide)) (hM.k 7 (by decide) rfl)
            have hDo := hD
            refine va_iast (x := v340214) hx hb hK hP hD hS j340215 1 hj340215 rfl (hM.inN (n := 4) 7 (by decide) rfl rfl hth340073.1) dX7_elect_78 (fun H locs hP hD hS => ?_)
            have hP := Eq.mp (congrArg (fun w => va_P (dC, dI) vwCl w H) (wS_20 hDo (hM.at 7 (by decide)) (hM.k 7 (by decide) rfl) hj340215)) hP
            obtain ⟨J340216, eJ340216⟩ : ∃ z, z = va_up J (w 7) (upd (J (w 7)) xp.toNatClampNeg v340214) := ⟨_, rfl⟩
            rw [← eJ340216] at hP
            have hR : RM w [] I J I J340216 := by rw [eJ340216]; exact hR.pj hM (by decide) (by decide)
            have hD : va_D A (va_pl L (wF cy K N T I Q J340216)) := pD hDo
            obtain ⟨sg340217, esg340217⟩ : ∃ z, z = sA σ 7 xp.toNatClampNeg v340214 := ⟨_, rfl⟩
            have hMR : MR w I J340216 sg340217 := by rw [eJ340216, esg340217]; exact hMR.wa hM (by decide) (by decide)
            refine lv_aload_n hx hb dX7_elect_79 rfl (lv_at hl 2 rfl) ?_
            obtain ⟨j340218, hj340218⟩ := wG_7 (cy := cy) (N := N) (T := T) (I := I) (Q := Q) (J := J340216) (hM.at 0 (by decide)) (hM.k 0 (by decide) rfl)
            refine va_get (D := (dC, dI)) (ci := 7) (v := .ref (T (w 0) 3)) (C := RX7) (T := TX7) (N := 18) hx hb hts hi7 hown hK hP j340218 hj340218 rfl 3 (by decide) (hts (.fieldLink RX7 22 "TallyLogsModel" "leader" "[I") (by decide +kernel)) (fun _ h9 => h9) rfl dX7_elect_80 ?_
            refine W.eq (g2 := F0 m 83 ls [.ref (w 4)]) (by rw [hM.t 3 (by decide)]) ?_
            refine lv_iload_n hx hb dX7_elect_83 rfl (lv_at hl 3 rfl) ?_
            refine lv_iload hx hb dX7_elect_84 (lv_at hl 0 rfl) ?_
            obtain ⟨j340219, hj340219⟩ := wG_20 (cy := cy) (N := N) (T := T) (I := I) (Q := Q) (J := J340216) (hM.at 4 (by decide)) (hM.k 4 (by decide) rfl)
            have hDo := hD
            refine va_iast (x := (sp_nz v340079)) hx hb hK hP hD hS j340219 1 hj340219 rfl (hM.inN (n := 4) 4 (by decide) rfl rfl hth340073.1) dX7_elect_86 (fun H locs hP hD hS => ?_)
            have hP := Eq.mp (congrArg (fun w => va_P (dC, dI) vwCl w H) (wS_20 hDo (hM.at 4 (by decide)) (hM.k 4 (by decide) rfl) hj340219)) hP
            obtain ⟨J340220, eJ340220⟩ : ∃ z, z = va_up J340216 (w 4) (upd (J340216 (w 4)) xp.toNatClampNeg (sp_nz v340079)) := ⟨_, rfl⟩
            rw [← eJ340220] at hP
            have hR : RM w [] I J I J340220 := by rw [eJ340220]; exact hR.pj hM (by decide) (by decide)
            have hMD : MD w J340220 := by
              rw [eJ340220, eJ340216]
              refine MD.p4 hM (hMD.p7' hM) (Or.inr ⟨hmy340169.1, ?_⟩)
              rw [va_up_self]
              simp only [upd, if_true]
              rw [ev340214]
              exact xsh1 _
            have hD : va_D A (va_pl L (wF cy K N T I Q J340220)) := pD hDo
            obtain ⟨sg340221, esg340221⟩ : ∃ z, z = sA sg340217 4 xp.toNatClampNeg (sp_nz v340079) := ⟨_, rfl⟩
            have hMR : MR w I J340220 sg340221 := by rw [eJ340220, esg340221]; exact hMR.wa hM (by decide) (by decide)
            refine lv_aload_n hx hb dX7_elect_87 rfl (lv_at hl 2 rfl) ?_
            obtain ⟨j340222, hj340222⟩ := wG_7 (cy := cy) (N := N) (T := T) (I := I) (Q := Q) (J := J340220) (hM.at 0 (by decide)) (hM.k 0 (by decide) rfl)
            refine va_get (D := (dC, dI)) (ci := 7) (v := .ref (T (w 0) 4)) (C := RX7) (T := TX7) (N := 18) hx hb hts hi7 hown hK hP j340222 hj340222 rfl 4 (by decide) (hts (.fieldLink RX7 25 "TallyLogsModel" "epoch" "[I") (by decide +kernel)) (fun _ h9 => h9) rfl dX7_elect_88 ?_
            refine W.eq (g2 := F0 m 91 ls [.ref (w 5)]) (by rw [hM.t 4 (by decide)]) ?_
            refine lv_iload_n hx hb dX7_elect_91 rfl (lv_at hl 3 rfl) ?_
            refine lv_dup2_11 hx hb dX7_elect_92 rfl rfl ?_
            obtain ⟨j340223, hj340223⟩ := wG_20 (cy := cy) (N := N) (T := T) (I := I) (Q := Q) (J := J340220) (hM.at 5 (by decide)) (hM.k 5 (by decide) rfl)
            refine va_iald hx hb hK hP j340223 1 hj340223 rfl (hM.inN (n := 4) 5 (by decide) rfl rfl hth340073.1) dX7_elect_93 ?_
            refine lv_topi (fun x340224 ex340224 => ?_)
            have sx340224 : x340224 = sg340221.1 5 xp.toNatClampNeg := ex340224.trans (hMR.a (k := 5) (by decide) (by decide) (show _ < 4 from vp_lt (n := 4) hth340073.1))
            refine lv_iconst (v := 1) hx hb dX7_elect_94 (by decide) ?_
            refine lv_iadd hx hb dX7_elect_95 ?_
            refine lv_topi (fun v340225 ev340225 => ?_)
            obtain ⟨j340226, hj340226⟩ := wG_20 (cy := cy) (N := N) (T := T) (I := I) (Q := Q) (J := J340220) (hM.at 5 (by decide)) (hM.k 5 (by decide) rfl)
            have hDo := hD
            refine va_iast (x := v340225) hx hb hK hP hD hS j340226 1 hj340226 rfl (hM.inN (n := 4) 5 (by decide) rfl rfl hth340073.1) dX7_elect_96 (fun H locs hP hD hS => ?_)
            have hP := Eq.mp (congrArg (fun w => va_P (dC, dI) vwCl w H) (wS_20 hDo (hM.at 5 (by decide)) (hM.k 5 (by decide) rfl) hj340226)) hP
            obtain ⟨J340227, eJ340227⟩ : ∃ z, z = va_up J340220 (w 5) (upd (J340220 (w 5)) xp.toNatClampNeg v340225) := ⟨_, rfl⟩
            rw [← eJ340227] at hP
            have hR : RM w [] I J I J340227 := by rw [eJ340227]; exact hR.pj hM (by decide) (by decide)
            have hMD : MD w J340227 := by rw [eJ340227]; exact hMD.pj hM (by decide) (by decide)
            have hD : va_D A (va_pl L (wF cy K N T I Q J340227)) := pD hDo
            obtain ⟨sg340228, esg340228⟩ : ∃ z, z = sA sg340221 5 xp.toNatClampNeg v340225 := ⟨_, rfl⟩
            have hMR : MR w I J340227 sg340228 := by rw [eJ340227, esg340228]; exact hMR.wa hM (by decide) (by decide)
            refine lv_iconst (v := 0) hx hb dX7_elect_97 (by decide) ?_
            refine lv_istore (lv' := [(5, .int 0), (4, .int (sp_nz v340079)), (3, .int v340079), (0, .ref (w 0)), (1, .int xp), (2, .int un)]) hx hb dX7_elect_98 hl (by decide) rfl (fun ls hl => ?_)
            refine wq_gen (fun Qz hQz => ?_)
            have hLP340229 : ∀ (n : Nat) (y340230 : Int32) (Ia340229 Ja340229 : Nat → Nat → Int32) (H : Heap) (locs : List Loc) (ls : Array Slot), (5 - y340230.toInt).toNat < n → 0 ≤ y340230.toInt → (y340230.toInt ≤ 5) → RM w [] I J Ia340229 Ja340229 → ML w E Ia340229 → MD w Ja340229 → MU w Ia340229 → MR w Ia340229 Ja340229 (gTwo sg340228 xp.toNatClampNeg 5 6 (-1) (σ.1 0 1) y340230.toNatClampNeg) →  va_P (dC, dI) vwCl (va_pl L (wF cy K N T Ia340229 Q Ja340229)) H → va_D A (va_pl L (wF cy K N T Ia340229 Q Ja340229)) → va_S A s.heap H locs → lv_has ls 6 [(5, .int y340230), (4, .int (sp_nz v340079)), (3, .int v340079), (0, .ref (w 0)), (1, .int xp), (2, .int un)] → W p l e (headSpec wsX7_elect ({ frames := 4, cells := 0, slots := 0, locals := 99 })).room s m ([.ref (w 0), .int xp, .int un] : List Value).toArray below meth c H locs 0 0 Qz (F0 m 100 ls []) := by
              intro n
              induction n with
              | zero => intro y340230 Ia340229 Ja340229 H locs ls hms; exact absurd hms (Nat.not_lt_zero _)
              | succ n ih340229 =>
                intro y340230 Ia340229 Ja340229 H locs ls hms hnn340229 hiv340229 hR hML hMD hMU hMR hP hD hS hl
                refine lv_iload hx hb dX7_elect_100 (lv_at hl 0 rfl) ?_
                refine lv_iconst (v := 5) hx hb dX7_elect_102 (by decide) ?_
                refine lv_icmp_ge (tgt := 141) hx hb dX7_elect_103 (by decide) (fun c340231 => ?_) (fun c340231 => ?_)
                · have kc340231 : 5 ≤ y340230.toInt := by have h9 := c340231; rw [xk_le, xk_5] at h9; exact h9
                  refine lv_aload_n hx hb dX7_elect_141 rfl (lv_at hl 3 rfl) ?_
                  refine lv_iload_n hx hb dX7_elect_142 rfl (lv_at hl 4 rfl) ?_
                  obtain ⟨j340232, hj340232⟩ := wG_7 (cy := cy) (N := N) (T := T) (I := Ia340229) (Q := Q) (J := Ja340229) (hM.at 0 (by decide)) (hM.k 0 (by decide) rfl)
                  have hFc := pfree hD hS hA
                  refine va_callv (va_runV (As := [.int xp]) (rest := []) ⟨hx, hb, hml, hown, hts⟩ (f_X7_rise l dC dI cy w L K N T Q Ia340229 Ja340229 H.size xp (gTwo sg340228 xp.toNatClampNeg 5 6 (-1) (σ.1 0 1) y340230.toNatClampNeg) hM hth340073.1 (hMD _ (vp_lt (n := 4) hth340073.1)) hMR) (cwV 1 hts gX7_elect_X7_rise rfl rfl rfl (by decide +kernel) ⟨Nat.le_of_ble_eq_true rfl, Nat.le_of_ble_eq_true rfl⟩) ⟨mw_blind, va_recv hK hP (ci := 7) (q0 := j340232) rfl hj340232, fun U hU hW => ⟨rfl, mw_pre hP hK hD hU hW⟩⟩ rfl rfl hl.1 rfl (lv_room (Nat.le_of_ble_eq_true rfl)) dX7_elect_143 ⟨Nat.le_of_ble_eq_true rfl, Nat.le_of_ble_eq_true rfl⟩) hS (fun q _ h => hFc q h) hFc (fun d9 t H1 locs ht hvm hw hB hz1 hk1 hS => ?_)
                  obtain ⟨I340233, J340233⟩ := d9
                  obtain ⟨hP, hK1, hD1⟩ := hB
                  rw [ht] at hP
                  have hD := hD1.weaken (fun _ _ _ h => hFc _ h)
                  generalize H1 = H at hP hS ⊢
                  have hP : va_P (dC, dI) vwCl (va_pl L (wF cy K N T I340233 Q J340233)) H := hP
                  have hD : va_D A (va_pl L (wF cy K N T I340233 Q J340233)) := hD
                  have hMRn := hw.1
                  have hw := hw.2
                  have hw340235 : RZ w Ia340229 Ja340229 I340233 J340233 xp.toNatClampNeg := hw
                  have hR : RM w [] I J I340233 J340233 := hR.rz hM (vp_lt (n := 4) hth340073.1) hw340235
                  have hMD : MD w J340233 := hMD.rz hw340235
                  have hMU : MU w I340233 := hMU.rz hM (vp_lt (n := 4) hth340073.1) hw340235
                  have hML : ML w E I340233 := hML.rz hM (vp_lt (n := 4) hth340073.1) hw340235
                  obtain ⟨sg340236, esg340236⟩ : ∃ z, z = oRi (gTwo sg340228 xp.toNatClampNeg 5 6 (-1) (σ.1 0 1) y340230.toNatClampNeg) xp.toNatClampNeg := ⟨_, rfl⟩
                  have hMR : MR w I340233 J340233 sg340236 := by rw [esg340236]; exact hMRn
                  refine lv_iload hx hb dX7_elect_146 (lv_at hl 1 rfl) ?_
                  rw [hQz]
                  exact W.iret (v := (sp_nz v340079)) hx hb hr (fun t ht hW => ⟨⟨(sp_nz v340079), (I340233, J340233), rfl, ⟨⟨hML.mono (by omega), hMD, hMU⟩, by have e9 : qEl σ xp un = (sg340236, (sp_nz v340079)) := (by have hm : oMay σ xp.toNatClampNeg un = v340079 := (by rw [oMay, if_pos (by have k9 := c340080; simp only [ev340079, sx340076, sx340078] at k9; exact k9), if_pos c340167]; simp only [ev340079, sx340076, sx340078]); rw [qEl, if_neg (by have k9 := c340072; simp only [hir340070] at k9; exact k9), hm, if_neg c340168, oEl, if_pos (by have k9 := c340176; simp only [ev340175, ev340174, sx340173, sx340076, sx340078] at k9; exact k9), esg340236, show y340230.toNatClampNeg = 5 by rw [clT]; omega]; simp only [esg340228, ev340225, sx340224, esg340221, ev340079, sx340076, sx340078, esg340217, ev340214, sA_s, sA_n, sA_2, sG_1, gTwo_1, nar1, not_false_eq_true] <;> rfl); show MR w I340233 J340233 _; rw [e9]; exact hMR, by have e9 : qEl σ xp un = (sg340236, (sp_nz v340079)) := (by have hm : oMay σ xp.toNatClampNeg un = v340079 := (by rw [oMay, if_pos (by have k9 := c340080; simp only [ev340079, sx340076, sx340078] at k9; exact k9), if_pos c340167]; simp only [ev340079, sx340076, sx340078]); rw [qEl, if_neg (by have k9 := c340072; simp only [hir340070] at k9; exact k9), hm, if_neg c340168, oEl, if_pos (by have k9 := c340176; simp only [ev340175, ev340174, sx340173, sx340076, sx340078] at k9; exact k9), esg340236, show y340230.toNatClampNeg = 5 by rw [clT]; omega]; simp only [esg340228, ev340225, sx340224, esg340221, ev340079, sx340076, sx340078, esg340217, ev340214, sA_s, sA_n, sA_2, sG_1, gTwo_1, nar1, not_false_eq_true] <;> rfl); show _ = _; rw [e9]⟩, by rw [ht]; exact hP, va_K.moved hW.alike hK, hD⟩, hS.F ht⟩) hS.2.2 dX7_elect_148
                · have kc340231 : ¬ (5 ≤ y340230.toInt) := by have h9 := c340231; rw [xk_le, xk_5] at h9; exact h9
                  refine lv_aload_n hx hb dX7_elect_106 rfl (lv_at hl 3 rfl) ?_
                  obtain ⟨j340237, hj340237⟩ := wG_7 (cy := cy) (N := N) (T := T) (I := Ia340229) (Q := Q) (J := Ja340229) (hM.at 0 (by decide)) (hM.k 0 (by decide) rfl)
                  refine va_get (D := (dC, dI)) (ci := 7) (v := .ref (T (w 0) 0)) (C := RX7) (T := TX7) (N := 18) hx hb hts hi7 hown hK hP j340237 hj340237 rfl 0 (by decide) (hts (.fieldLink RX7 11 "TallyLogsModel" "log" "[[LTallyLogsModel$Log;") (by decide +kernel)) (fun _ h9 => h9) rfl dX7_elect_107 ?_
                  refine W.eq (g2 := F0 m 110 ls [.ref (w 1)]) (by rw [hM.t 0 (by decide)]) ?_
                  refine lv_iload_n hx hb dX7_elect_110 rfl (lv_at hl 4 rfl) ?_
                  obtain ⟨j340238, hj340238⟩ := wG_22 (cy := cy) (N := N) (T := T) (I := Ia340229) (Q := Q) (J := Ja340229) (hM.at 1 (by decide)) (hM.k 1 (by decide) rfl)
                  refine xg_aldg hx hb hK hP j340238 2 hj340238 rfl hth340073.1 dX7_elect_111 ?_
                  refine W.eq (g2 := F0 m 112 ls [.ref (w (17 + xp.toNatClampNeg))]) (by rw [hM.qo (vp_lt (n := 4) hth340073.1)]; rfl) ?_
                  refine lv_iload hx hb dX7_elect_112 (lv_at hl 0 rfl) ?_
                  obtain ⟨j340239, hj340239⟩ := wG_23 (cy := cy) (N := N) (T := T) (I := Ia340229) (Q := Q) (J := Ja340229) (hM.row (vp_lt (n := 4) hth340073.1)).1 (hM.row (vp_lt (n := 4) hth340073.1)).2
                  refine va_aldq hx hb hK hP j340239 3 hj340239 rfl (xin_of hnn340229 (by have kc := c340231; simp only [xk_lt, xk_le, xk_0, xk_1, xk_2, xk_3, xk_4, xk_5, xk_6, xk_7, xk_8, xk_50] at kc; omega)) dX7_elect_114 ?_
                  have hjl340240 : (5 * xp.toNatClampNeg + y340230.toNatClampNeg) < 20 := by have h1 := (vp_lt (n := 4) hth340073.1); have h2 := (vp_lt (n := 5) (xin_of hnn340229 (by have kc := c340231; simp only [xk_lt, xk_le, xk_0, xk_1, xk_2, xk_3, xk_4, xk_5, xk_6, xk_7, xk_8, xk_50] at kc; omega))); omega
                  refine W.eq (g2 := F0 m 115 ls [.ref (w (21 + (5 * xp.toNatClampNeg + y340230.toNatClampNeg)))]) (by rw [hM.qr (vp_lt (n := 4) hth340073.1) (vp_lt (n := 5) (xin_of hnn340229 (by have kc := c340231; simp only [xk_lt, xk_le, xk_0, xk_1, xk_2, xk_3, xk_4, xk_5, xk_6, xk_7, xk_8, xk_50] at kc; omega)))]; rfl) ?_
                  refine lv_iconst (v := (-1)) hx hb dX7_elect_115 (by decide) ?_
                  obtain ⟨j340241, hj340241⟩ := wG_6 (cy := cy) (N := N) (T := T) (I := Ia340229) (Q := Q) (J := Ja340229) (hM.lg hjl340240).1 (hM.lg hjl340240).2
                  have hDo := hD
                  refine va_put (D := (dC, dI)) (ci := 6) (v := .int (-1)) (ty := .int) (C := RX6) (T := TX6) (N := 7) hx hb hts hi6 tyX6 tyX6_ok nmX6 hown hK hP hD hS j340241 hj340241 rfl 5 (by decide) (hts (.fieldLink RX7 92 "TallyLogsModel$Log" "known" "I") (by decide +kernel)) (fun _ h9 => h9) rfl (by decide +kernel) rfl rfl (Nat.le_of_ble_eq_true rfl) dX7_elect_116 (fun H locs hP hD hS => ?_)
                  have hP := Eq.mp (congrArg (fun w => va_P (dC, dI) vwCl w H) (wP_6_5 (x := (-1)) hDo (hM.lg hjl340240).1 (hM.lg hjl340240).2 hj340241)) hP
                  obtain ⟨I340242, eI340242⟩ : ∃ z, z = p2 Ia340229 (w (21 + (5 * xp.toNatClampNeg + y340230.toNatClampNeg))) 5 (-1) := ⟨_, rfl⟩
                  rw [← eI340242] at hP
                  have hD : va_D A (va_pl L (wF cy K N T I340242 Q Ja340229)) := pD hDo
                  obtain ⟨sg340243, esg340243⟩ : ∃ z, z = sG (gTwo sg340228 xp.toNatClampNeg 5 6 (-1) (σ.1 0 1) y340230.toNatClampNeg) (5 * xp.toNatClampNeg + y340230.toNatClampNeg) 5 (-1) := ⟨_, rfl⟩
                  have hMR : MR w I340242 Ja340229 sg340243 := by rw [eI340242, esg340243]; exact hMR.wg hM hjl340240 (by decide) (by decide)
                  have hR : RM w [] I J I340242 Ja340229 := by rw [eI340242]; exact hR.pl hM hjl340240
                  have hMU : MU w I340242 := by rw [eI340242]; exact hMU.pl hM hjl340240
                  have hML : ML w E I340242 := by rw [eI340242]; exact hML.p56 hM hjl340240 (by decide)
                  refine lv_aload_n hx hb dX7_elect_119 rfl (lv_at hl 3 rfl) ?_
                  obtain ⟨j340244, hj340244⟩ := wG_7 (cy := cy) (N := N) (T := T) (I := I340242) (Q := Q) (J := Ja340229) (hM.at 0 (by decide)) (hM.k 0 (by decide) rfl)
                  refine va_get (D := (dC, dI)) (ci := 7) (v := .ref (T (w 0) 0)) (C := RX7) (T := TX7) (N := 18) hx hb hts hi7 hown hK hP j340244 hj340244 rfl 0 (by decide) (hts (.fieldLink RX7 11 "TallyLogsModel" "log" "[[LTallyLogsModel$Log;") (by decide +kernel)) (fun _ h9 => h9) rfl dX7_elect_120 ?_
                  refine W.eq (g2 := F0 m 123 ls [.ref (w 1)]) (by rw [hM.t 0 (by decide)]) ?_
                  refine lv_iload_n hx hb dX7_elect_123 rfl (lv_at hl 4 rfl) ?_
                  obtain ⟨j340245, hj340245⟩ := wG_22 (cy := cy) (N := N) (T := T) (I := I340242) (Q := Q) (J := Ja340229) (hM.at 1 (by decide)) (hM.k 1 (by decide) rfl)
                  refine xg_aldg hx hb hK hP j340245 2 hj340245 rfl hth340073.1 dX7_elect_124 ?_
                  refine W.eq (g2 := F0 m 125 ls [.ref (w (17 + xp.toNatClampNeg))]) (by rw [hM.qo (vp_lt (n := 4) hth340073.1)]; rfl) ?_
                  refine lv_iload hx hb dX7_elect_125 (lv_at hl 0 rfl) ?_
                  obtain ⟨j340246, hj340246⟩ := wG_23 (cy := cy) (N := N) (T := T) (I := I340242) (Q := Q) (J := Ja340229) (hM.row (vp_lt (n := 4) hth340073.1)).1 (hM.row (vp_lt (n := 4) hth340073.1)).2
                  refine va_aldq hx hb hK hP j340246 3 hj340246 rfl (xin_of hnn340229 (by have kc := c340231; simp only [xk_lt, xk_le, xk_0, xk_1, xk_2, xk_3, xk_4, xk_5, xk_6, xk_7, xk_8, xk_50] at kc; omega)) dX7_elect_127 ?_
                  have hjl340247 : (5 * xp.toNatClampNeg + y340230.toNatClampNeg) < 20 := by have h1 := (vp_lt (n := 4) hth340073.1); have h2 := (vp_lt (n := 5) (xin_of hnn340229 (by have kc := c340231; simp only [xk_lt, xk_le, xk_0, xk_1, xk_2, xk_3, xk_4, xk_5, xk_6, xk_7, xk_8, xk_50] at kc; omega))); omega
                  refine W.eq (g2 := F0 m 128 ls [.ref (w (21 + (5 * xp.toNatClampNeg + y340230.toNatClampNeg)))]) (by rw [hM.qr (vp_lt (n := 4) hth340073.1) (vp_lt (n := 5) (xin_of hnn340229 (by have kc := c340231; simp only [xk_lt, xk_le, xk_0, xk_1, xk_2, xk_3, xk_4, xk_5, xk_6, xk_7, xk_8, xk_50] at kc; omega)))]; rfl) ?_
                  refine lv_aload_n hx hb dX7_elect_128 rfl (lv_at hl 3 rfl) ?_
                  obtain ⟨j340248, hj340248⟩ := wG_7 (cy := cy) (N := N) (T := T) (I := I340242) (Q := Q) (J := Ja340229) (hM.at 0 (by decide)) (hM.k 0 (by decide) rfl)
                  refine va_get (D := (dC, dI)) (ci := 7) (v := .int (I340242 (w 0) 17)) (C := RX7) (T := TX7) (N := 18) hx hb hts hi7 hown hK hP j340248 hj340248 rfl 17 (by decide) (hts (.fieldLink RX7 119 "TallyLogsModel" "now" "I") (by decide +kernel)) (fun _ h9 => h9) rfl dX7_elect_129 ?_
                  refine lv_topi (fun x340249 ex340249 => ?_)
                  have sx340249 : x340249 = sg340243.1 0 1 := ex340249.trans hMR.1.2
                  have ex340249 : x340249 = Ia340229 (w 0) 17 := by rw [ex340249, eI340242, p2_na _ _ (hM.ne (by omega) (by omega) (by omega))]
                  have tx340249 : x340249.toInt = (Ia340229 (w 0) 17).toInt := congrArg Int32.toInt ex340249
                  obtain ⟨j340250, hj340250⟩ := wG_6 (cy := cy) (N := N) (T := T) (I := I340242) (Q := Q) (J := Ja340229) (hM.lg hjl340247).1 (hM.lg hjl340247).2
                  have hDo := hD
                  refine va_put (D := (dC, dI)) (ci := 6) (v := .int x340249) (ty := .int) (C := RX6) (T := TX6) (N := 7) hx hb hts hi6 tyX6 tyX6_ok nmX6 hown hK hP hD hS j340250 hj340250 rfl 6 (by decide) (hts (.fieldLink RX7 122 "TallyLogsModel$Log" "caught" "I") (by decide +kernel)) (fun _ h9 => h9) rfl (by decide +kernel) rfl rfl (Nat.le_of_ble_eq_true rfl) dX7_elect_132 (fun H locs hP hD hS => ?_)
                  have hP := Eq.mp (congrArg (fun w => va_P (dC, dI) vwCl w H) (wP_6_6 (x := x340249) hDo (hM.lg hjl340247).1 (hM.lg hjl340247).2 hj340250)) hP
                  obtain ⟨I340251, eI340251⟩ : ∃ z, z = p2 I340242 (w (21 + (5 * xp.toNatClampNeg + y340230.toNatClampNeg))) 6 x340249 := ⟨_, rfl⟩
                  rw [← eI340251] at hP
                  have hD : va_D A (va_pl L (wF cy K N T I340251 Q Ja340229)) := pD hDo
                  obtain ⟨sg340252, esg340252⟩ : ∃ z, z = sG sg340243 (5 * xp.toNatClampNeg + y340230.toNatClampNeg) 6 x340249 := ⟨_, rfl⟩
                  have hMR : MR w I340251 Ja340229 sg340252 := by rw [eI340251, esg340252]; exact hMR.wg hM hjl340247 (by decide) (by decide)
                  have hR : RM w [] I J I340251 Ja340229 := by rw [eI340251]; exact hR.pl hM hjl340247
                  have hMU : MU w I340251 := by rw [eI340251]; exact hMU.pl hM hjl340247
                  have hML : ML w E I340251 := by rw [eI340251]; exact hML.p56 hM hjl340247 (by decide)
                  obtain ⟨v340253, ev340253⟩ : ∃ y : Int32, y = y340230 + Int32.ofInt 1 := ⟨_, rfl⟩
                  refine lv_iinc (v := v340253) (lv' := [(5, .int v340253), (4, .int (sp_nz v340079)), (3, .int v340079), (0, .ref (w 0)), (1, .int xp), (2, .int un)]) hx hb dX7_elect_135 hl (k := 0) rfl ev340253.symm (by decide) rfl (fun ls hl => ?_)
                  refine lv_goto (tgt := 100) hx hb dX7_elect_138 (by decide) ?_
                  have tv340253 : v340253.toInt = y340230.toInt + 1 := by rw [ev340253, show y340230 + Int32.ofInt 1 = y340230 + 1 from rfl]; exact xinc (y := (5 : Int32)) (by rw [xk_lt, xk_5]; omega)
                  exact ih340229 _ _ _ _ _ _ (by omega) (by omega) (by omega) hR (hML.mono (by omega)) hMD hMU (by have vx340249 : x340249 = σ.1 0 1 := (by rw [sx340249]; simp only [esg340243, esg340228, ev340225, sx340224, esg340221, ev340079, sx340076, sx340078, esg340217, ev340214, sA_s, sA_n, sA_2, sG_1, gTwo_1, nar1, not_false_eq_true] <;> rfl); have z1 := esg340243; have z2 := esg340252; rw [vx340249] at z2; rw [clsucc (y := y340230) (by omega) tv340253]; show MR w _ _ (sG (sG (gTwo sg340228 xp.toNatClampNeg 5 6 (-1) (σ.1 0 1) y340230.toNatClampNeg) (5 * xp.toNatClampNeg + y340230.toNatClampNeg) 5 (-1)) (5 * xp.toNatClampNeg + y340230.toNatClampNeg) 6 (σ.1 0 1)); rw [← z1, ← z2]; exact hMR) hP hD hS (lv_sub hl [0, 1, 2, 3, 4, 5] rfl)
            exact hLP340229 _ _ _ _ _ _ _ (Nat.lt_succ_self _) (by decide) (by decide) hR (hML.mono (by omega)) hMD hMU (by rw [cl_0]; exact hMR) hP hD hS (lv_sub hl [0, 1, 2, 3, 4, 5] rfl)
        · have kc340168 : v340079.toInt = 0 := by have h9 := c340168; rw [xk_eq, xk_0] at h9; exact h9
          refine lv_bipush (v := (-2)) hx hb dX7_elect_46 (by decide) ?_
          exact W.iret (v := (-2)) hx hb hr (fun t ht hW => ⟨⟨(-2), (I, J), rfl, ⟨⟨hML.mono (by omega), hMD, hMU⟩, by have e9 : qEl σ xp un = (σ, (-2)) := (by have hm : oMay σ xp.toNatClampNeg un = v340079 := (by rw [oMay, if_pos (by have k9 := c340080; simp only [ev340079, sx340076, sx340078] at k9; exact k9), if_pos c340167]; simp only [ev340079, sx340076, sx340078]); rw [qEl, if_neg (by have k9 := c340072; simp only [hir340070] at k9; exact k9), hm, if_pos c340168]); show MR w I J _; rw [e9]; exact hMR, by have e9 : qEl σ xp un = (σ, (-2)) := (by have hm : oMay σ xp.toNatClampNeg un = v340079 := (by rw [oMay, if_pos (by have k9 := c340080; simp only [ev340079, sx340076, sx340078] at k9; exact k9), if_pos c340167]; simp only [ev340079, sx340076, sx340078]); rw [qEl, if_neg (by have k9 := c340072; simp only [hir340070] at k9; exact k9), hm, if_pos c340168]); show _ = _; rw [e9]⟩, by rw [ht]; exact hP, va_K.moved hW.alike hK, hD⟩, hS.F ht⟩) hS.2.2 dX7_elect_48
      · have kc340167 : ¬ (un.toInt = 0) := by have h9 := c340167; rw [xk_eq, xk_0] at h9; exact h9
        refine lv_aload_n hx hb dX7_elect_30 rfl (lv_at hl 1 rfl) ?_
        obtain ⟨j340254, hj340254⟩ := wG_7 (cy := cy) (N := N) (T := T) (I := I) (Q := Q) (J := J) (hM.at 0 (by decide)) (hM.k 0 (by decide) rfl)
        refine va_get (D := (dC, dI)) (ci := 7) (v := .ref (T (w 0) 2)) (C := RX7) (T := TX7) (N := 18) hx hb hts hi7 hown hK hP j340254 hj340254 rfl 2 (by decide) (hts (.fieldLink RX7 18 "TallyLogsModel" "replicas" "[I") (by decide +kernel)) (fun _ h9 => h9) rfl dX7_elect_31 ?_
        refine W.eq (g2 := F0 m 34 ls [.ref (w 3)]) (by rw [hM.t 2 (by decide)]) ?_
        refine lv_iload_n hx hb dX7_elect_34 rfl (lv_at hl 2 rfl) ?_
        obtain ⟨j340255, hj340255⟩ := wG_20 (cy := cy) (N := N) (T := T) (I := I) (Q := Q) (J := J) (hM.at 3 (by decide)) (hM.k 3 (by decide) rfl)
        refine va_iald hx hb hK hP j340255 1 hj340255 rfl (hM.inN (n := 4) 3 (by decide) rfl rfl hth340073.1) dX7_elect_35 ?_
        refine lv_topi (fun x340256 ex340256 => ?_)
        have sx340256 : x340256 = σ.1 3 xp.toNatClampNeg := ex340256.trans (hMR.a (k := 3) (by decide) (by decide) (show _ < 4 from vp_lt (n := 4) hth340073.1))
        refine lv_aload_n hx hb dX7_elect_36 rfl (lv_at hl 1 rfl) ?_
        obtain ⟨j340257, hj340257⟩ := wG_7 (cy := cy) (N := N) (T := T) (I := I) (Q := Q) (J := J) (hM.at 0 (by decide)) (hM.k 0 (by decide) rfl)
        refine va_get (D := (dC, dI)) (ci := 7) (v := .int (I (w 0) 16)) (C := RX7) (T := TX7) (N := 18) hx hb hts hi7 hown hK hP j340257 hj340257 rfl 16 (by decide) (hts (.fieldLink RX7 61 "TallyLogsModel" "up" "I") (by decide +kernel)) (fun _ h9 => h9) rfl dX7_elect_37 ?_
        refine lv_topi (fun x340258 ex340258 => ?_)
        have sx340258 : x340258 = σ.1 0 0 := ex340258.trans hMR.1.1
        have tx340258 : x340258.toInt = (I (w 0) 16).toInt := congrArg Int32.toInt ex340258
        refine lv_iand hx hb dX7_elect_40 ?_
        refine lv_topi (fun v340259 ev340259 => ?_)
        refine lv_istore_n (lv' := [(3, .int v340259), (0, .ref (w 0)), (1, .int xp), (2, .int un)]) hx hb dX7_elect_41 rfl hl (by decide) rfl (fun ls hl => ?_)
        refine lv_iload_n hx hb dX7_elect_42 rfl (lv_at hl 0 rfl) ?_
        refine lv_if_ne (tgt := 49) hx hb dX7_elect_43 (by decide) (fun c340260 => ?_) (fun c340260 => ?_)
        · have kc340260 : ¬ (v340259.toInt = 0) := by have h9 := c340260; rw [xk_eq, xk_0] at h9; exact h9
          have hmy340261 := xntz (a := v340259) (show ∃ u : Nat, u < 32 ∧ v340259 = nI u by rw [ev340259, ex340258]; exact xu_and' hMU) c340260
          refine lv_iload_n hx hb dX7_elect_49 rfl (lv_at hl 0 rfl) ?_
          refine vp_callSi (W.runS (As := [.int v340259]) (rest := []) ⟨hx, hb, hml, hown, hts⟩ (c_J6_numberOfTrailingZeros_0f7a4 l v340259) (va_cwS 1 hts gX7_elect_J6_numberOfTrailingZeros_0f7a4 rfl rfl rfl (by decide +kernel) ⟨Nat.le_of_ble_eq_true rfl, Nat.le_of_ble_eq_true rfl⟩) preEq rfl rfl hl.1 rfl (lv_room (Nat.le_of_ble_eq_true rfl)) dX7_elect_50 ⟨Nat.le_of_ble_eq_true rfl, Nat.le_of_ble_eq_true rfl⟩) (fun r340262 hr340262 => ?_)
          subst hr340262
          refine lv_istore (lv' := [(4, .int (sp_nz v340259)), (3, .int v340259), (0, .ref (w 0)), (1, .int xp), (2, .int un)]) hx hb dX7_elect_53 hl (by decide) rfl (fun ls hl => ?_)
          refine lv_aload_n hx hb dX7_elect_55 rfl (lv_at hl 2 rfl) ?_
          obtain ⟨j340263, hj340263⟩ := wG_7 (cy := cy) (N := N) (T := T) (I := I) (Q := Q) (J := J) (hM.at 0 (by decide)) (hM.k 0 (by decide) rfl)
          refine va_get (D := (dC, dI)) (ci := 7) (v := .ref (T (w 0) 6)) (C := RX7) (T := TX7) (N := 18) hx hb hts hi7 hown hK hP j340263 hj340263 rfl 6 (by decide) (hts (.fieldLink RX7 31 "TallyLogsModel" "step" "[I") (by decide +kernel)) (fun _ h9 => h9) rfl dX7_elect_56 ?_
          refine W.eq (g2 := F0 m 59 ls [.ref (w 7)]) (by rw [hM.t 6 (by decide)]) ?_
          refine lv_iload_n hx hb dX7_elect_59 rfl (lv_at hl 3 rfl) ?_
          obtain ⟨j340264, hj340264⟩ := wG_20 (cy := cy) (N := N) (T := T) (I := I) (Q := Q) (J := J) (hM.at 7 (by decide)) (hM.k 7 (by decide) rfl)
          refine va_iald hx hb hK hP j340264 1 hj340264 rfl (hM.inN (n := 4) 7 (by decide) rfl rfl hth340073.1) dX7_elect_60 ?_
          refine lv_topi (fun x340265 ex340265 => ?_)
          have sx340265 : x340265 = σ.1 7 xp.toNatClampNeg := ex340265.trans (hMR.a (k := 7) (by decide) (by decide) (show _ < 4 from vp_lt (n := 4) hth340073.1))
          refine lv_iload hx hb dX7_elect_61 (lv_at hl 0 rfl) ?_
          refine lv_ishr hx hb dX7_elect_63 ?_
          refine lv_topi (fun v340266 ev340266 => ?_)
          refine lv_iconst (v := 1) hx hb dX7_elect_64 (by decide) ?_
          refine lv_iand hx hb dX7_elect_65 ?_
          refine lv_topi (fun v340267 ev340267 => ?_)
          refine lv_if_ne (tgt := 79) hx hb dX7_elect_66 (by decide) (fun c340268 => ?_) (fun c340268 => ?_)
          · have kc340268 : ¬ (v340267.toInt = 0) := by have h9 := c340268; rw [xk_eq, xk_0] at h9; exact h9
            refine lv_aload_n hx hb dX7_elect_79 rfl (lv_at hl 2 rfl) ?_
            obtain ⟨j340269, hj340269⟩ := wG_7 (cy := cy) (N := N) (T := T) (I := I) (Q := Q) (J := J) (hM.at 0 (by decide)) (hM.k 0 (by decide) rfl)
            refine va_get (D := (dC, dI)) (ci := 7) (v := .ref (T (w 0) 3)) (C := RX7) (T := TX7) (N := 18) hx hb hts hi7 hown hK hP j340269 hj340269 rfl 3 (by decide) (hts (.fieldLink RX7 22 "TallyLogsModel" "leader" "[I") (by decide +kernel)) (fun _ h9 => h9) rfl dX7_elect_80 ?_
            refine W.eq (g2 := F0 m 83 ls [.ref (w 4)]) (by rw [hM.t 3 (by decide)]) ?_
            refine lv_iload_n hx hb dX7_elect_83 rfl (lv_at hl 3 rfl) ?_
            refine lv_iload hx hb dX7_elect_84 (lv_at hl 0 rfl) ?_
            obtain ⟨j340270, hj340270⟩ := wG_20 (cy := cy) (N := N) (T := T) (I := I) (Q := Q) (J := J) (hM.at 4 (by decide)) (hM.k 4 (by decide) rfl)
            have hDo := hD
            refine va_iast (x := (sp_nz v340259)) hx hb hK hP hD hS j340270 1 hj340270 rfl (hM.inN (n := 4) 4 (by decide) rfl rfl hth340073.1) dX7_elect_86 (fun H locs hP hD hS => ?_)
            have hP := Eq.mp (congrArg (fun w => va_P (dC, dI) vwCl w H) (wS_20 hDo (hM.at 4 (by decide)) (hM.k 4 (by decide) rfl) hj340270)) hP
            obtain ⟨J340271, eJ340271⟩ : ∃ z, z = va_up J (w 4) (upd (J (w 4)) xp.toNatClampNeg (sp_nz v340259)) := ⟨_, rfl⟩
            rw [← eJ340271] at hP
            have hR : RM w [] I J I J340271 := by rw [eJ340271]; exact hR.pj hM (by decide) (by decide)
            have hMD : MD w J340271 := by
              rw [eJ340271]
              refine MD.p4 hM (fun p hp _ => hMD p hp) (Or.inr ⟨hmy340261.1, ?_⟩)
              have h9 := xbit _ (fun q => c340268 ((ev340267).trans q))
              rw [ev340266, ex340265] at h9
              exact h9
            have hD : va_D A (va_pl L (wF cy K N T I Q J340271)) := pD hDo
            obtain ⟨sg340272, esg340272⟩ : ∃ z, z = sA σ 4 xp.toNatClampNeg (sp_nz v340259) := ⟨_, rfl⟩
            have hMR : MR w I J340271 sg340272 := by rw [eJ340271, esg340272]; exact hMR.wa hM (by decide) (by decide)
            refine lv_aload_n hx hb dX7_elect_87 rfl (lv_at hl 2 rfl) ?_
            obtain ⟨j340273, hj340273⟩ := wG_7 (cy := cy) (N := N) (T := T) (I := I) (Q := Q) (J := J340271) (hM.at 0 (by decide)) (hM.k 0 (by decide) rfl)
            refine va_get (D := (dC, dI)) (ci := 7) (v := .ref (T (w 0) 4)) (C := RX7) (T := TX7) (N := 18) hx hb hts hi7 hown hK hP j340273 hj340273 rfl 4 (by decide) (hts (.fieldLink RX7 25 "TallyLogsModel" "epoch" "[I") (by decide +kernel)) (fun _ h9 => h9) rfl dX7_elect_88 ?_
            refine W.eq (g2 := F0 m 91 ls [.ref (w 5)]) (by rw [hM.t 4 (by decide)]) ?_
            refine lv_iload_n hx hb dX7_elect_91 rfl (lv_at hl 3 rfl) ?_
            refine lv_dup2_11 hx hb dX7_elect_92 rfl rfl ?_
            obtain ⟨j340274, hj340274⟩ := wG_20 (cy := cy) (N := N) (T := T) (I := I) (Q := Q) (J := J340271) (hM.at 5 (by decide)) (hM.k 5 (by decide) rfl)
            refine va_iald hx hb hK hP j340274 1 hj340274 rfl (hM.inN (n := 4) 5 (by decide) rfl rfl hth340073.1) dX7_elect_93 ?_
            refine lv_topi (fun x340275 ex340275 => ?_)
            have sx340275 : x340275 = sg340272.1 5 xp.toNatClampNeg := ex340275.trans (hMR.a (k := 5) (by decide) (by decide) (show _ < 4 from vp_lt (n := 4) hth340073.1))
            refine lv_iconst (v := 1) hx hb dX7_elect_94 (by decide) ?_
            refine lv_iadd hx hb dX7_elect_95 ?_
            refine lv_topi (fun v340276 ev340276 => ?_)
            obtain ⟨j340277, hj340277⟩ := wG_20 (cy := cy) (N := N) (T := T) (I := I) (Q := Q) (J := J340271) (hM.at 5 (by decide)) (hM.k 5 (by decide) rfl)
            have hDo := hD
            refine va_iast (x := v340276) hx hb hK hP hD hS j340277 1 hj340277 rfl (hM.inN (n := 4) 5 (by decide) rfl rfl hth340073.1) dX7_elect_96 (fun H locs hP hD hS => ?_)
            have hP := Eq.mp (congrArg (fun w => va_P (dC, dI) vwCl w H) (wS_20 hDo (hM.at 5 (by decide)) (hM.k 5 (by decide) rfl) hj340277)) hP
            obtain ⟨J340278, eJ340278⟩ : ∃ z, z = va_up J340271 (w 5) (upd (J340271 (w 5)) xp.toNatClampNeg v340276) := ⟨_, rfl⟩
            rw [← eJ340278] at hP
            have hR : RM w [] I J I J340278 := by rw [eJ340278]; exact hR.pj hM (by decide) (by decide)
            have hMD : MD w J340278 := by rw [eJ340278]; exact hMD.pj hM (by decide) (by decide)
            have hD : va_D A (va_pl L (wF cy K N T I Q J340278)) := pD hDo
            obtain ⟨sg340279, esg340279⟩ : ∃ z, z = sA sg340272 5 xp.toNatClampNeg v340276 := ⟨_, rfl⟩
            have hMR : MR w I J340278 sg340279 := by rw [eJ340278, esg340279]; exact hMR.wa hM (by decide) (by decide)
            refine lv_iconst (v := 0) hx hb dX7_elect_97 (by decide) ?_
            refine lv_istore (lv' := [(5, .int 0), (4, .int (sp_nz v340259)), (3, .int v340259), (0, .ref (w 0)), (1, .int xp), (2, .int un)]) hx hb dX7_elect_98 hl (by decide) rfl (fun ls hl => ?_)
            refine wq_gen (fun Qz hQz => ?_)
            have hLP340280 : ∀ (n : Nat) (y340281 : Int32) (Ia340280 Ja340280 : Nat → Nat → Int32) (H : Heap) (locs : List Loc) (ls : Array Slot), (5 - y340281.toInt).toNat < n → 0 ≤ y340281.toInt → (y340281.toInt ≤ 5) → RM w [] I J Ia340280 Ja340280 → ML w E Ia340280 → MD w Ja340280 → MU w Ia340280 → MR w Ia340280 Ja340280 (gTwo sg340279 xp.toNatClampNeg 5 6 (-1) (σ.1 0 1) y340281.toNatClampNeg) →  va_P (dC, dI) vwCl (va_pl L (wF cy K N T Ia340280 Q Ja340280)) H → va_D A (va_pl L (wF cy K N T Ia340280 Q Ja340280)) → va_S A s.heap H locs → lv_has ls 6 [(5, .int y340281), (4, .int (sp_nz v340259)), (3, .int v340259), (0, .ref (w 0)), (1, .int xp), (2, .int un)] → W p l e (headSpec wsX7_elect ({ frames := 4, cells := 0, slots := 0, locals := 99 })).room s m ([.ref (w 0), .int xp, .int un] : List Value).toArray below meth c H locs 0 0 Qz (F0 m 100 ls []) := by
              intro n
              induction n with
              | zero => intro y340281 Ia340280 Ja340280 H locs ls hms; exact absurd hms (Nat.not_lt_zero _)
              | succ n ih340280 =>
                intro y340281 Ia340280 Ja340280 H locs ls hms hnn340280 hiv340280 hR hML hMD hMU hMR hP hD hS hl
                refine lv_iload hx hb dX7_elect_100 (lv_at hl 0 rfl) ?_
                refine lv_iconst (v := 5) hx hb dX7_elect_102 (by decide) ?_
                refine lv_icmp_ge (tgt := 141) hx hb dX7_elect_103 (by decide) (fun c340282 => ?_) (fun c340282 => ?_)
                · have kc340282 : 5 ≤ y340281.toInt := by have h9 := c340282; rw [xk_le, xk_5] at h9; exact h9
                  refine lv_aload_n hx hb dX7_elect_141 rfl (lv_at hl 3 rfl) ?_
                  refine lv_iload_n hx hb dX7_elect_142 rfl (lv_at hl 4 rfl) ?_
                  obtain ⟨j340283, hj340283⟩ := wG_7 (cy := cy) (N := N) (T := T) (I := Ia340280) (Q := Q) (J := Ja340280) (hM.at 0 (by decide)) (hM.k 0 (by decide) rfl)
                  have hFc := pfree hD hS hA
                  refine va_callv (va_runV (As := [.int xp]) (rest := []) ⟨hx, hb, hml, hown, hts⟩ (f_X7_rise l dC dI cy w L K N T Q Ia340280 Ja340280 H.size xp (gTwo sg340279 xp.toNatClampNeg 5 6 (-1) (σ.1 0 1) y340281.toNatClampNeg) hM hth340073.1 (hMD _ (vp_lt (n := 4) hth340073.1)) hMR) (cwV 1 hts gX7_elect_X7_rise rfl rfl rfl (by decide +kernel) ⟨Nat.le_of_ble_eq_true rfl, Nat.le_of_ble_eq_true rfl⟩) ⟨mw_blind, va_recv hK hP (ci := 7) (q0 := j340283) rfl hj340283, fun U hU hW => ⟨rfl, mw_pre hP hK hD hU hW⟩⟩ rfl rfl hl.1 rfl (lv_room (Nat.le_of_ble_eq_true rfl)) dX7_elect_143 ⟨Nat.le_of_ble_eq_true rfl, Nat.le_of_ble_eq_true rfl⟩) hS (fun q _ h => hFc q h) hFc (fun d9 t H1 locs ht hvm hw hB hz1 hk1 hS => ?_)
                  obtain ⟨I340284, J340284⟩ := d9
                  obtain ⟨hP, hK1, hD1⟩ := hB
                  rw [ht] at hP
                  have hD := hD1.weaken (fun _ _ _ h => hFc _ h)
                  generalize H1 = H at hP hS ⊢
                  have hP : va_P (dC, dI) vwCl (va_pl L (wF cy K N T I340284 Q J340284)) H := hP
                  have hD : va_D A (va_pl L (wF cy K N T I340284 Q J340284)) := hD
                  have hMRn := hw.1
                  have hw := hw.2
                  have hw340286 : RZ w Ia340280 Ja340280 I340284 J340284 xp.toNatClampNeg := hw
                  have hR : RM w [] I J I340284 J340284 := hR.rz hM (vp_lt (n := 4) hth340073.1) hw340286
                  have hMD : MD w J340284 := hMD.rz hw340286
                  have hMU : MU w I340284 := hMU.rz hM (vp_lt (n := 4) hth340073.1) hw340286
                  have hML : ML w E I340284 := hML.rz hM (vp_lt (n := 4) hth340073.1) hw340286
                  obtain ⟨sg340287, esg340287⟩ : ∃ z, z = oRi (gTwo sg340279 xp.toNatClampNeg 5 6 (-1) (σ.1 0 1) y340281.toNatClampNeg) xp.toNatClampNeg := ⟨_, rfl⟩
                  have hMR : MR w I340284 J340284 sg340287 := by rw [esg340287]; exact hMRn
                  refine lv_iload hx hb dX7_elect_146 (lv_at hl 1 rfl) ?_
                  rw [hQz]
                  exact W.iret (v := (sp_nz v340259)) hx hb hr (fun t ht hW => ⟨⟨(sp_nz v340259), (I340284, J340284), rfl, ⟨⟨hML.mono (by omega), hMD, hMU⟩, by have e9 : qEl σ xp un = (sg340287, (sp_nz v340259)) := (by have hm : oMay σ xp.toNatClampNeg un = v340259 := (by rw [oMay, if_pos (by have k9 := c340080; simp only [ev340079, sx340076, sx340078] at k9; exact k9), if_neg c340167]; simp only [ev340259, sx340256, sx340258]); rw [qEl, if_neg (by have k9 := c340072; simp only [hir340070] at k9; exact k9), hm, if_neg c340260, oEl, if_neg (by have k9 := c340268; simp only [ev340267, ev340266, sx340265, sx340256, sx340258] at k9; exact k9), esg340287, show y340281.toNatClampNeg = 5 by rw [clT]; omega]; simp only [esg340279, ev340276, sx340275, esg340272, ev340259, sx340256, sx340258, sA_s, sA_n, sA_2, sG_1, gTwo_1, nar1, not_false_eq_true] <;> rfl); show MR w I340284 J340284 _; rw [e9]; exact hMR, by have e9 : qEl σ xp un = (sg340287, (sp_nz v340259)) := (by have hm : oMay σ xp.toNatClampNeg un = v340259 := (by rw [oMay, if_pos (by have k9 := c340080; simp only [ev340079, sx340076, sx340078] at k9; exact k9), if_neg c340167]; simp only [ev340259, sx340256, sx340258]); rw [qEl, if_neg (by have k9 := c340072; simp only [hir340070] at k9; exact k9), hm, if_neg c340260, oEl, if_neg (by have k9 := c340268; simp only [ev340267, ev340266, sx340265, sx340256, sx340258] at k9; exact k9), esg340287, show y340281.toNatClampNeg = 5 by rw [clT]; omega]; simp only [esg340279, ev340276, sx340275, esg340272, ev340259, sx340256, sx340258, sA_s, sA_n, sA_2, sG_1, gTwo_1, nar1, not_false_eq_true] <;> rfl); show _ = _; rw [e9]⟩, by rw [ht]; exact hP, va_K.moved hW.alike hK, hD⟩, hS.F ht⟩) hS.2.2 dX7_elect_148
                · have kc340282 : ¬ (5 ≤ y340281.toInt) := by have h9 := c340282; rw [xk_le, xk_5] at h9; exact h9
                  refine lv_aload_n hx hb dX7_elect_106 rfl (lv_at hl 3 rfl) ?_
                  obtain ⟨j340288, hj340288⟩ := wG_7 (cy := cy) (N := N) (T := T) (I := Ia340280) (Q := Q) (J := Ja340280) (hM.at 0 (by decide)) (hM.k 0 (by decide) rfl)
                  refine va_get (D := (dC, dI)) (ci := 7) (v := .ref (T (w 0) 0)) (C := RX7) (T := TX7) (N := 18) hx hb hts hi7 hown hK hP j340288 hj340288 rfl 0 (by decide) (hts (.fieldLink RX7 11 "TallyLogsModel" "log" "[[LTallyLogsModel$Log;") (by decide +kernel)) (fun _ h9 => h9) rfl dX7_elect_107 ?_
                  refine W.eq (g2 := F0 m 110 ls [.ref (w 1)]) (by rw [hM.t 0 (by decide)]) ?_
                  refine lv_iload_n hx hb dX7_elect_110 rfl (lv_at hl 4 rfl) ?_
                  obtain ⟨j340289, hj340289⟩ := wG_22 (cy := cy) (N := N) (T := T) (I := Ia340280) (Q := Q) (J := Ja340280) (hM.at 1 (by decide)) (hM.k 1 (by decide) rfl)
                  refine xg_aldg hx hb hK hP j340289 2 hj340289 rfl hth340073.1 dX7_elect_111 ?_
                  refine W.eq (g2 := F0 m 112 ls [.ref (w (17 + xp.toNatClampNeg))]) (by rw [hM.qo (vp_lt (n := 4) hth340073.1)]; rfl) ?_
                  refine lv_iload hx hb dX7_elect_112 (lv_at hl 0 rfl) ?_
                  obtain ⟨j340290, hj340290⟩ := wG_23 (cy := cy) (N := N) (T := T) (I := Ia340280) (Q := Q) (J := Ja340280) (hM.row (vp_lt (n := 4) hth340073.1)).1 (hM.row (vp_lt (n := 4) hth340073.1)).2
                  refine va_aldq hx hb hK hP j340290 3 hj340290 rfl (xin_of hnn340280 (by have kc := c340282; simp only [xk_lt, xk_le, xk_0, xk_1, xk_2, xk_3, xk_4, xk_5, xk_6, xk_7, xk_8, xk_50] at kc; omega)) dX7_elect_114 ?_
                  have hjl340291 : (5 * xp.toNatClampNeg + y340281.toNatClampNeg) < 20 := by have h1 := (vp_lt (n := 4) hth340073.1); have h2 := (vp_lt (n := 5) (xin_of hnn340280 (by have kc := c340282; simp only [xk_lt, xk_le, xk_0, xk_1, xk_2, xk_3, xk_4, xk_5, xk_6, xk_7, xk_8, xk_50] at kc; omega))); omega
                  refine W.eq (g2 := F0 m 115 ls [.ref (w (21 + (5 * xp.toNatClampNeg + y340281.toNatClampNeg)))]) (by rw [hM.qr (vp_lt (n := 4) hth340073.1) (vp_lt (n := 5) (xin_of hnn340280 (by have kc := c340282; simp only [xk_lt, xk_le, xk_0, xk_1, xk_2, xk_3, xk_4, xk_5, xk_6, xk_7, xk_8, xk_50] at kc; omega)))]; rfl) ?_
                  refine lv_iconst (v := (-1)) hx hb dX7_elect_115 (by decide) ?_
                  obtain ⟨j340292, hj340292⟩ := wG_6 (cy := cy) (N := N) (T := T) (I := Ia340280) (Q := Q) (J := Ja340280) (hM.lg hjl340291).1 (hM.lg hjl340291).2
                  have hDo := hD
                  refine va_put (D := (dC, dI)) (ci := 6) (v := .int (-1)) (ty := .int) (C := RX6) (T := TX6) (N := 7) hx hb hts hi6 tyX6 tyX6_ok nmX6 hown hK hP hD hS j340292 hj340292 rfl 5 (by decide) (hts (.fieldLink RX7 92 "TallyLogsModel$Log" "known" "I") (by decide +kernel)) (fun _ h9 => h9) rfl (by decide +kernel) rfl rfl (Nat.le_of_ble_eq_true rfl) dX7_elect_116 (fun H locs hP hD hS => ?_)
                  have hP := Eq.mp (congrArg (fun w => va_P (dC, dI) vwCl w H) (wP_6_5 (x := (-1)) hDo (hM.lg hjl340291).1 (hM.lg hjl340291).2 hj340292)) hP
                  obtain ⟨I340293, eI340293⟩ : ∃ z, z = p2 Ia340280 (w (21 + (5 * xp.toNatClampNeg + y340281.toNatClampNeg))) 5 (-1) := ⟨_, rfl⟩
                  rw [← eI340293] at hP
                  have hD : va_D A (va_pl L (wF cy K N T I340293 Q Ja340280)) := pD hDo
                  obtain ⟨sg340294, esg340294⟩ : ∃ z, z = sG (gTwo sg340279 xp.toNatClampNeg 5 6 (-1) (σ.1 0 1) y340281.toNatClampNeg) (5 * xp.toNatClampNeg + y340281.toNatClampNeg) 5 (-1) := ⟨_, rfl⟩
                  have hMR : MR w I340293 Ja340280 sg340294 := by rw [eI340293, esg340294]; exact hMR.wg hM hjl340291 (by decide) (by decide)
                  have hR : RM w [] I J I340293 Ja340280 := by rw [eI340293]; exact hR.pl hM hjl340291
                  have hMU : MU w I340293 := by rw [eI340293]; exact hMU.pl hM hjl340291
                  have hML : ML w E I340293 := by rw [eI340293]; exact hML.p56 hM hjl340291 (by decide)
                  refine lv_aload_n hx hb dX7_elect_119 rfl (lv_at hl 3 rfl) ?_
                  obtain ⟨j340295, hj340295⟩ := wG_7 (cy := cy) (N := N) (T := T) (I := I340293) (Q := Q) (J := Ja340280) (hM.at 0 (by decide)) (hM.k 0 (by decide) rfl)
                  refine va_get (D := (dC, dI)) (ci := 7) (v := .ref (T (w 0) 0)) (C := RX7) (T := TX7) (N := 18) hx hb hts hi7 hown hK hP j340295 hj340295 rfl 0 (by decide) (hts (.fieldLink RX7 11 "TallyLogsModel" "log" "[[LTallyLogsModel$Log;") (by decide +kernel)) (fun _ h9 => h9) rfl dX7_elect_120 ?_
                  refine W.eq (g2 := F0 m 123 ls [.ref (w 1)]) (by rw [hM.t 0 (by decide)]) ?_
                  refine lv_iload_n hx hb dX7_elect_123 rfl (lv_at hl 4 rfl) ?_
                  obtain ⟨j340296, hj340296⟩ := wG_22 (cy := cy) (N := N) (T := T) (I := I340293) (Q := Q) (J := Ja340280) (hM.at 1 (by decide)) (hM.k 1 (by decide) rfl)
                  refine xg_aldg hx hb hK hP j340296 2 hj340296 rfl hth340073.1 dX7_elect_124 ?_
                  refine W.eq (g2 := F0 m 125 ls [.ref (w (17 + xp.toNatClampNeg))]) (by rw [hM.qo (vp_lt (n := 4) hth340073.1)]; rfl) ?_
                  refine lv_iload hx hb dX7_elect_125 (lv_at hl 0 rfl) ?_
                  obtain ⟨j340297, hj340297⟩ := wG_23 (cy := cy) (N := N) (T := T) (I := I340293) (Q := Q) (J := Ja340280) (hM.row (vp_lt (n := 4) hth340073.1)).1 (hM.row (vp_lt (n := 4) hth340073.1)).2
                  refine va_aldq hx hb hK hP j340297 3 hj340297 rfl (xin_of hnn340280 (by have kc := c340282; simp only [xk_lt, xk_le, xk_0, xk_1, xk_2, xk_3, xk_4, xk_5, xk_6, xk_7, xk_8, xk_50] at kc; omega)) dX7_elect_127 ?_
                  have hjl340298 : (5 * xp.toNatClampNeg + y340281.toNatClampNeg) < 20 := by have h1 := (vp_lt (n := 4) hth340073.1); have h2 := (vp_lt (n := 5) (xin_of hnn340280 (by have kc := c340282; simp only [xk_lt, xk_le, xk_0, xk_1, xk_2, xk_3, xk_4, xk_5, xk_6, xk_7, xk_8, xk_50] at kc; omega))); omega
                  refine W.eq (g2 := F0 m 128 ls [.ref (w (21 + (5 * xp.toNatClampNeg + y340281.toNatClampNeg)))]) (by rw [hM.qr (vp_lt (n := 4) hth340073.1) (vp_lt (n := 5) (xin_of hnn340280 (by have kc := c340282; simp only [xk_lt, xk_le, xk_0, xk_1, xk_2, xk_3, xk_4, xk_5, xk_6, xk_7, xk_8, xk_50] at kc; omega)))]; rfl) ?_
                  refine lv_aload_n hx hb dX7_elect_128 rfl (lv_at hl 3 rfl) ?_
                  obtain ⟨j340299, hj340299⟩ := wG_7 (cy := cy) (N := N) (T := T) (I := I340293) (Q := Q) (J := Ja340280) (hM.at 0 (by decide)) (hM.k 0 (by decide) rfl)
                  refine va_get (D := (dC, dI)) (ci := 7) (v := .int (I340293 (w 0) 17)) (C := RX7) (T := TX7) (N := 18) hx hb hts hi7 hown hK hP j340299 hj340299 rfl 17 (by decide) (hts (.fieldLink RX7 119 "TallyLogsModel" "now" "I") (by decide +kernel)) (fun _ h9 => h9) rfl dX7_elect_129 ?_
                  refine lv_topi (fun x340300 ex340300 => ?_)
                  have sx340300 : x340300 = sg340294.1 0 1 := ex340300.trans hMR.1.2
                  have ex340300 : x340300 = Ia340280 (w 0) 17 := by rw [ex340300, eI340293, p2_na _ _ (hM.ne (by omega) (by omega) (by omega))]
                  have tx340300 : x340300.toInt = (Ia340280 (w 0) 17).toInt := congrArg Int32.toInt ex340300
                  obtain ⟨j340301, hj340301⟩ := wG_6 (cy := cy) (N := N) (T := T) (I := I340293) (Q := Q) (J := Ja340280) (hM.lg hjl340298).1 (hM.lg hjl340298).2
                  have hDo := hD
                  refine va_put (D := (dC, dI)) (ci := 6) (v := .int x340300) (ty := .int) (C := RX6) (T := TX6) (N := 7) hx hb hts hi6 tyX6 tyX6_ok nmX6 hown hK hP hD hS j340301 hj340301 rfl 6 (by decide) (hts (.fieldLink RX7 122 "TallyLogsModel$Log" "caught" "I") (by decide +kernel)) (fun _ h9 => h9) rfl (by decide +kernel) rfl rfl (Nat.le_of_ble_eq_true rfl) dX7_elect_132 (fun H locs hP hD hS => ?_)
                  have hP := Eq.mp (congrArg (fun w => va_P (dC, dI) vwCl w H) (wP_6_6 (x := x340300) hDo (hM.lg hjl340298).1 (hM.lg hjl340298).2 hj340301)) hP
                  obtain ⟨I340302, eI340302⟩ : ∃ z, z = p2 I340293 (w (21 + (5 * xp.toNatClampNeg + y340281.toNatClampNeg))) 6 x340300 := ⟨_, rfl⟩
                  rw [← eI340302] at hP
                  have hD : va_D A (va_pl L (wF cy K N T I340302 Q Ja340280)) := pD hDo
                  obtain ⟨sg340303, esg340303⟩ : ∃ z, z = sG sg340294 (5 * xp.toNatClampNeg + y340281.toNatClampNeg) 6 x340300 := ⟨_, rfl⟩
                  have hMR : MR w I340302 Ja340280 sg340303 := by rw [eI340302, esg340303]; exact hMR.wg hM hjl340298 (by decide) (by decide)
                  have hR : RM w [] I J I340302 Ja340280 := by rw [eI340302]; exact hR.pl hM hjl340298
                  have hMU : MU w I340302 := by rw [eI340302]; exact hMU.pl hM hjl340298
                  have hML : ML w E I340302 := by rw [eI340302]; exact hML.p56 hM hjl340298 (by decide)
                  obtain ⟨v340304, ev340304⟩ : ∃ y : Int32, y = y340281 + Int32.ofInt 1 := ⟨_, rfl⟩
                  refine lv_iinc (v := v340304) (lv' := [(5, .int v340304), (4, .int (sp_nz v340259)), (3, .int v340259), (0, .ref (w 0)), (1, .int xp), (2, .int un)]) hx hb dX7_elect_135 hl (k := 0) rfl ev340304.symm (by decide) rfl (fun ls hl => ?_)
                  refine lv_goto (tgt := 100) hx hb dX7_elect_138 (by decide) ?_
                  have tv340304 : v340304.toInt = y340281.toInt + 1 := by rw [ev340304, show y340281 + Int32.ofInt 1 = y340281 + 1 from rfl]; exact xinc (y := (5 : Int32)) (by rw [xk_lt, xk_5]; omega)
                  exact ih340280 _ _ _ _ _ _ (by omega) (by omega) (by omega) hR (hML.mono (by omega)) hMD hMU (by have vx340300 : x340300 = σ.1 0 1 := (by rw [sx340300]; simp only [esg340294, esg340279, ev340276, sx340275, esg340272, ev340259, sx340256, sx340258, sA_s, sA_n, sA_2, sG_1, gTwo_1, nar1, not_false_eq_true] <;> rfl); have z1 := esg340294; have z2 := esg340303; rw [vx340300] at z2; rw [clsucc (y := y340281) (by omega) tv340304]; show MR w _ _ (sG (sG (gTwo sg340279 xp.toNatClampNeg 5 6 (-1) (σ.1 0 1) y340281.toNatClampNeg) (5 * xp.toNatClampNeg + y340281.toNatClampNeg) 5 (-1)) (5 * xp.toNatClampNeg + y340281.toNatClampNeg) 6 (σ.1 0 1)); rw [← z1, ← z2]; exact hMR) hP hD hS (lv_sub hl [0, 1, 2, 3, 4, 5] rfl)
            exact hLP340280 _ _ _ _ _ _ _ (Nat.lt_succ_self _) (by decide) (by decide) hR (hML.mono (by omega)) hMD hMU (by rw [cl_0]; exact hMR) hP hD hS (lv_sub hl [0, 1, 2, 3, 4, 5] rfl)
          · have kc340268 : v340267.toInt = 0 := by have h9 := c340268; rw [xk_eq, xk_0] at h9; exact h9
            refine lv_aload_n hx hb dX7_elect_69 rfl (lv_at hl 2 rfl) ?_
            obtain ⟨j340305, hj340305⟩ := wG_7 (cy := cy) (N := N) (T := T) (I := I) (Q := Q) (J := J) (hM.at 0 (by decide)) (hM.k 0 (by decide) rfl)
            refine va_get (D := (dC, dI)) (ci := 7) (v := .ref (T (w 0) 6)) (C := RX7) (T := TX7) (N := 18) hx hb hts hi7 hown hK hP j340305 hj340305 rfl 6 (by decide) (hts (.fieldLink RX7 31 "TallyLogsModel" "step" "[I") (by decide +kernel)) (fun _ h9 => h9) rfl dX7_elect_70 ?_
            refine W.eq (g2 := F0 m 73 ls [.ref (w 7)]) (by rw [hM.t 6 (by decide)]) ?_
            refine lv_iload_n hx hb dX7_elect_73 rfl (lv_at hl 3 rfl) ?_
            refine lv_iconst (v := 1) hx hb dX7_elect_74 (by decide) ?_
            refine lv_iload hx hb dX7_elect_75 (lv_at hl 0 rfl) ?_
            refine lv_ishl hx hb dX7_elect_77 ?_
            refine lv_topi (fun v340306 ev340306 => ?_)
            obtain ⟨j340307, hj340307⟩ := wG_20 (cy := cy) (N := N) (T := T) (I := I) (Q := Q) (J := J) (hM.at 7 (by decide)) (hM.k 7 (by decide) rfl)
            have hDo := hD
            refine va_iast (x := v340306) hx hb hK hP hD hS j340307 1 hj340307 rfl (hM.inN (n := 4) 7 (by decide) rfl rfl hth340073.1) dX7_elect_78 (fun H locs hP hD hS => ?_)
            have hP := Eq.mp (congrArg (fun w => va_P (dC, dI) vwCl w H) (wS_20 hDo (hM.at 7 (by decide)) (hM.k 7 (by decide) rfl) hj340307)) hP
            obtain ⟨J340308, eJ340308⟩ : ∃ z, z = va_up J (w 7) (upd (J (w 7)) xp.toNatClampNeg v340306) := ⟨_, rfl⟩
            rw [← eJ340308] at hP
            have hR : RM w [] I J I J340308 := by rw [eJ340308]; exact hR.pj hM (by decide) (by decide)
            have hD : va_D A (va_pl L (wF cy K N T I Q J340308)) := pD hDo
            obtain ⟨sg340309, esg340309⟩ : ∃ z, z = sA σ 7 xp.toNatClampNeg v340306 := ⟨_, rfl⟩
            have hMR : MR w I J340308 sg340309 := by rw [eJ340308, esg340309]; exact hMR.wa hM (by decide) (by decide)
            refine lv_aload_n hx hb dX7_elect_79 rfl (lv_at hl 2 rfl) ?_
            obtain ⟨j340310, hj340310⟩ := wG_7 (cy := cy) (N := N) (T := T) (I := I) (Q := Q) (J := J340308) (hM.at 0 (by decide)) (hM.k 0 (by decide) rfl)
            refine va_get (D := (dC, dI)) (ci := 7) (v := .ref (T (w 0) 3)) (C := RX7) (T := TX7) (N := 18) hx hb hts hi7 hown hK hP j340310 hj340310 rfl 3 (by decide) (hts (.fieldLink RX7 22 "TallyLogsModel" "leader" "[I") (by decide +kernel)) (fun _ h9 => h9) rfl dX7_elect_80 ?_
            refine W.eq (g2 := F0 m 83 ls [.ref (w 4)]) (by rw [hM.t 3 (by decide)]) ?_
            refine lv_iload_n hx hb dX7_elect_83 rfl (lv_at hl 3 rfl) ?_
            refine lv_iload hx hb dX7_elect_84 (lv_at hl 0 rfl) ?_
            obtain ⟨j340311, hj340311⟩ := wG_20 (cy := cy) (N := N) (T := T) (I := I) (Q := Q) (J := J340308) (hM.at 4 (by decide)) (hM.k 4 (by decide) rfl)
            have hDo := hD
            refine va_iast (x := (sp_nz v340259)) hx hb hK hP hD hS j340311 1 hj340311 rfl (hM.inN (n := 4) 4 (by decide) rfl rfl hth340073.1) dX7_elect_86 (fun H locs hP hD hS => ?_)
            have hP := Eq.mp (congrArg (fun w => va_P (dC, dI) vwCl w H) (wS_20 hDo (hM.at 4 (by decide)) (hM.k 4 (by decide) rfl) hj340311)) hP
            obtain ⟨J340312, eJ340312⟩ : ∃ z, z = va_up J340308 (w 4) (upd (J340308 (w 4)) xp.toNatClampNeg (sp_nz v340259)) := ⟨_, rfl⟩
            rw [← eJ340312] at hP
            have hR : RM w [] I J I J340312 := by rw [eJ340312]; exact hR.pj hM (by decide) (by decide)
            have hMD : MD w J340312 := by
              rw [eJ340312, eJ340308]
              refine MD.p4 hM (hMD.p7' hM) (Or.inr ⟨hmy340261.1, ?_⟩)
              rw [va_up_self]
              simp only [upd, if_true]
              rw [ev340306]
              exact xsh1 _
            have hD : va_D A (va_pl L (wF cy K N T I Q J340312)) := pD hDo
            obtain ⟨sg340313, esg340313⟩ : ∃ z, z = sA sg340309 4 xp.toNatClampNeg (sp_nz v340259) := ⟨_, rfl⟩
            have hMR : MR w I J340312 sg340313 := by rw [eJ340312, esg340313]; exact hMR.wa hM (by decide) (by decide)
            refine lv_aload_n hx hb dX7_elect_87 rfl (lv_at hl 2 rfl) ?_
            obtain ⟨j340314, hj340314⟩ := wG_7 (cy := cy) (N := N) (T := T) (I := I) (Q := Q) (J := J340312) (hM.at 0 (by decide)) (hM.k 0 (by decide) rfl)
            refine va_get (D := (dC, dI)) (ci := 7) (v := .ref (T (w 0) 4)) (C := RX7) (T := TX7) (N := 18) hx hb hts hi7 hown hK hP j340314 hj340314 rfl 4 (by decide) (hts (.fieldLink RX7 25 "TallyLogsModel" "epoch" "[I") (by decide +kernel)) (fun _ h9 => h9) rfl dX7_elect_88 ?_
            refine W.eq (g2 := F0 m 91 ls [.ref (w 5)]) (by rw [hM.t 4 (by decide)]) ?_
            refine lv_iload_n hx hb dX7_elect_91 rfl (lv_at hl 3 rfl) ?_
            refine lv_dup2_11 hx hb dX7_elect_92 rfl rfl ?_
            obtain ⟨j340315, hj340315⟩ := wG_20 (cy := cy) (N := N) (T := T) (I := I) (Q := Q) (J := J340312) (hM.at 5 (by decide)) (hM.k 5 (by decide) rfl)
            refine va_iald hx hb hK hP j340315 1 hj340315 rfl (hM.inN (n := 4) 5 (by decide) rfl rfl hth340073.1) dX7_elect_93 ?_
            refine lv_topi (fun x340316 ex340316 => ?_)
            have sx340316 : x340316 = sg340313.1 5 xp.toNatClampNeg := ex340316.trans (hMR.a (k := 5) (by decide) (by decide) (show _ < 4 from vp_lt (n := 4) hth340073.1))
            refine lv_iconst (v := 1) hx hb dX7_elect_94 (by decide) ?_
            refine lv_iadd hx hb dX7_elect_95 ?_
            refine lv_topi (fun v340317 ev340317 => ?_)
            obtain ⟨j340318, hj340318⟩ := wG_20 (cy := cy) (N := N) (T := T) (I := I) (Q := Q) (J := J340312) (hM.at 5 (by decide)) (hM.k 5 (by decide) rfl)
            have hDo := hD
            refine va_iast (x := v340317) hx hb hK hP hD hS j340318 1 hj340318 rfl (hM.inN (n := 4) 5 (by decide) rfl rfl hth340073.1) dX7_elect_96 (fun H locs hP hD hS => ?_)
            have hP := Eq.mp (congrArg (fun w => va_P (dC, dI) vwCl w H) (wS_20 hDo (hM.at 5 (by decide)) (hM.k 5 (by decide) rfl) hj340318)) hP
            obtain ⟨J340319, eJ340319⟩ : ∃ z, z = va_up J340312 (w 5) (upd (J340312 (w 5)) xp.toNatClampNeg v340317) := ⟨_, rfl⟩
            rw [← eJ340319] at hP
            have hR : RM w [] I J I J340319 := by rw [eJ340319]; exact hR.pj hM (by decide) (by decide)
            have hMD : MD w J340319 := by rw [eJ340319]; exact hMD.pj hM (by decide) (by decide)
            have hD : va_D A (va_pl L (wF cy K N T I Q J340319)) := pD hDo
            obtain ⟨sg340320, esg340320⟩ : ∃ z, z = sA sg340313 5 xp.toNatClampNeg v340317 := ⟨_, rfl⟩
            have hMR : MR w I J340319 sg340320 := by rw [eJ340319, esg340320]; exact hMR.wa hM (by decide) (by decide)
            refine lv_iconst (v := 0) hx hb dX7_elect_97 (by decide) ?_
            refine lv_istore (lv' := [(5, .int 0), (4, .int (sp_nz v340259)), (3, .int v340259), (0, .ref (w 0)), (1, .int xp), (2, .int un)]) hx hb dX7_elect_98 hl (by decide) rfl (fun ls hl => ?_)
            refine wq_gen (fun Qz hQz => ?_)
            have hLP340321 : ∀ (n : Nat) (y340322 : Int32) (Ia340321 Ja340321 : Nat → Nat → Int32) (H : Heap) (locs : List Loc) (ls : Array Slot), (5 - y340322.toInt).toNat < n → 0 ≤ y340322.toInt → (y340322.toInt ≤ 5) → RM w [] I J Ia340321 Ja340321 → ML w E Ia340321 → MD w Ja340321 → MU w Ia340321 → MR w Ia340321 Ja340321 (gTwo sg340320 xp.toNatClampNeg 5 6 (-1) (σ.1 0 1) y340322.toNatClampNeg) →  va_P (dC, dI) vwCl (va_pl L (wF cy K N T Ia340321 Q Ja340321)) H → va_D A (va_pl L (wF cy K N T Ia340321 Q Ja340321)) → va_S A s.heap H locs → lv_has ls 6 [(5, .int y340322), (4, .int (sp_nz v340259)), (3, .int v340259), (0, .ref (w 0)), (1, .int xp), (2, .int un)] → W p l e (headSpec wsX7_elect ({ frames := 4, cells := 0, slots := 0, locals := 99 })).room s m ([.ref (w 0), .int xp, .int un] : List Value).toArray below meth c H locs 0 0 Qz (F0 m 100 ls []) := by
              intro n
              induction n with
              | zero => intro y340322 Ia340321 Ja340321 H locs ls hms; exact absurd hms (Nat.not_lt_zero _)
              | succ n ih340321 =>
                intro y340322 Ia340321 Ja340321 H locs ls hms hnn340321 hiv340321 hR hML hMD hMU hMR hP hD hS hl
                refine lv_iload hx hb dX7_elect_100 (lv_at hl 0 rfl) ?_
                refine lv_iconst (v := 5) hx hb dX7_elect_102 (by decide) ?_
                refine lv_icmp_ge (tgt := 141) hx hb dX7_elect_103 (by decide) (fun c340323 => ?_) (fun c340323 => ?_)
                · have kc340323 : 5 ≤ y340322.toInt := by have h9 := c340323; rw [xk_le, xk_5] at h9; exact h9
                  refine lv_aload_n hx hb dX7_elect_141 rfl (lv_at hl 3 rfl) ?_
                  refine lv_iload_n hx hb dX7_elect_142 rfl (lv_at hl 4 rfl) ?_
                  obtain ⟨j340324, hj340324⟩ := wG_7 (cy := cy) (N := N) (T := T) (I := Ia340321) (Q := Q) (J := Ja340321) (hM.at 0 (by decide)) (hM.k 0 (by decide) rfl)
                  have hFc := pfree hD hS hA
                  refine va_callv (va_runV (As := [.int xp]) (rest := []) ⟨hx, hb, hml, hown, hts⟩ (f_X7_rise l dC dI cy w L K N T Q Ia340321 Ja340321 H.size xp (gTwo sg340320 xp.toNatClampNeg 5 6 (-1) (σ.1 0 1) y340322.toNatClampNeg) hM hth340073.1 (hMD _ (vp_lt (n := 4) hth340073.1)) hMR) (cwV 1 hts gX7_elect_X7_rise rfl rfl rfl (by decide +kernel) ⟨Nat.le_of_ble_eq_true rfl, Nat.le_of_ble_eq_true rfl⟩) ⟨mw_blind, va_recv hK hP (ci := 7) (q0 := j340324) rfl hj340324, fun U hU hW => ⟨rfl, mw_pre hP hK hD hU hW⟩⟩ rfl rfl hl.1 rfl (lv_room (Nat.le_of_ble_eq_true rfl)) dX7_elect_143 ⟨Nat.le_of_ble_eq_true rfl, Nat.le_of_ble_eq_true rfl⟩) hS (fun q _ h => hFc q h) hFc (fun d9 t H1 locs ht hvm hw hB hz1 hk1 hS => ?_)
                  obtain ⟨I340325, J340325⟩ := d9
                  obtain ⟨hP, hK1, hD1⟩ := hB
                  rw [ht] at hP
                  have hD := hD1.weaken (fun _ _ _ h => hFc _ h)
                  generalize H1 = H at hP hS ⊢
                  have hP : va_P (dC, dI) vwCl (va_pl L (wF cy K N T I340325 Q J340325)) H := hP
                  have hD : va_D A (va_pl L (wF cy K N T I340325 Q J340325)) := hD
                  have hMRn := hw.1
                  have hw := hw.2
                  have hw340327 : RZ w Ia340321 Ja340321 I340325 J340325 xp.toNatClampNeg := hw
                  have hR : RM w [] I J I340325 J340325 := hR.rz hM (vp_lt (n := 4) hth340073.1) hw340327
                  have hMD : MD w J340325 := hMD.rz hw340327
                  have hMU : MU w I340325 := hMU.rz hM (vp_lt (n := 4) hth340073.1) hw340327
                  have hML : ML w E I340325 := hML.rz hM (vp_lt (n := 4) hth340073.1) hw340327
                  obtain ⟨sg340328, esg340328⟩ : ∃ z, z = oRi (gTwo sg340320 xp.toNatClampNeg 5 6 (-1) (σ.1 0 1) y340322.toNatClampNeg) xp.toNatClampNeg := ⟨_, rfl⟩
                  have hMR : MR w I340325 J340325 sg340328 := by rw [esg340328]; exact hMRn
                  refine lv_iload hx hb dX7_elect_146 (lv_at hl 1 rfl) ?_
                  rw [hQz]
                  exact W.iret (v := (sp_nz v340259)) hx hb hr (fun t ht hW => ⟨⟨(sp_nz v340259), (I340325, J340325), rfl, ⟨⟨hML.mono (by omega), hMD, hMU⟩, by have e9 : qEl σ xp un = (sg340328, (sp_nz v340259)) := (by have hm : oMay σ xp.toNatClampNeg un = v340259 := (by rw [oMay, if_pos (by have k9 := c340080; simp only [ev340079, sx340076, sx340078] at k9; exact k9), if_neg c340167]; simp only [ev340259, sx340256, sx340258]); rw [qEl, if_neg (by have k9 := c340072; simp only [hir340070] at k9; exact k9), hm, if_neg c340260, oEl, if_pos (by have k9 := c340268; simp only [ev340267, ev340266, sx340265, sx340256, sx340258] at k9; exact k9), esg340328, show y340322.toNatClampNeg = 5 by rw [clT]; omega]; simp only [esg340320, ev340317, sx340316, esg340313, ev340259, sx340256, sx340258, esg340309, ev340306, sA_s, sA_n, sA_2, sG_1, gTwo_1, nar1, not_false_eq_true] <;> rfl); show MR w I340325 J340325 _; rw [e9]; exact hMR, by have e9 : qEl σ xp un = (sg340328, (sp_nz v340259)) := (by have hm : oMay σ xp.toNatClampNeg un = v340259 := (by rw [oMay, if_pos (by have k9 := c340080; simp only [ev340079, sx340076, sx340078] at k9; exact k9), if_neg c340167]; simp only [ev340259, sx340256, sx340258]); rw [qEl, if_neg (by have k9 := c340072; simp only [hir340070] at k9; exact k9), hm, if_neg c340260, oEl, if_pos (by have k9 := c340268; simp only [ev340267, ev340266, sx340265, sx340256, sx340258] at k9; exact k9), esg340328, show y340322.toNatClampNeg = 5 by rw [clT]; omega]; simp only [esg340320, ev340317, sx340316, esg340313, ev340259, sx340256, sx340258, esg340309, ev340306, sA_s, sA_n, sA_2, sG_1, gTwo_1, nar1, not_false_eq_true] <;> rfl); show _ = _; rw [e9]⟩, by rw [ht]; exact hP, va_K.moved hW.alike hK, hD⟩, hS.F ht⟩) hS.2.2 dX7_elect_148
                · have kc340323 : ¬ (5 ≤ y340322.toInt) := by have h9 := c340323; rw [xk_le, xk_5] at h9; exact h9
                  refine lv_aload_n hx hb dX7_elect_106 rfl (lv_at hl 3 rfl) ?_
                  obtain ⟨j340329, hj340329⟩ := wG_7 (cy := cy) (N := N) (T := T) (I := Ia340321) (Q := Q) (J := Ja340321) (hM.at 0 (by decide)) (hM.k 0 (by decide) rfl)
                  refine va_get (D := (dC, dI)) (ci := 7) (v := .ref (T (w 0) 0)) (C := RX7) (T := TX7) (N := 18) hx hb hts hi7 hown hK hP j340329 hj340329 rfl 0 (by decide) (hts (.fieldLink RX7 11 "TallyLogsModel" "log" "[[LTallyLogsModel$Log;") (by decide +kernel)) (fun _ h9 => h9) rfl dX7_elect_107 ?_
                  refine W.eq (g2 := F0 m 110 ls [.ref (w 1)]) (by rw [hM.t 0 (by decide)]) ?_
                  refine lv_iload_n hx hb dX7_elect_110 rfl (lv_at hl 4 rfl) ?_
                  obtain ⟨j340330, hj340330⟩ := wG_22 (cy := cy) (N := N) (T := T) (I := Ia340321) (Q := Q) (J := Ja340321) (hM.at 1 (by decide)) (hM.k 1 (by decide) rfl)
                  refine xg_aldg hx hb hK hP j340330 2 hj340330 rfl hth340073.1 dX7_elect_111 ?_
                  refine W.eq (g2 := F0 m 112 ls [.ref (w (17 + xp.toNatClampNeg))]) (by rw [hM.qo (vp_lt (n := 4) hth340073.1)]; rfl) ?_
                  refine lv_iload hx hb dX7_elect_112 (lv_at hl 0 rfl) ?_
                  obtain ⟨j340331, hj340331⟩ := wG_23 (cy := cy) (N := N) (T := T) (I := Ia340321) (Q := Q) (J := Ja340321) (hM.row (vp_lt (n := 4) hth340073.1)).1 (hM.row (vp_lt (n := 4) hth340073.1)).2
                  refine va_aldq hx hb hK hP j340331 3 hj340331 rfl (xin_of hnn340321 (by have kc := c340323; simp only [xk_lt, xk_le, xk_0, xk_1, xk_2, xk_3, xk_4, xk_5, xk_6, xk_7, xk_8, xk_50] at kc; omega)) dX7_elect_114 ?_
                  have hjl340332 : (5 * xp.toNatClampNeg + y340322.toNatClampNeg) < 20 := by have h1 := (vp_lt (n := 4) hth340073.1); have h2 := (vp_lt (n := 5) (xin_of hnn340321 (by have kc := c340323; simp only [xk_lt, xk_le, xk_0, xk_1, xk_2, xk_3, xk_4, xk_5, xk_6, xk_7, xk_8, xk_50] at kc; omega))); omega
                  refine W.eq (g2 := F0 m 115 ls [.ref (w (21 + (5 * xp.toNatClampNeg + y340322.toNatClampNeg)))]) (by rw [hM.qr (vp_lt (n := 4) hth340073.1) (vp_lt (n := 5) (xin_of hnn340321 (by have kc := c340323; simp only [xk_lt, xk_le, xk_0, xk_1, xk_2, xk_3, xk_4, xk_5, xk_6, xk_7, xk_8, xk_50] at kc; omega)))]; rfl) ?_
                  refine lv_iconst (v := (-1)) hx hb dX7_elect_115 (by decide) ?_
                  obtain ⟨j340333, hj340333⟩ := wG_6 (cy := cy) (N := N) (T := T) (I := Ia340321) (Q := Q) (J := Ja340321) (hM.lg hjl340332).1 (hM.lg hjl340332).2
                  have hDo := hD
                  refine va_put (D := (dC, dI)) (ci := 6) (v := .int (-1)) (ty := .int) (C := RX6) (T := TX6) (N := 7) hx hb hts hi6 tyX6 tyX6_ok nmX6 hown hK hP hD hS j340333 hj340333 rfl 5 (by decide) (hts (.fieldLink RX7 92 "TallyLogsModel$Log" "known" "I") (by decide +kernel)) (fun _ h9 => h9) rfl (by decide +kernel) rfl rfl (Nat.le_of_ble_eq_true rfl) dX7_elect_116 (fun H locs hP hD hS => ?_)
                  have hP := Eq.mp (congrArg (fun w => va_P (dC, dI) vwCl w H) (wP_6_5 (x := (-1)) hDo (hM.lg hjl340332).1 (hM.lg hjl340332).2 hj340333)) hP
                  obtain ⟨I340334, eI340334⟩ : ∃ z, z = p2 Ia340321 (w (21 + (5 * xp.toNatClampNeg + y340322.toNatClampNeg))) 5 (-1) := ⟨_, rfl⟩
                  rw [← eI340334] at hP
                  have hD : va_D A (va_pl L (wF cy K N T I340334 Q Ja340321)) := pD hDo
                  obtain ⟨sg340335, esg340335⟩ : ∃ z, z = sG (gTwo sg340320 xp.toNatClampNeg 5 6 (-1) (σ.1 0 1) y340322.toNatClampNeg) (5 * xp.toNatClampNeg + y340322.toNatClampNeg) 5 (-1) := ⟨_, rfl⟩
                  have hMR : MR w I340334 Ja340321 sg340335 := by rw [eI340334, esg340335]; exact hMR.wg hM hjl340332 (by decide) (by decide)
                  have hR : RM w [] I J I340334 Ja340321 := by rw [eI340334]; exact hR.pl hM hjl340332
                  have hMU : MU w I340334 := by rw [eI340334]; exact hMU.pl hM hjl340332
                  have hML : ML w E I340334 := by rw [eI340334]; exact hML.p56 hM hjl340332 (by decide)
                  refine lv_aload_n hx hb dX7_elect_119 rfl (lv_at hl 3 rfl) ?_
                  obtain ⟨j340336, hj340336⟩ := wG_7 (cy := cy) (N := N) (T := T) (I := I340334) (Q := Q) (J := Ja340321) (hM.at 0 (by decide)) (hM.k 0 (by decide) rfl)
                  refine va_get (D := (dC, dI)) (ci := 7) (v := .ref (T (w 0) 0)) (C := RX7) (T := TX7) (N := 18) hx hb hts hi7 hown hK hP j340336 hj340336 rfl 0 (by decide) (hts (.fieldLink RX7 11 "TallyLogsModel" "log" "[[LTallyLogsModel$Log;") (by decide +kernel)) (fun _ h9 => h9) rfl dX7_elect_120 ?_
                  refine W.eq (g2 := F0 m 123 ls [.ref (w 1)]) (by rw [hM.t 0 (by decide)]) ?_
                  refine lv_iload_n hx hb dX7_elect_123 rfl (lv_at hl 4 rfl) ?_
                  obtain ⟨j340337, hj340337⟩ := wG_22 (cy := cy) (N := N) (T := T) (I := I340334) (Q := Q) (J := Ja340321) (hM.at 1 (by decide)) (hM.k 1 (by decide) rfl)
                  refine xg_aldg hx hb hK hP j340337 2 hj340337 rfl hth340073.1 dX7_elect_124 ?_
                  refine W.eq (g2 := F0 m 125 ls [.ref (w (17 + xp.toNatClampNeg))]) (by rw [hM.qo (vp_lt (n := 4) hth340073.1)]; rfl) ?_
                  refine lv_iload hx hb dX7_elect_125 (lv_at hl 0 rfl) ?_
                  obtain ⟨j340338, hj340338⟩ := wG_23 (cy := cy) (N := N) (T := T) (I := I340334) (Q := Q) (J := Ja340321) (hM.row (vp_lt (n := 4) hth340073.1)).1 (hM.row (vp_lt (n := 4) hth340073.1)).2
                  refine va_aldq hx hb hK hP j340338 3 hj340338 rfl (xin_of hnn340321 (by have kc := c340323; simp only [xk_lt, xk_le, xk_0, xk_1, xk_2, xk_3, xk_4, xk_5, xk_6, xk_7, xk_8, xk_50] at kc; omega)) dX7_elect_127 ?_
                  have hjl340339 : (5 * xp.toNatClampNeg + y340322.toNatClampNeg) < 20 := by have h1 := (vp_lt (n := 4) hth340073.1); have h2 := (vp_lt (n := 5) (xin_of hnn340321 (by have kc := c340323; simp only [xk_lt, xk_le, xk_0, xk_1, xk_2, xk_3, xk_4, xk_5, xk_6, xk_7, xk_8, xk_50] at kc; omega))); omega
                  refine W.eq (g2 := F0 m 128 ls [.ref (w (21 + (5 * xp.toNatClampNeg + y340322.toNatClampNeg)))]) (by rw [hM.qr (vp_lt (n := 4) hth340073.1) (vp_lt (n := 5) (xin_of hnn340321 (by have kc := c340323; simp only [xk_lt, xk_le, xk_0, xk_1, xk_2, xk_3, xk_4, xk_5, xk_6, xk_7, xk_8, xk_50] at kc; omega)))]; rfl) ?_
                  refine lv_aload_n hx hb dX7_elect_128 rfl (lv_at hl 3 rfl) ?_
                  obtain ⟨j340340, hj340340⟩ := wG_7 (cy := cy) (N := N) (T := T) (I := I340334) (Q := Q) (J := Ja340321) (hM.at 0 (by decide)) (hM.k 0 (by decide) rfl)
                  refine va_get (D := (dC, dI)) (ci := 7) (v := .int (I340334 (w 0) 17)) (C := RX7) (T := TX7) (N := 18) hx hb hts hi7 hown hK hP j340340 hj340340 rfl 17 (by decide) (hts (.fieldLink RX7 119 "TallyLogsModel" "now" "I") (by decide +kernel)) (fun _ h9 => h9) rfl dX7_elect_129 ?_
                  refine lv_topi (fun x340341 ex340341 => ?_)
                  have sx340341 : x340341 = sg340335.1 0 1 := ex340341.trans hMR.1.2
                  have ex340341 : x340341 = Ia340321 (w 0) 17 := by rw [ex340341, eI340334, p2_na _ _ (hM.ne (by omega) (by omega) (by omega))]
                  have tx340341 : x340341.toInt = (Ia340321 (w 0) 17).toInt := congrArg Int32.toInt ex340341
                  obtain ⟨j340342, hj340342⟩ := wG_6 (cy := cy) (N := N) (T := T) (I := I340334) (Q := Q) (J := Ja340321) (hM.lg hjl340339).1 (hM.lg hjl340339).2
                  have hDo := hD
                  refine va_put (D := (dC, dI)) (ci := 6) (v := .int x340341) (ty := .int) (C := RX6) (T := TX6) (N := 7) hx hb hts hi6 tyX6 tyX6_ok nmX6 hown hK hP hD hS j340342 hj340342 rfl 6 (by decide) (hts (.fieldLink RX7 122 "TallyLogsModel$Log" "caught" "I") (by decide +kernel)) (fun _ h9 => h9) rfl (by decide +kernel) rfl rfl (Nat.le_of_ble_eq_true rfl) dX7_elect_132 (fun H locs hP hD hS => ?_)
                  have hP := Eq.mp (congrArg (fun w => va_P (dC, dI) vwCl w H) (wP_6_6 (x := x340341) hDo (hM.lg hjl340339).1 (hM.lg hjl340339).2 hj340342)) hP
                  obtain ⟨I340343, eI340343⟩ : ∃ z, z = p2 I340334 (w (21 + (5 * xp.toNatClampNeg + y340322.toNatClampNeg))) 6 x340341 := ⟨_, rfl⟩
                  rw [← eI340343] at hP
                  have hD : va_D A (va_pl L (wF cy K N T I340343 Q Ja340321)) := pD hDo
                  obtain ⟨sg340344, esg340344⟩ : ∃ z, z = sG sg340335 (5 * xp.toNatClampNeg + y340322.toNatClampNeg) 6 x340341 := ⟨_, rfl⟩
                  have hMR : MR w I340343 Ja340321 sg340344 := by rw [eI340343, esg340344]; exact hMR.wg hM hjl340339 (by decide) (by decide)
                  have hR : RM w [] I J I340343 Ja340321 := by rw [eI340343]; exact hR.pl hM hjl340339
                  have hMU : MU w I340343 := by rw [eI340343]; exact hMU.pl hM hjl340339
                  have hML : ML w E I340343 := by rw [eI340343]; exact hML.p56 hM hjl340339 (by decide)
                  obtain ⟨v340345, ev340345⟩ : ∃ y : Int32, y = y340322 + Int32.ofInt 1 := ⟨_, rfl⟩
                  refine lv_iinc (v := v340345) (lv' := [(5, .int v340345), (4, .int (sp_nz v340259)), (3, .int v340259), (0, .ref (w 0)), (1, .int xp), (2, .int un)]) hx hb dX7_elect_135 hl (k := 0) rfl ev340345.symm (by decide) rfl (fun ls hl => ?_)
                  refine lv_goto (tgt := 100) hx hb dX7_elect_138 (by decide) ?_
                  have tv340345 : v340345.toInt = y340322.toInt + 1 := by rw [ev340345, show y340322 + Int32.ofInt 1 = y340322 + 1 from rfl]; exact xinc (y := (5 : Int32)) (by rw [xk_lt, xk_5]; omega)
                  exact ih340321 _ _ _ _ _ _ (by omega) (by omega) (by omega) hR (hML.mono (by omega)) hMD hMU (by have vx340341 : x340341 = σ.1 0 1 := (by rw [sx340341]; simp only [esg340335, esg340320, ev340317, sx340316, esg340313, ev340259, sx340256, sx340258, esg340309, ev340306, sA_s, sA_n, sA_2, sG_1, gTwo_1, nar1, not_false_eq_true] <;> rfl); have z1 := esg340335; have z2 := esg340344; rw [vx340341] at z2; rw [clsucc (y := y340322) (by omega) tv340345]; show MR w _ _ (sG (sG (gTwo sg340320 xp.toNatClampNeg 5 6 (-1) (σ.1 0 1) y340322.toNatClampNeg) (5 * xp.toNatClampNeg + y340322.toNatClampNeg) 5 (-1)) (5 * xp.toNatClampNeg + y340322.toNatClampNeg) 6 (σ.1 0 1)); rw [← z1, ← z2]; exact hMR) hP hD hS (lv_sub hl [0, 1, 2, 3, 4, 5] rfl)
            exact hLP340321 _ _ _ _ _ _ _ (Nat.lt_succ_self _) (by decide) (by decide) hR (hML.mono (by omega)) hMD hMU (by rw [cl_0]; exact hMR) hP hD hS (lv_sub hl [0, 1, 2, 3, 4, 5] rfl)
        · have kc340260 : v340259.toInt = 0 := by have h9 := c340260; rw [xk_eq, xk_0] at h9; exact h9
          refine lv_bipush (v := (-2)) hx hb dX7_elect_46 (by decide) ?_
          exact W.iret (v := (-2)) hx hb hr (fun t ht hW => ⟨⟨(-2), (I, J), rfl, ⟨⟨hML.mono (by omega), hMD, hMU⟩, by have e9 : qEl σ xp un = (σ, (-2)) := (by have hm : oMay σ xp.toNatClampNeg un = v340259 := (by rw [oMay, if_pos (by have k9 := c340080; simp only [ev340079, sx340076, sx340078] at k9; exact k9), if_neg c340167]; simp only [ev340259, sx340256, sx340258]); rw [qEl, if_neg (by have k9 := c340072; simp only [hir340070] at k9; exact k9), hm, if_pos c340260]); show MR w I J _; rw [e9]; exact hMR, by have e9 : qEl σ xp un = (σ, (-2)) := (by have hm : oMay σ xp.toNatClampNeg un = v340259 := (by rw [oMay, if_pos (by have k9 := c340080; simp only [ev340079, sx340076, sx340078] at k9; exact k9), if_neg c340167]; simp only [ev340259, sx340256, sx340258]); rw [qEl, if_neg (by have k9 := c340072; simp only [hir340070] at k9; exact k9), hm, if_pos c340260]); show _ = _; rw [e9]⟩, by rw [ht]; exact hP, va_K.moved hW.alike hK, hD⟩, hS.F ht⟩) hS.2.2 dX7_elect_48
  · have kc340072 : r340070.toInt = 0 := by have h9 := c340072; rw [xk_eq, xk_0] at h9; exact h9
    refine lv_iconst (v := (-1)) hx hb dX7_elect_8 (by decide) ?_
    exact W.iret (v := (-1)) hx hb hr (fun t ht hW => ⟨⟨(-1), (I, J), rfl, ⟨⟨hML.mono (by omega), hMD, hMU⟩, by have e9 : qEl σ xp un = (σ, (-1)) := (by rw [qEl, if_pos (by have k9 := c340072; simp only [hir340070] at k9; exact k9)]); show MR w I J _; rw [e9]; exact hMR, by have e9 : qEl σ xp un = (σ, (-1)) := (by rw [qEl, if_pos (by have k9 := c340072; simp only [hir340070] at k9; exact k9)]); show _ = _; rw [e9]⟩, by rw [ht]; exact hP, va_K.moved hW.alike hK, hD⟩, hS.F ht⟩) hS.2.2 dX7_elect_9
