set_option maxHeartbeats 4000000 in
set_option maxRecDepth 100000 in
/-- register -/
theorem c_X7_register (l : Launch) (dC : Nat → ClassId) (dI : Nat → Nat → Nat) (cy : Nat → ClassId) (w : Nat → Nat) (L : List Nat) (K N : Nat → Nat) (T : Nat → Nat → Nat) (Q : Nat → Nat → Option Nat) (I J : Nat → Nat → Int32) (sz : Nat) (E : Int) (xk : Int32) (hM : MS w L K N T Q) (hI : MI w E I J) (hE : E ≤ 1000) : Met l yX7_register wsX7_register ({ frames := 1, cells := 0, slots := 0, locals := 27 }) (va_Pc [.ref (w 0), .int xk] (mW dC dI cy L (wF cy K N T I Q J) sz)) (va_Qi (fun (r : Int32) (d : (Nat → Nat → Int32) × (Nat → Nat → Int32)) => MI w (E + 5) d.1 d.2 ∧ RM w [8] I J d.1 d.2) (fun (d : (Nat → Nat → Int32) × (Nat → Nat → Int32)) t => va_P (dC, dI) vwCl (va_pl L (wF cy K N T d.1 Q d.2)) t.heap ∧ va_K (dC, dI) vwCl (mTy cy) t ∧ va_D (va_A (va_pl L (wF cy K N T I Q J)) sz) (va_pl L (wF cy K N T d.1 Q d.2))) (va_A (va_pl L (wF cy K N T I Q J)) sz)) 0 0 (va_A (va_pl L (wF cy K N T I Q J)) sz) := by
  refine Met.ofW (cc := cX7_register) (maxL := 2) (ret := (some .int)) (by decide) rfl ?_
  intro p e s m args below meth c s₁ B hml hv
  obtain ⟨rfl, hsz, ⟨hP, hK⟩, hD0⟩ := hv
  have hx := B.exec
  have hb := B.bytes
  have hr := B.returns
  have hts := atoms_spec (ws := wsX7_register) B.pre
  have hown : s.vm.findClass RX7 = some m.cls := findClass_of_methodNamed B.named
  have hlocks := B.notSynchronized
  have hi7 : ∀ w ∈ wsX70, w ∈ wsX7_register := by decide +kernel
  have hl := lv_entry ([.ref (w 0), .int xk]) (n := 2) (Nat.le_of_ble_eq_true rfl)
  rw [lg_entry_eq]
  generalize (lg_sl ([.ref (w 0), .int xk]) ++ List.replicate (2 - (lg_sl ([.ref (w 0), .int xk])).length) Slot.unset).toArray = ls at hl ⊢
  have hl : lv_has ls 2 [(0, .ref (w 0)), (1, .int xk)] := hl
  subst hsz
  have hD := hD0.self (sz := s.heap.size)
  generalize hAe : va_A (va_pl L (wF cy K N T I Q J)) s.heap.size = A at hD ⊢
  have hA : ∀ q : Nat, s.heap.size ≤ q → A q := fun q h => by rw [← hAe]; exact Or.inr h
  have hS : va_S A s.heap s.heap [] := va_S.rf
  have hR : RM w [8] I J I J := RM.rf
  obtain ⟨hML, hMD, hMU⟩ := hI
  refine lv_iload_n hx hb dX7_register_0 rfl (lv_at hl 1 rfl) ?_
  refine lv_i2l (v := xk.toInt64) hx hb dX7_register_1 rfl ?_
  refine lv_lconst (v := 0) hx hb dX7_register_2 (by decide) ?_
  refine lv_ldc2 hx hb hown (hts (.constantLong RX7 129 5) (by decide +kernel)) dX7_register_3 ?_
  refine vp_callSi (W.runS (As := [.long xk.toInt64, .long 0, .long 5]) (rest := []) ⟨hx, hb, hml, hown, hts⟩ (c_X7_in l xk.toInt64 0 5) (va_cwS 3 hts gX7_register_X7_in rfl rfl rfl (by decide +kernel) ⟨Nat.le_of_ble_eq_true rfl, Nat.le_of_ble_eq_true rfl⟩) preEq rfl rfl hl.1 rfl (lv_room (Nat.le_of_ble_eq_true rfl)) dX7_register_6 ⟨Nat.le_of_ble_eq_true rfl, Nat.le_of_ble_eq_true rfl⟩) (fun r412 hr412 => ?_)
  subst hr412
  refine lv_if_ne (tgt := 14) hx hb dX7_register_9 (by decide) (fun c413 => ?_) (fun c413 => ?_)
  · have hin414 : vp_in xk 6 := xin_sp c413 (by decide)
    refine lv_aload_n hx hb dX7_register_14 rfl (lv_at hl 0 rfl) ?_
    obtain ⟨j415, hj415⟩ := wG_7 (cy := cy) (N := N) (T := T) (I := I) (Q := Q) (J := J) (hM.at 0 (by decide)) (hM.k 0 (by decide) rfl)
    refine va_get (D := (dC, dI)) (ci := 7) (v := .ref (T (w 0) 8)) (C := RX7) (T := TX7) (N := 18) hx hb hts hi7 hown hK hP j415 hj415 rfl 8 (by decide) (hts (.fieldLink RX7 37 "TallyLogsModel" "mode" "[I") (by decide +kernel)) (fun _ h9 => h9) rfl dX7_register_15 ?_
    refine W.eq (g2 := F0 m 18 ls [.ref (w 9)]) (by rw [hM.t 8 (by decide)]) ?_
    refine lv_iload_n hx hb dX7_register_18 rfl (lv_at hl 1 rfl) ?_
    obtain ⟨j416, hj416⟩ := wG_20 (cy := cy) (N := N) (T := T) (I := I) (Q := Q) (J := J) (hM.at 9 (by decide)) (hM.k 9 (by decide) rfl)
    refine va_iald hx hb hK hP j416 1 hj416 rfl (hM.inN (n := 6) 9 (by decide) rfl rfl hin414) dX7_register_19 ?_
    refine lv_topi (fun x417 ex417 => ?_)
    refine lv_iconst (v := 1) hx hb dX7_register_20 (by decide) ?_
    refine lv_icmp_ne (tgt := 50) hx hb dX7_register_21 (by decide) (fun c418 => ?_) (fun c418 => ?_)
    · have kc418 : ¬ (x417.toInt = 1) := by have h9 := c418; rw [xk_eq, xk_1] at h9; exact h9
      refine lv_aload_n hx hb dX7_register_50 rfl (lv_at hl 0 rfl) ?_
      obtain ⟨j419, hj419⟩ := wG_7 (cy := cy) (N := N) (T := T) (I := I) (Q := Q) (J := J) (hM.at 0 (by decide)) (hM.k 0 (by decide) rfl)
      refine va_get (D := (dC, dI)) (ci := 7) (v := .ref (T (w 0) 7)) (C := RX7) (T := TX7) (N := 18) hx hb hts hi7 hown hK hP j419 hj419 rfl 7 (by decide) (hts (.fieldLink RX7 34 "TallyLogsModel" "generation" "[I") (by decide +kernel)) (fun _ h9 => h9) rfl dX7_register_51 ?_
      refine W.eq (g2 := F0 m 54 ls [.ref (w 8)]) (by rw [hM.t 7 (by decide)]) ?_
      refine lv_iload_n hx hb dX7_register_54 rfl (lv_at hl 1 rfl) ?_
      refine lv_dup2_11 hx hb dX7_register_55 rfl rfl ?_
      obtain ⟨j420, hj420⟩ := wG_20 (cy := cy) (N := N) (T := T) (I := I) (Q := Q) (J := J) (hM.at 8 (by decide)) (hM.k 8 (by decide) rfl)
      refine va_iald hx hb hK hP j420 1 hj420 rfl (hM.inN (n := 6) 8 (by decide) rfl rfl hin414) dX7_register_56 ?_
      refine lv_topi (fun x421 ex421 => ?_)
      refine lv_iconst (v := 1) hx hb dX7_register_57 (by decide) ?_
      refine lv_iadd hx hb dX7_register_58 ?_
      refine lv_topi (fun v422 ev422 => ?_)
      obtain ⟨j423, hj423⟩ := wG_20 (cy := cy) (N := N) (T := T) (I := I) (Q := Q) (J := J) (hM.at 8 (by decide)) (hM.k 8 (by decide) rfl)
      have hDo := hD
      refine va_iast (x := v422) hx hb hK hP hD hS j423 1 hj423 rfl (hM.inN (n := 6) 8 (by decide) rfl rfl hin414) dX7_register_59 (fun H locs hP hD hS => ?_)
      have hP := Eq.mp (congrArg (fun w => va_P (dC, dI) vwCl w H) (wS_20 hDo (hM.at 8 (by decide)) (hM.k 8 (by decide) rfl) hj423)) hP
      obtain ⟨J424, eJ424⟩ : ∃ z, z = va_up J (w 8) (upd (J (w 8)) xk.toNatClampNeg v422) := ⟨_, rfl⟩
      rw [← eJ424] at hP
      have hR : RM w [8] I J I J424 := by rw [eJ424]; exact hR.pj hM (by decide) (by decide)
      have hMD : MD w J424 := by rw [eJ424]; exact hMD.pj hM (by decide) (by decide)
      have hD : va_D A (va_pl L (wF cy K N T I Q J424)) := pD hDo
      refine lv_bipush (v := 8) hx hb dX7_register_60 (by decide) ?_
      refine lv_aload_n hx hb dX7_register_62 rfl (lv_at hl 0 rfl) ?_
      obtain ⟨j425, hj425⟩ := wG_7 (cy := cy) (N := N) (T := T) (I := I) (Q := Q) (J := J424) (hM.at 0 (by decide)) (hM.k 0 (by decide) rfl)
      refine va_get (D := (dC, dI)) (ci := 7) (v := .ref (T (w 0) 7)) (C := RX7) (T := TX7) (N := 18) hx hb hts hi7 hown hK hP j425 hj425 rfl 7 (by decide) (hts (.fieldLink RX7 34 "TallyLogsModel" "generation" "[I") (by decide +kernel)) (fun _ h9 => h9) rfl dX7_register_63 ?_
      refine W.eq (g2 := F0 m 66 ls [.ref (w 8), .int 8]) (by rw [hM.t 7 (by decide)]) ?_
      refine lv_iload_n hx hb dX7_register_66 rfl (lv_at hl 1 rfl) ?_
      obtain ⟨j426, hj426⟩ := wG_20 (cy := cy) (N := N) (T := T) (I := I) (Q := Q) (J := J424) (hM.at 8 (by decide)) (hM.k 8 (by decide) rfl)
      refine va_iald hx hb hK hP j426 1 hj426 rfl (hM.inN (n := 6) 8 (by decide) rfl rfl hin414) dX7_register_67 ?_
      refine lv_topi (fun x427 ex427 => ?_)
      refine lv_imul hx hb dX7_register_68 ?_
      refine lv_topi (fun v428 ev428 => ?_)
      refine lv_iload_n hx hb dX7_register_69 rfl (lv_at hl 1 rfl) ?_
      refine lv_iadd hx hb dX7_register_70 ?_
      refine lv_topi (fun v429 ev429 => ?_)
      exact W.iret (v := v429) hx hb hr (fun t ht hW => ⟨⟨v429, (I, J424), rfl, ⟨⟨hML.mono (by omega), hMD, hMU⟩, hR⟩, by rw [ht]; exact hP, va_K.moved hW.alike hK, hD⟩, hS.F ht⟩) hS.2.2 dX7_register_71
    · have kc418 : x417.toInt = 1 := by have h9 := c418; rw [xk_eq, xk_1] at h9; exact h9
      refine lv_aload_n hx hb dX7_register_24 rfl (lv_at hl 0 rfl) ?_
      obtain ⟨j430, hj430⟩ := wG_7 (cy := cy) (N := N) (T := T) (I := I) (Q := Q) (J := J) (hM.at 0 (by decide)) (hM.k 0 (by decide) rfl)
      refine va_get (D := (dC, dI)) (ci := 7) (v := .ref (T (w 0) 8)) (C := RX7) (T := TX7) (N := 18) hx hb hts hi7 hown hK hP j430 hj430 rfl 8 (by decide) (hts (.fieldLink RX7 37 "TallyLogsModel" "mode" "[I") (by decide +kernel)) (fun _ h9 => h9) rfl dX7_register_25 ?_
      refine W.eq (g2 := F0 m 28 ls [.ref (w 9)]) (by rw [hM.t 8 (by decide)]) ?_
      refine lv_iload_n hx hb dX7_register_28 rfl (lv_at hl 1 rfl) ?_
      refine lv_iconst (v := 2) hx hb dX7_register_29 (by decide) ?_
      obtain ⟨j431, hj431⟩ := wG_20 (cy := cy) (N := N) (T := T) (I := I) (Q := Q) (J := J) (hM.at 9 (by decide)) (hM.k 9 (by decide) rfl)
      have hDo := hD
      refine va_iast (x := 2) hx hb hK hP hD hS j431 1 hj431 rfl (hM.inN (n := 6) 9 (by decide) rfl rfl hin414) dX7_register_30 (fun H locs hP hD hS => ?_)
      have hP := Eq.mp (congrArg (fun w => va_P (dC, dI) vwCl w H) (wS_20 hDo (hM.at 9 (by decide)) (hM.k 9 (by decide) rfl) hj431)) hP
      obtain ⟨J432, eJ432⟩ : ∃ z, z = va_up J (w 9) (upd (J (w 9)) xk.toNatClampNeg 2) := ⟨_, rfl⟩
      rw [← eJ432] at hP
      have hR : RM w [8] I J I J432 := by rw [eJ432]; exact hR.pj hM (by decide) (by decide)
      have hMD : MD w J432 := by rw [eJ432]; exact hMD.pj hM (by decide) (by decide)
      have hD : va_D A (va_pl L (wF cy K N T I Q J432)) := pD hDo
      refine lv_aload_n hx hb dX7_register_31 rfl (lv_at hl 0 rfl) ?_
      obtain ⟨j433, hj433⟩ := wG_7 (cy := cy) (N := N) (T := T) (I := I) (Q := Q) (J := J432) (hM.at 0 (by decide)) (hM.k 0 (by decide) rfl)
      refine va_get (D := (dC, dI)) (ci := 7) (v := .ref (T (w 0) 10)) (C := RX7) (T := TX7) (N := 18) hx hb hts hi7 hown hK hP j433 hj433 rfl 10 (by decide) (hts (.fieldLink RX7 43 "TallyLogsModel" "endGeneration" "[I") (by decide +kernel)) (fun _ h9 => h9) rfl dX7_register_32 ?_
      refine W.eq (g2 := F0 m 35 ls [.ref (w 11)]) (by rw [hM.t 10 (by decide)]) ?_
      refine lv_iload_n hx hb dX7_register_35 rfl (lv_at hl 1 rfl) ?_
      refine lv_aload_n hx hb dX7_register_36 rfl (lv_at hl 0 rfl) ?_
      obtain ⟨j434, hj434⟩ := wG_7 (cy := cy) (N := N) (T := T) (I := I) (Q := Q) (J := J432) (hM.at 0 (by decide)) (hM.k 0 (by decide) rfl)
      refine va_get (D := (dC, dI)) (ci := 7) (v := .ref (T (w 0) 7)) (C := RX7) (T := TX7) (N := 18) hx hb hts hi7 hown hK hP j434 hj434 rfl 7 (by decide) (hts (.fieldLink RX7 34 "TallyLogsModel" "generation" "[I") (by decide +kernel)) (fun _ h9 => h9) rfl dX7_register_37 ?_
      refine W.eq (g2 := F0 m 40 ls [.ref (w 8), .int xk, .ref (w 11)]) (by rw [hM.t 7 (by decide)]) ?_
      refine lv_iload_n hx hb dX7_register_40 rfl (lv_at hl 1 rfl) ?_
      obtain ⟨j435, hj435⟩ := wG_20 (cy := cy) (N := N) (T := T) (I := I) (Q := Q) (J := J432) (hM.at 8 (by decide)) (hM.k 8 (by decide) rfl)
      refine va_iald hx hb hK hP j435 1 hj435 rfl (hM.inN (n := 6) 8 (by decide) rfl rfl hin414) dX7_register_41 ?_
      refine lv_topi (fun x436 ex436 => ?_)
      obtain ⟨j437, hj437⟩ := wG_20 (cy := cy) (N := N) (T := T) (I := I) (Q := Q) (J := J432) (hM.at 11 (by decide)) (hM.k 11 (by decide) rfl)
      have hDo := hD
      refine va_iast (x := x436) hx hb hK hP hD hS j437 1 hj437 rfl (hM.inN (n := 6) 11 (by decide) rfl rfl hin414) dX7_register_42 (fun H locs hP hD hS => ?_)
      have hP := Eq.mp (congrArg (fun w => va_P (dC, dI) vwCl w H) (wS_20 hDo (hM.at 11 (by decide)) (hM.k 11 (by decide) rfl) hj437)) hP
      obtain ⟨J438, eJ438⟩ : ∃ z, z = va_up J432 (w 11) (upd (J432 (w 11)) xk.toNatClampNeg x436) := ⟨_, rfl⟩
      rw [← eJ438] at hP
      have hR : RM w [8] I J I J438 := by rw [eJ438]; exact hR.pj hM (by decide) (by decide)
      have hMD : MD w J438 := by rw [eJ438]; exact hMD.pj hM (by decide) (by decide)
      have hD : va_D A (va_pl L (wF cy K N T I Q J438)) := pD hDo
      refine lv_aload_n hx hb dX7_register_43 rfl (lv_at hl 0 rfl) ?_
      obtain ⟨j439, hj439⟩ := wG_7 (cy := cy) (N := N) (T := T) (I := I) (Q := Q) (J := J438) (hM.at 0 (by decide)) (hM.k 0 (by decide) rfl)
      refine va_get (D := (dC, dI)) (ci := 7) (v := .ref (T (w 0) 11)) (C := RX7) (T := TX7) (N := 18) hx hb hts hi7 hown hK hP j439 hj439 rfl 11 (by decide) (hts (.fieldLink RX7 46 "TallyLogsModel" "endKind" "[I") (by decide +kernel)) (fun _ h9 => h9) rfl dX7_register_44 ?_
      refine W.eq (g2 := F0 m 47 ls [.ref (w 12)]) (by rw [hM.t 11 (by decide)]) ?_
      refine lv_iload_n hx hb dX7_register_47 rfl (lv_at hl 1 rfl) ?_
      refine lv_iconst (v := 2) hx hb dX7_register_48 (by decide) ?_
      obtain ⟨j440, hj440⟩ := wG_20 (cy := cy) (N := N) (T := T) (I := I) (Q := Q) (J := J438) (hM.at 12 (by decide)) (hM.k 12 (by decide) rfl)
      have hDo := hD
      refine va_iast (x := 2) hx hb hK hP hD hS j440 1 hj440 rfl (hM.inN (n := 6) 12 (by decide) rfl rfl hin414) dX7_register_49 (fun H locs hP hD hS => ?_)
      have hP := Eq.mp (congrArg (fun w => va_P (dC, dI) vwCl w H) (wS_20 hDo (hM.at 12 (by decide)) (hM.k 12 (by decide) rfl) hj440)) hP
      obtain ⟨J441, eJ441⟩ : ∃ z, z = va_up J438 (w 12) (upd (J438 (w 12)) xk.toNatClampNeg 2) := ⟨_, rfl⟩
      rw [← eJ441] at hP
      have hR : RM w [8] I J I J441 := by rw [eJ441]; exact hR.pj hM (by decide) (by decide)
      have hMD : MD w J441 := by rw [eJ441]; exact hMD.pj hM (by decide) (by decide)
      have hD : va_D A (va_pl L (wF cy K N T I Q J441)) := pD hDo
      refine lv_aload_n hx hb dX7_register_50 rfl (lv_at hl 0 rfl) ?_
      obtain ⟨j442, hj442⟩ := wG_7 (cy := cy) (N := N) (T := T) (I := I) (Q := Q) (J := J441) (hM.at 0 (by decide)) (hM.k 0 (by decide) rfl)
      refine va_get (D := (dC, dI)) (ci := 7) (v := .ref (T (w 0) 7)) (C := RX7) (T := TX7) (N := 18) hx hb hts hi7 hown hK hP j442 hj442 rfl 7 (by decide) (hts (.fieldLink RX7 34 "TallyLogsModel" "generation" "[I") (by decide +kernel)) (fun _ h9 => h9) rfl dX7_register_51 ?_
      refine W.eq (g2 := F0 m 54 ls [.ref (w 8)]) (by rw [hM.t 7 (by decide)]) ?_
      refine lv_iload_n hx hb dX7_register_54 rfl (lv_at hl 1 rfl) ?_
      refine lv_dup2_11 hx hb dX7_register_55 rfl rfl ?_
      obtain ⟨j443, hj443⟩ := wG_20 (cy := cy) (N := N) (T := T) (I := I) (Q := Q) (J := J441) (hM.at 8 (by decide)) (hM.k 8 (by decide) rfl)
      refine va_iald hx hb hK hP j443 1 hj443 rfl (hM.inN (n := 6) 8 (by decide) rfl rfl hin414) dX7_register_56 ?_
      refine lv_topi (fun x444 ex444 => ?_)
      refine lv_iconst (v := 1) hx hb dX7_register_57 (by decide) ?_
      refine lv_iadd hx hb dX7_register_58 ?_
      refine lv_topi (fun v445 ev445 => ?_)
      obtain ⟨j446, hj446⟩ := wG_20 (cy := cy) (N := N) (T := T) (I := I) (Q := Q) (J := J441) (hM.at 8 (by decide)) (hM.k 8 (by decide) rfl)
      have hDo := hD
      refine va_iast (x := v445) hx hb hK hP hD hS j446 1 hj446 rfl (hM.inN (n := 6) 8 (by decide) rfl rfl hin414) dX7_register_59 (fun H locs hP hD hS => ?_)
      have hP := Eq.mp (congrArg (fun w => va_P (dC, dI) vwCl w H) (wS_20 hDo (hM.at 8 (by decide)) (hM.k 8 (by decide) rfl) hj446)) hP
      obtain ⟨J447, eJ447⟩ : ∃ z, z = va_up J441 (w 8) (upd (J441 (w 8)) xk.toNatClampNeg v445) := ⟨_, rfl⟩
      rw [← eJ447] at hP
      have hR : RM w [8] I J I J447 := by rw [eJ447]; exact hR.pj hM (by decide) (by decide)
      have hMD : MD w J447 := by rw [eJ447]; exact hMD.pj hM (by decide) (by decide)
      have hD : va_D A (va_pl L (wF cy K N T I Q J447)) := pD hDo
      refine lv_bipush (v := 8) hx hb dX7_register_60 (by decide) ?_
      refine lv_aload_n hx hb dX7_register_62 rfl (lv_at hl 0 rfl) ?_
      obtain ⟨j448, hj448⟩ := wG_7 (cy := cy) (N := N) (T := T) (I := I) (Q := Q) (J := J447) (hM.at 0 (by decide)) (hM.k 0 (by decide) rfl)
      refine va_get (D := (dC, dI)) (ci := 7) (v := .ref (T (w 0) 7)) (C := RX7) (T := TX7) (N := 18) hx hb hts hi7 hown hK hP j448 hj448 rfl 7 (by decide) (hts (.fieldLink RX7 34 "TallyLogsModel" "generation" "[I") (by decide +kernel)) (fun _ h9 => h9) rfl dX7_register_63 ?_
      refine W.eq (g2 := F0 m 66 ls [.ref (w 8), .int 8]) (by rw [hM.t 7 (by decide)]) ?_
      refine lv_iload_n hx hb dX7_register_66 rfl (lv_at hl 1 rfl) ?_
      obtain ⟨j449, hj449⟩ := wG_20 (cy := cy) (N := N) (T := T) (I := I) (Q := Q) (J := J447) (hM.at 8 (by decide)) (hM.k 8 (by decide) rfl)
      refine va_iald hx hb hK hP j449 1 hj449 rfl (hM.inN (n := 6) 8 (by decide) rfl rfl hin414) dX7_register_67 ?_
      refine lv_topi (fun x450 ex450 => ?_)
      refine lv_imul hx hb dX7_register_68 ?_
      refine lv_topi (fun v451 ev451 => ?_)
      refine lv_iload_n hx hb dX7_register_69 rfl (lv_at hl 1 rfl) ?_
      refine lv_iadd hx hb dX7_register_70 ?_
      refine lv_topi (fun v452 ev452 => ?_)
      exact W.iret (v := v452) hx hb hr (fun t ht hW => ⟨⟨v452, (I, J447), rfl, ⟨⟨hML.mono (by omega), hMD, hMU⟩, hR⟩, by rw [ht]; exact hP, va_K.moved hW.alike hK, hD⟩, hS.F ht⟩) hS.2.2 dX7_register_71
  · refine lv_iconst (v := (-1)) hx hb dX7_register_12 (by decide) ?_
    exact W.iret (v := (-1)) hx hb hr (fun t ht hW => ⟨⟨(-1), (I, J), rfl, ⟨⟨hML.mono (by omega), hMD, hMU⟩, hR⟩, by rw [ht]; exact hP, va_K.moved hW.alike hK, hD⟩, hS.F ht⟩) hS.2.2 dX7_register_13
set_option maxHeartbeats 4000000 in
set_option maxRecDepth 100000 in
/-- begin -/
theorem c_X7_begin (l : Launch) (dC : Nat → ClassId) (dI : Nat → Nat → Nat) (cy : Nat → ClassId) (w : Nat → Nat) (L : List Nat) (K N : Nat → Nat) (T : Nat → Nat → Nat) (Q : Nat → Nat → Option Nat) (I J : Nat → Nat → Int32) (sz : Nat) (E : Int) (xh : Int32) (hM : MS w L K N T Q) (hI : MI w E I J) (hE : E ≤ 1000) : Met l yX7_begin wsX7_begin ({ frames := 1, cells := 0, slots := 0, locals := 22 }) (va_Pc [.ref (w 0), .int xh] (mW dC dI cy L (wF cy K N T I Q J) sz)) (va_Qi (fun (r : Int32) (d : (Nat → Nat → Int32) × (Nat → Nat → Int32)) => MI w (E + 5) d.1 d.2 ∧ RM w [] I J d.1 d.2) (fun (d : (Nat → Nat → Int32) × (Nat → Nat → Int32)) t => va_P (dC, dI) vwCl (va_pl L (wF cy K N T d.1 Q d.2)) t.heap ∧ va_K (dC, dI) vwCl (mTy cy) t ∧ va_D (va_A (va_pl L (wF cy K N T I Q J)) sz) (va_pl L (wF cy K N T d.1 Q d.2))) (va_A (va_pl L (wF cy K N T I Q J)) sz)) 0 0 (va_A (va_pl L (wF cy K N T I Q J)) sz) := by
  refine Met.ofW (cc := cX7_begin) (maxL := 3) (ret := (some .int)) (by decide) rfl ?_
  intro p e s m args below meth c s₁ B hml hv
  obtain ⟨rfl, hsz, ⟨hP, hK⟩, hD0⟩ := hv
  have hx := B.exec
  have hb := B.bytes
  have hr := B.returns
  have hts := atoms_spec (ws := wsX7_begin) B.pre
  have hown : s.vm.findClass RX7 = some m.cls := findClass_of_methodNamed B.named
  have hlocks := B.notSynchronized
  have hi7 : ∀ w ∈ wsX70, w ∈ wsX7_begin := by decide +kernel
  have hl := lv_entry ([.ref (w 0), .int xh]) (n := 3) (Nat.le_of_ble_eq_true rfl)
  rw [lg_entry_eq]
  generalize (lg_sl ([.ref (w 0), .int xh]) ++ List.replicate (3 - (lg_sl ([.ref (w 0), .int xh])).length) Slot.unset).toArray = ls at hl ⊢
  have hl : lv_has ls 3 [(0, .ref (w 0)), (1, .int xh)] := hl
  subst hsz
  have hD := hD0.self (sz := s.heap.size)
  generalize hAe : va_A (va_pl L (wF cy K N T I Q J)) s.heap.size = A at hD ⊢
  have hA : ∀ q : Nat, s.heap.size ≤ q → A q := fun q h => by rw [← hAe]; exact Or.inr h
  have hS : va_S A s.heap s.heap [] := va_S.rf
  have hR : RM w [] I J I J := RM.rf
  obtain ⟨hML, hMD, hMU⟩ := hI
  refine lv_iload_n hx hb dX7_begin_0 rfl (lv_at hl 1 rfl) ?_
  refine vp_callSi (W.runS (As := [.int xh]) (rest := []) ⟨hx, hb, hml, hown, hts⟩ (c_X7_isHandle l xh) (va_cwS 1 hts gX7_begin_X7_isHandle rfl rfl rfl (by decide +kernel) ⟨Nat.le_of_ble_eq_true rfl, Nat.le_of_ble_eq_true rfl⟩) preEq rfl rfl hl.1 rfl (lv_room (Nat.le_of_ble_eq_true rfl)) dX7_begin_1 ⟨Nat.le_of_ble_eq_true rfl, Nat.le_of_ble_eq_true rfl⟩) (fun r453 hr453 => ?_)
  subst hr453
  refine lv_if_ne (tgt := 9) hx hb dX7_begin_4 (by decide) (fun c454 => ?_) (fun c454 => ?_)
  · have hih455 := sp_ih1 c454
    refine lv_iload_n hx hb dX7_begin_9 rfl (lv_at hl 1 rfl) ?_
    refine lv_bipush (v := 8) hx hb dX7_begin_10 (by decide) ?_
    refine lv_irem hx hb dX7_begin_12 (by decide) ?_
    refine lv_topi (fun v456 ev456 => ?_)
    have hin457 : vp_in v456 6 := by rw [ev456]; exact hih455.2
    refine lv_istore_n (lv' := [(2, .int v456), (0, .ref (w 0)), (1, .int xh)]) hx hb dX7_begin_13 rfl hl (by decide) rfl (fun ls hl => ?_)
    refine lv_aload_n hx hb dX7_begin_14 rfl (lv_at hl 1 rfl) ?_
    obtain ⟨j458, hj458⟩ := wG_7 (cy := cy) (N := N) (T := T) (I := I) (Q := Q) (J := J) (hM.at 0 (by decide)) (hM.k 0 (by decide) rfl)
    refine va_get (D := (dC, dI)) (ci := 7) (v := .ref (T (w 0) 7)) (C := RX7) (T := TX7) (N := 18) hx hb hts hi7 hown hK hP j458 hj458 rfl 7 (by decide) (hts (.fieldLink RX7 34 "TallyLogsModel" "generation" "[I") (by decide +kernel)) (fun _ h9 => h9) rfl dX7_begin_15 ?_
    refine W.eq (g2 := F0 m 18 ls [.ref (w 8)]) (by rw [hM.t 7 (by decide)]) ?_
    refine lv_iload_n hx hb dX7_begin_18 rfl (lv_at hl 0 rfl) ?_
    obtain ⟨j459, hj459⟩ := wG_20 (cy := cy) (N := N) (T := T) (I := I) (Q := Q) (J := J) (hM.at 8 (by decide)) (hM.k 8 (by decide) rfl)
    refine va_iald hx hb hK hP j459 1 hj459 rfl (hM.inN (n := 6) 8 (by decide) rfl rfl hin457) dX7_begin_19 ?_
    refine lv_topi (fun x460 ex460 => ?_)
    refine lv_iload_n hx hb dX7_begin_20 rfl (lv_at hl 2 rfl) ?_
    refine lv_bipush (v := 8) hx hb dX7_begin_21 (by decide) ?_
    refine lv_idiv hx hb dX7_begin_23 (by decide) ?_
    refine lv_topi (fun v461 ev461 => ?_)
    refine lv_icmp_ne (tgt := 36) hx hb dX7_begin_24 (by decide) (fun c462 => ?_) (fun c462 => ?_)
    · have kc462 : ¬ (x460.toInt = v461.toInt) := by have h9 := c462; rw [xk_eq] at h9; exact h9
      refine lv_bipush (v := (-4)) hx hb dX7_begin_36 (by decide) ?_
      exact W.iret (v := (-4)) hx hb hr (fun t ht hW => ⟨⟨(-4), (I, J), rfl, ⟨⟨hML.mono (by omega), hMD, hMU⟩, hR⟩, by rw [ht]; exact hP, va_K.moved hW.alike hK, hD⟩, hS.F ht⟩) hS.2.2 dX7_begin_38
    · have kc462 : x460.toInt = v461.toInt := by have h9 := c462; rw [xk_eq] at h9; exact h9
      refine lv_aload_n hx hb dX7_begin_27 rfl (lv_at hl 1 rfl) ?_
      obtain ⟨j463, hj463⟩ := wG_7 (cy := cy) (N := N) (T := T) (I := I) (Q := Q) (J := J) (hM.at 0 (by decide)) (hM.k 0 (by decide) rfl)
      refine va_get (D := (dC, dI)) (ci := 7) (v := .ref (T (w 0) 8)) (C := RX7) (T := TX7) (N := 18) hx hb hts hi7 hown hK hP j463 hj463 rfl 8 (by decide) (hts (.fieldLink RX7 37 "TallyLogsModel" "mode" "[I") (by decide +kernel)) (fun _ h9 => h9) rfl dX7_begin_28 ?_
      refine W.eq (g2 := F0 m 31 ls [.ref (w 9)]) (by rw [hM.t 8 (by decide)]) ?_
      refine lv_iload_n hx hb dX7_begin_31 rfl (lv_at hl 0 rfl) ?_
      obtain ⟨j464, hj464⟩ := wG_20 (cy := cy) (N := N) (T := T) (I := I) (Q := Q) (J := J) (hM.at 9 (by decide)) (hM.k 9 (by decide) rfl)
      refine va_iald hx hb hK hP j464 1 hj464 rfl (hM.inN (n := 6) 9 (by decide) rfl rfl hin457) dX7_begin_32 ?_
      refine lv_topi (fun x465 ex465 => ?_)
      refine lv_if_eq (tgt := 39) hx hb dX7_begin_33 (by decide) (fun c466 => ?_) (fun c466 => ?_)
      · have kc466 : x465.toInt = 0 := by have h9 := c466; rw [xk_eq, xk_0] at h9; exact h9
        refine lv_aload_n hx hb dX7_begin_39 rfl (lv_at hl 1 rfl) ?_
        obtain ⟨j467, hj467⟩ := wG_7 (cy := cy) (N := N) (T := T) (I := I) (Q := Q) (J := J) (hM.at 0 (by decide)) (hM.k 0 (by decide) rfl)
        refine va_get (D := (dC, dI)) (ci := 7) (v := .ref (T (w 0) 8)) (C := RX7) (T := TX7) (N := 18) hx hb hts hi7 hown hK hP j467 hj467 rfl 8 (by decide) (hts (.fieldLink RX7 37 "TallyLogsModel" "mode" "[I") (by decide +kernel)) (fun _ h9 => h9) rfl dX7_begin_40 ?_
        refine W.eq (g2 := F0 m 43 ls [.ref (w 9)]) (by rw [hM.t 8 (by decide)]) ?_
        refine lv_iload_n hx hb dX7_begin_43 rfl (lv_at hl 0 rfl) ?_
        refine lv_iconst (v := 1) hx hb dX7_begin_44 (by decide) ?_
        obtain ⟨j468, hj468⟩ := wG_20 (cy := cy) (N := N) (T := T) (I := I) (Q := Q) (J := J) (hM.at 9 (by decide)) (hM.k 9 (by decide) rfl)
        have hDo := hD
        refine va_iast (x := 1) hx hb hK hP hD hS j468 1 hj468 rfl (hM.inN (n := 6) 9 (by decide) rfl rfl hin457) dX7_begin_45 (fun H locs hP hD hS => ?_)
        have hP := Eq.mp (congrArg (fun w => va_P (dC, dI) vwCl w H) (wS_20 hDo (hM.at 9 (by decide)) (hM.k 9 (by decide) rfl) hj468)) hP
        obtain ⟨J469, eJ469⟩ : ∃ z, z = va_up J (w 9) (upd (J (w 9)) v456.toNatClampNeg 1) := ⟨_, rfl⟩
        rw [← eJ469] at hP
        have hR : RM w [] I J I J469 := by rw [eJ469]; exact hR.pj hM (by decide) (by decide)
        have hMD : MD w J469 := by rw [eJ469]; exact hMD.pj hM (by decide) (by decide)
        have hD : va_D A (va_pl L (wF cy K N T I Q J469)) := pD hDo
        refine lv_aload_n hx hb dX7_begin_46 rfl (lv_at hl 1 rfl) ?_
        obtain ⟨j470, hj470⟩ := wG_7 (cy := cy) (N := N) (T := T) (I := I) (Q := Q) (J := J469) (hM.at 0 (by decide)) (hM.k 0 (by decide) rfl)
        refine va_get (D := (dC, dI)) (ci := 7) (v := .ref (T (w 0) 9)) (C := RX7) (T := TX7) (N := 18) hx hb hts hi7 hown hK hP j470 hj470 rfl 9 (by decide) (hts (.fieldLink RX7 40 "TallyLogsModel" "bound" "[I") (by decide +kernel)) (fun _ h9 => h9) rfl dX7_begin_47 ?_
        refine W.eq (g2 := F0 m 50 ls [.ref (w 10)]) (by rw [hM.t 9 (by decide)]) ?_
        refine lv_iload_n hx hb dX7_begin_50 rfl (lv_at hl 0 rfl) ?_
        refine lv_iconst (v := 0) hx hb dX7_begin_51 (by decide) ?_
        obtain ⟨j471, hj471⟩ := wG_20 (cy := cy) (N := N) (T := T) (I := I) (Q := Q) (J := J469) (hM.at 10 (by decide)) (hM.k 10 (by decide) rfl)
        have hDo := hD
        refine va_iast (x := 0) hx hb hK hP hD hS j471 1 hj471 rfl (hM.inN (n := 6) 10 (by decide) rfl rfl hin457) dX7_begin_52 (fun H locs hP hD hS => ?_)
        have hP := Eq.mp (congrArg (fun w => va_P (dC, dI) vwCl w H) (wS_20 hDo (hM.at 10 (by decide)) (hM.k 10 (by decide) rfl) hj471)) hP
        obtain ⟨J472, eJ472⟩ : ∃ z, z = va_up J469 (w 10) (upd (J469 (w 10)) v456.toNatClampNeg 0) := ⟨_, rfl⟩
        rw [← eJ472] at hP
        have hR : RM w [] I J I J472 := by rw [eJ472]; exact hR.pj hM (by decide) (by decide)
        have hMD : MD w J472 := by rw [eJ472]; exact hMD.pj hM (by decide) (by decide)
        have hD : va_D A (va_pl L (wF cy K N T I Q J472)) := pD hDo
        refine lv_iconst (v := 0) hx hb dX7_begin_53 (by decide) ?_
        exact W.iret (v := 0) hx hb hr (fun t ht hW => ⟨⟨0, (I, J472), rfl, ⟨⟨hML.mono (by omega), hMD, hMU⟩, hR⟩, by rw [ht]; exact hP, va_K.moved hW.alike hK, hD⟩, hS.F ht⟩) hS.2.2 dX7_begin_54
      · have kc466 : ¬ (x465.toInt = 0) := by have h9 := c466; rw [xk_eq, xk_0] at h9; exact h9
        refine lv_bipush (v := (-4)) hx hb dX7_begin_36 (by decide) ?_
        exact W.iret (v := (-4)) hx hb hr (fun t ht hW => ⟨⟨(-4), (I, J), rfl, ⟨⟨hML.mono (by omega), hMD, hMU⟩, hR⟩, by rw [ht]; exact hP, va_K.moved hW.alike hK, hD⟩, hS.F ht⟩) hS.2.2 dX7_begin_38
  · refine lv_iconst (v := (-1)) hx hb dX7_begin_7 (by decide) ?_
    exact W.iret (v := (-1)) hx hb hr (fun t ht hW => ⟨⟨(-1), (I, J), rfl, ⟨⟨hML.mono (by omega), hMD, hMU⟩, hR⟩, by rw [ht]; exact hP, va_K.moved hW.alike hK, hD⟩, hS.F ht⟩) hS.2.2 dX7_begin_8
set_option maxHeartbeats 4000000 in
set_option maxRecDepth 100000 in
/-- finish -/
theorem c_X7_finish (l : Launch) (dC : Nat → ClassId) (dI : Nat → Nat → Nat) (cy : Nat → ClassId) (w : Nat → Nat) (L : List Nat) (K N : Nat → Nat) (T : Nat → Nat → Nat) (Q : Nat → Nat → Option Nat) (I J : Nat → Nat → Int32) (sz : Nat) (E : Int) (xh : Int32) (cm : Int32) (hM : MS w L K N T Q) (hI : MI w E I J) (hE : E ≤ 1000) : Met l yX7_finish wsX7_finish ({ frames := 1, cells := 0, slots := 0, locals := 22 }) (va_Pc [.ref (w 0), .int xh, .int cm] (mW dC dI cy L (wF cy K N T I Q J) sz)) (va_Qi (fun (r : Int32) (d : (Nat → Nat → Int32) × (Nat → Nat → Int32)) => MI w (E + 5) d.1 d.2 ∧ RM w [] I J d.1 d.2) (fun (d : (Nat → Nat → Int32) × (Nat → Nat → Int32)) t => va_P (dC, dI) vwCl (va_pl L (wF cy K N T d.1 Q d.2)) t.heap ∧ va_K (dC, dI) vwCl (mTy cy) t ∧ va_D (va_A (va_pl L (wF cy K N T I Q J)) sz) (va_pl L (wF cy K N T d.1 Q d.2))) (va_A (va_pl L (wF cy K N T I Q J)) sz)) 0 0 (va_A (va_pl L (wF cy K N T I Q J)) sz) := by
  refine Met.ofW (cc := cX7_finish) (maxL := 4) (ret := (some .int)) (by decide) rfl ?_
  intro p e s m args below meth c s₁ B hml hv
  obtain ⟨rfl, hsz, ⟨hP, hK⟩, hD0⟩ := hv
  have hx := B.exec
  have hb := B.bytes
  have hr := B.returns
  have hts := atoms_spec (ws := wsX7_finish) B.pre
  have hown : s.vm.findClass RX7 = some m.cls := findClass_of_methodNamed B.named
  have hlocks := B.notSynchronized
  have hi7 : ∀ w ∈ wsX70, w ∈ wsX7_finish := by decide +kernel
  have hl := lv_entry ([.ref (w 0), .int xh, .int cm]) (n := 4) (Nat.le_of_ble_eq_true rfl)
  rw [lg_entry_eq]
  generalize (lg_sl ([.ref (w 0), .int xh, .int cm]) ++ List.replicate (4 - (lg_sl ([.ref (w 0), .int xh, .int cm])).length) Slot.unset).toArray = ls at hl ⊢
  have hl : lv_has ls 4 [(0, .ref (w 0)), (1, .int xh), (2, .int cm)] := hl
  subst hsz
  have hD := hD0.self (sz := s.heap.size)
  generalize hAe : va_A (va_pl L (wF cy K N T I Q J)) s.heap.size = A at hD ⊢
  have hA : ∀ q : Nat, s.heap.size ≤ q → A q := fun q h => by rw [← hAe]; exact Or.inr h
  have hS : va_S A s.heap s.heap [] := va_S.rf
  have hR : RM w [] I J I J := RM.rf
  obtain ⟨hML, hMD, hMU⟩ := hI
  refine lv_iload_n hx hb dX7_finish_0 rfl (lv_at hl 1 rfl) ?_
  refine vp_callSi (W.runS (As := [.int xh]) (rest := []) ⟨hx, hb, hml, hown, hts⟩ (c_X7_isHandle l xh) (va_cwS 1 hts gX7_finish_X7_isHandle rfl rfl rfl (by decide +kernel) ⟨Nat.le_of_ble_eq_true rfl, Nat.le_of_ble_eq_true rfl⟩) preEq rfl rfl hl.1 rfl (lv_room (Nat.le_of_ble_eq_true rfl)) dX7_finish_1 ⟨Nat.le_of_ble_eq_true rfl, Nat.le_of_ble_eq_true rfl⟩) (fun r473 hr473 => ?_)
  subst hr473
  refine lv_if_ne (tgt := 9) hx hb dX7_finish_4 (by decide) (fun c474 => ?_) (fun c474 => ?_)
  · have hih475 := sp_ih1 c474
    refine lv_iload_n hx hb dX7_finish_9 rfl (lv_at hl 1 rfl) ?_
    refine lv_bipush (v := 8) hx hb dX7_finish_10 (by decide) ?_
    refine lv_irem hx hb dX7_finish_12 (by decide) ?_
    refine lv_topi (fun v476 ev476 => ?_)
    have hin477 : vp_in v476 6 := by rw [ev476]; exact hih475.2
    refine lv_istore_n (lv' := [(3, .int v476), (0, .ref (w 0)), (1, .int xh), (2, .int cm)]) hx hb dX7_finish_13 rfl hl (by decide) rfl (fun ls hl => ?_)
    refine lv_aload_n hx hb dX7_finish_14 rfl (lv_at hl 1 rfl) ?_
    obtain ⟨j478, hj478⟩ := wG_7 (cy := cy) (N := N) (T := T) (I := I) (Q := Q) (J := J) (hM.at 0 (by decide)) (hM.k 0 (by decide) rfl)
    refine va_get (D := (dC, dI)) (ci := 7) (v := .ref (T (w 0) 7)) (C := RX7) (T := TX7) (N := 18) hx hb hts hi7 hown hK hP j478 hj478 rfl 7 (by decide) (hts (.fieldLink RX7 34 "TallyLogsModel" "generation" "[I") (by decide +kernel)) (fun _ h9 => h9) rfl dX7_finish_15 ?_
    refine W.eq (g2 := F0 m 18 ls [.ref (w 8)]) (by rw [hM.t 7 (by decide)]) ?_
    refine lv_iload_n hx hb dX7_finish_18 rfl (lv_at hl 0 rfl) ?_
    obtain ⟨j479, hj479⟩ := wG_20 (cy := cy) (N := N) (T := T) (I := I) (Q := Q) (J := J) (hM.at 8 (by decide)) (hM.k 8 (by decide) rfl)
    refine va_iald hx hb hK hP j479 1 hj479 rfl (hM.inN (n := 6) 8 (by decide) rfl rfl hin477) dX7_finish_19 ?_
    refine lv_topi (fun x480 ex480 => ?_)
    refine lv_iload_n hx hb dX7_finish_20 rfl (lv_at hl 2 rfl) ?_
    refine lv_bipush (v := 8) hx hb dX7_finish_21 (by decide) ?_
    refine lv_idiv hx hb dX7_finish_23 (by decide) ?_
    refine lv_topi (fun v481 ev481 => ?_)
    refine lv_icmp_ne (tgt := 37) hx hb dX7_finish_24 (by decide) (fun c482 => ?_) (fun c482 => ?_)
    · have kc482 : ¬ (x480.toInt = v481.toInt) := by have h9 := c482; rw [xk_eq] at h9; exact h9
      refine lv_bipush (v := (-4)) hx hb dX7_finish_37 (by decide) ?_
      exact W.iret (v := (-4)) hx hb hr (fun t ht hW => ⟨⟨(-4), (I, J), rfl, ⟨⟨hML.mono (by omega), hMD, hMU⟩, hR⟩, by rw [ht]; exact hP, va_K.moved hW.alike hK, hD⟩, hS.F ht⟩) hS.2.2 dX7_finish_39
    · have kc482 : x480.toInt = v481.toInt := by have h9 := c482; rw [xk_eq] at h9; exact h9
      refine lv_aload_n hx hb dX7_finish_27 rfl (lv_at hl 1 rfl) ?_
      obtain ⟨j483, hj483⟩ := wG_7 (cy := cy) (N := N) (T := T) (I := I) (Q := Q) (J := J) (hM.at 0 (by decide)) (hM.k 0 (by decide) rfl)
      refine va_get (D := (dC, dI)) (ci := 7) (v := .ref (T (w 0) 8)) (C := RX7) (T := TX7) (N := 18) hx hb hts hi7 hown hK hP j483 hj483 rfl 8 (by decide) (hts (.fieldLink RX7 37 "TallyLogsModel" "mode" "[I") (by decide +kernel)) (fun _ h9 => h9) rfl dX7_finish_28 ?_
      refine W.eq (g2 := F0 m 31 ls [.ref (w 9)]) (by rw [hM.t 8 (by decide)]) ?_
      refine lv_iload_n hx hb dX7_finish_31 rfl (lv_at hl 0 rfl) ?_
      obtain ⟨j484, hj484⟩ := wG_20 (cy := cy) (N := N) (T := T) (I := I) (Q := Q) (J := J) (hM.at 9 (by decide)) (hM.k 9 (by decide) rfl)
      refine va_iald hx hb hK hP j484 1 hj484 rfl (hM.inN (n := 6) 9 (by decide) rfl rfl hin477) dX7_finish_32 ?_
      refine lv_topi (fun x485 ex485 => ?_)
      refine lv_iconst (v := 1) hx hb dX7_finish_33 (by decide) ?_
      refine lv_icmp_eq (tgt := 40) hx hb dX7_finish_34 (by decide) (fun c486 => ?_) (fun c486 => ?_)
      · have kc486 : x485.toInt = 1 := by have h9 := c486; rw [xk_eq, xk_1] at h9; exact h9
        refine lv_aload_n hx hb dX7_finish_40 rfl (lv_at hl 1 rfl) ?_
        obtain ⟨j487, hj487⟩ := wG_7 (cy := cy) (N := N) (T := T) (I := I) (Q := Q) (J := J) (hM.at 0 (by decide)) (hM.k 0 (by decide) rfl)
        refine va_get (D := (dC, dI)) (ci := 7) (v := .ref (T (w 0) 8)) (C := RX7) (T := TX7) (N := 18) hx hb hts hi7 hown hK hP j487 hj487 rfl 8 (by decide) (hts (.fieldLink RX7 37 "TallyLogsModel" "mode" "[I") (by decide +kernel)) (fun _ h9 => h9) rfl dX7_finish_41 ?_
        refine W.eq (g2 := F0 m 44 ls [.ref (w 9)]) (by rw [hM.t 8 (by decide)]) ?_
        refine lv_iload_n hx hb dX7_finish_44 rfl (lv_at hl 0 rfl) ?_
        refine lv_iconst (v := 2) hx hb dX7_finish_45 (by decide) ?_
        obtain ⟨j488, hj488⟩ := wG_20 (cy := cy) (N := N) (T := T) (I := I) (Q := Q) (J := J) (hM.at 9 (by decide)) (hM.k 9 (by decide) rfl)
        have hDo := hD
        refine va_iast (x := 2) hx hb hK hP hD hS j488 1 hj488 rfl (hM.inN (n := 6) 9 (by decide) rfl rfl hin477) dX7_finish_46 (fun H locs hP hD hS => ?_)
        have hP := Eq.mp (congrArg (fun w => va_P (dC, dI) vwCl w H) (wS_20 hDo (hM.at 9 (by decide)) (hM.k 9 (by decide) rfl) hj488)) hP
        obtain ⟨J489, eJ489⟩ : ∃ z, z = va_up J (w 9) (upd (J (w 9)) v476.toNatClampNeg 2) := ⟨_, rfl⟩
        rw [← eJ489] at hP
        have hR : RM w [] I J I J489 := by rw [eJ489]; exact hR.pj hM (by decide) (by decide)
        have hMD : MD w J489 := by rw [eJ489]; exact hMD.pj hM (by decide) (by decide)
        have hD : va_D A (va_pl L (wF cy K N T I Q J489)) := pD hDo
        refine lv_aload_n hx hb dX7_finish_47 rfl (lv_at hl 1 rfl) ?_
        obtain ⟨j490, hj490⟩ := wG_7 (cy := cy) (N := N) (T := T) (I := I) (Q := Q) (J := J489) (hM.at 0 (by decide)) (hM.k 0 (by decide) rfl)
        refine va_get (D := (dC, dI)) (ci := 7) (v := .ref (T (w 0) 10)) (C := RX7) (T := TX7) (N := 18) hx hb hts hi7 hown hK hP j490 hj490 rfl 10 (by decide) (hts (.fieldLink RX7 43 "TallyLogsModel" "endGeneration" "[I") (by decide +kernel)) (fun _ h9 => h9) rfl dX7_finish_48 ?_
        refine W.eq (g2 := F0 m 51 ls [.ref (w 11)]) (by rw [hM.t 10 (by decide)]) ?_
        refine lv_iload_n hx hb dX7_finish_51 rfl (lv_at hl 0 rfl) ?_
        refine lv_aload_n hx hb dX7_finish_52 rfl (lv_at hl 1 rfl) ?_
        obtain ⟨j491, hj491⟩ := wG_7 (cy := cy) (N := N) (T := T) (I := I) (Q := Q) (J := J489) (hM.at 0 (by decide)) (hM.k 0 (by decide) rfl)
        refine va_get (D := (dC, dI)) (ci := 7) (v := .ref (T (w 0) 7)) (C := RX7) (T := TX7) (N := 18) hx hb hts hi7 hown hK hP j491 hj491 rfl 7 (by decide) (hts (.fieldLink RX7 34 "TallyLogsModel" "generation" "[I") (by decide +kernel)) (fun _ h9 => h9) rfl dX7_finish_53 ?_
        refine W.eq (g2 := F0 m 56 ls [.ref (w 8), .int v476, .ref (w 11)]) (by rw [hM.t 7 (by decide)]) ?_
        refine lv_iload_n hx hb dX7_finish_56 rfl (lv_at hl 0 rfl) ?_
        obtain ⟨j492, hj492⟩ := wG_20 (cy := cy) (N := N) (T := T) (I := I) (Q := Q) (J := J489) (hM.at 8 (by decide)) (hM.k 8 (by decide) rfl)
        refine va_iald hx hb hK hP j492 1 hj492 rfl (hM.inN (n := 6) 8 (by decide) rfl rfl hin477) dX7_finish_57 ?_
        refine lv_topi (fun x493 ex493 => ?_)
        obtain ⟨j494, hj494⟩ := wG_20 (cy := cy) (N := N) (T := T) (I := I) (Q := Q) (J := J489) (hM.at 11 (by decide)) (hM.k 11 (by decide) rfl)
        have hDo := hD
        refine va_iast (x := x493) hx hb hK hP hD hS j494 1 hj494 rfl (hM.inN (n := 6) 11 (by decide) rfl rfl hin477) dX7_finish_58 (fun H locs hP hD hS => ?_)
        have hP := Eq.mp (congrArg (fun w => va_P (dC, dI) vwCl w H) (wS_20 hDo (hM.at 11 (by decide)) (hM.k 11 (by decide) rfl) hj494)) hP
        obtain ⟨J495, eJ495⟩ : ∃ z, z = va_up J489 (w 11) (upd (J489 (w 11)) v476.toNatClampNeg x493) := ⟨_, rfl⟩
        rw [← eJ495] at hP
        have hR : RM w [] I J I J495 := by rw [eJ495]; exact hR.pj hM (by decide) (by decide)
        have hMD : MD w J495 := by rw [eJ495]; exact hMD.pj hM (by decide) (by decide)
        have hD : va_D A (va_pl L (wF cy K N T I Q J495)) := pD hDo
        refine lv_aload_n hx hb dX7_finish_59 rfl (lv_at hl 1 rfl) ?_
        obtain ⟨j496, hj496⟩ := wG_7 (cy := cy) (N := N) (T := T) (I := I) (Q := Q) (J := J495) (hM.at 0 (by decide)) (hM.k 0 (by decide) rfl)
        refine va_get (D := (dC, dI)) (ci := 7) (v := .ref (T (w 0) 11)) (C := RX7) (T := TX7) (N := 18) hx hb hts hi7 hown hK hP j496 hj496 rfl 11 (by decide) (hts (.fieldLink RX7 46 "TallyLogsModel" "endKind" "[I") (by decide +kernel)) (fun _ h9 => h9) rfl dX7_finish_60 ?_
        refine W.eq (g2 := F0 m 63 ls [.ref (w 12)]) (by rw [hM.t 11 (by decide)]) ?_
        refine lv_iload_n hx hb dX7_finish_63 rfl (lv_at hl 0 rfl) ?_
        refine lv_iload_n hx hb dX7_finish_64 rfl (lv_at hl 3 rfl) ?_
        refine lv_if_eq (tgt := 72) hx hb dX7_finish_65 (by decide) (fun c497 => ?_) (fun c497 => ?_)
        · have kc497 : cm.toInt = 0 := by have h9 := c497; rw [xk_eq, xk_0] at h9; exact h9
          refine lv_iconst (v := 2) hx hb dX7_finish_72 (by decide) ?_
          obtain ⟨j498, hj498⟩ := wG_20 (cy := cy) (N := N) (T := T) (I := I) (Q := Q) (J := J495) (hM.at 12 (by decide)) (hM.k 12 (by decide) rfl)
          have hDo := hD
          refine va_iast (x := 2) hx hb hK hP hD hS j498 1 hj498 rfl (hM.inN (n := 6) 12 (by decide) rfl rfl hin477) dX7_finish_73 (fun H locs hP hD hS => ?_)
          have hP := Eq.mp (congrArg (fun w => va_P (dC, dI) vwCl w H) (wS_20 hDo (hM.at 12 (by decide)) (hM.k 12 (by decide) rfl) hj498)) hP
          obtain ⟨J499, eJ499⟩ : ∃ z, z = va_up J495 (w 12) (upd (J495 (w 12)) v476.toNatClampNeg 2) := ⟨_, rfl⟩
          rw [← eJ499] at hP
          have hR : RM w [] I J I J499 := by rw [eJ499]; exact hR.pj hM (by decide) (by decide)
          have hMD : MD w J499 := by rw [eJ499]; exact hMD.pj hM (by decide) (by decide)
          have hD : va_D A (va_pl L (wF cy K N T I Q J499)) := pD hDo
          refine lv_aload_n hx hb dX7_finish_74 rfl (lv_at hl 1 rfl) ?_
          obtain ⟨j500, hj500⟩ := wG_7 (cy := cy) (N := N) (T := T) (I := I) (Q := Q) (J := J499) (hM.at 0 (by decide)) (hM.k 0 (by decide) rfl)
          refine va_get (D := (dC, dI)) (ci := 7) (v := .ref (T (w 0) 9)) (C := RX7) (T := TX7) (N := 18) hx hb hts hi7 hown hK hP j500 hj500 rfl 9 (by decide) (hts (.fieldLink RX7 40 "TallyLogsModel" "bound" "[I") (by decide +kernel)) (fun _ h9 => h9) rfl dX7_finish_75 ?_
          refine W.eq (g2 := F0 m 78 ls [.ref (w 10)]) (by rw [hM.t 9 (by decide)]) ?_
          refine lv_iload_n hx hb dX7_finish_78 rfl (lv_at hl 0 rfl) ?_
          obtain ⟨j501, hj501⟩ := wG_20 (cy := cy) (N := N) (T := T) (I := I) (Q := Q) (J := J499) (hM.at 10 (by decide)) (hM.k 10 (by decide) rfl)
          refine va_iald hx hb hK hP j501 1 hj501 rfl (hM.inN (n := 6) 10 (by decide) rfl rfl hin477) dX7_finish_79 ?_
          refine lv_topi (fun x502 ex502 => ?_)
          refine vp_callSi (W.runS (As := [.int x502]) (rest := []) ⟨hx, hb, hml, hown, hts⟩ (c_J6_bitCount_0f7a4 l x502) (va_cwS 1 hts gX7_finish_J6_bitCount_0f7a4 rfl rfl rfl (by decide +kernel) ⟨Nat.le_of_ble_eq_true rfl, Nat.le_of_ble_eq_true rfl⟩) preEq rfl rfl hl.1 rfl (lv_room (Nat.le_of_ble_eq_true rfl)) dX7_finish_80 ⟨Nat.le_of_ble_eq_true rfl, Nat.le_of_ble_eq_true rfl⟩) (fun r503 hr503 => ?_)
          subst hr503
          exact W.iret (v := (sp_bc x502)) hx hb hr (fun t ht hW => ⟨⟨(sp_bc x502), (I, J499), rfl, ⟨⟨hML.mono (by omega), hMD, hMU⟩, hR⟩, by rw [ht]; exact hP, va_K.moved hW.alike hK, hD⟩, hS.F ht⟩) hS.2.2 dX7_finish_83
        · have kc497 : ¬ (cm.toInt = 0) := by have h9 := c497; rw [xk_eq, xk_0] at h9; exact h9
          refine lv_iconst (v := 1) hx hb dX7_finish_68 (by decide) ?_
          refine lv_goto (tgt := 73) hx hb dX7_finish_69 (by decide) ?_
          obtain ⟨j504, hj504⟩ := wG_20 (cy := cy) (N := N) (T := T) (I := I) (Q := Q) (J := J495) (hM.at 12 (by decide)) (hM.k 12 (by decide) rfl)
          have hDo := hD
          refine va_iast (x := 1) hx hb hK hP hD hS j504 1 hj504 rfl (hM.inN (n := 6) 12 (by decide) rfl rfl hin477) dX7_finish_73 (fun H locs hP hD hS => ?_)
          have hP := Eq.mp (congrArg (fun w => va_P (dC, dI) vwCl w H) (wS_20 hDo (hM.at 12 (by decide)) (hM.k 12 (by decide) rfl) hj504)) hP
          obtain ⟨J505, eJ505⟩ : ∃ z, z = va_up J495 (w 12) (upd (J495 (w 12)) v476.toNatClampNeg 1) := ⟨_, rfl⟩
          rw [← eJ505] at hP
          have hR : RM w [] I J I J505 := by rw [eJ505]; exact hR.pj hM (by decide) (by decide)
          have hMD : MD w J505 := by rw [eJ505]; exact hMD.pj hM (by decide) (by decide)
          have hD : va_D A (va_pl L (wF cy K N T I Q J505)) := pD hDo
          refine lv_aload_n hx hb dX7_finish_74 rfl (lv_at hl 1 rfl) ?_
          obtain ⟨j506, hj506⟩ := wG_7 (cy := cy) (N := N) (T := T) (I := I) (Q := Q) (J := J505) (hM.at 0 (by decide)) (hM.k 0 (by decide) rfl)
          refine va_get (D := (dC, dI)) (ci := 7) (v := .ref (T (w 0) 9)) (C := RX7) (T := TX7) (N := 18) hx hb hts hi7 hown hK hP j506 hj506 rfl 9 (by decide) (hts (.fieldLink RX7 40 "TallyLogsModel" "bound" "[I") (by decide +kernel)) (fun _ h9 => h9) rfl dX7_finish_75 ?_
          refine W.eq (g2 := F0 m 78 ls [.ref (w 10)]) (by rw [hM.t 9 (by decide)]) ?_
          refine lv_iload_n hx hb dX7_finish_78 rfl (lv_at hl 0 rfl) ?_
          obtain ⟨j507, hj507⟩ := wG_20 (cy := cy) (N := N) (T := T) (I := I) (Q := Q) (J := J505) (hM.at 10 (by decide)) (hM.k 10 (by decide) rfl)
          refine va_iald hx hb hK hP j507 1 hj507 rfl (hM.inN (n := 6) 10 (by decide) rfl rfl hin477) dX7_finish_79 ?_
          refine lv_topi (fun x508 ex508 => ?_)
          refine vp_callSi (W.runS (As := [.int x508]) (rest := []) ⟨hx, hb, hml, hown, hts⟩ (c_J6_bitCount_0f7a4 l x508) (va_cwS 1 hts gX7_finish_J6_bitCount_0f7a4 rfl rfl rfl (by decide +kernel) ⟨Nat.le_of_ble_eq_true rfl, Nat.le_of_ble_eq_true rfl⟩) preEq rfl rfl hl.1 rfl (lv_room (Nat.le_of_ble_eq_true rfl)) dX7_finish_80 ⟨Nat.le_of_ble_eq_true rfl, Nat.le_of_ble_eq_true rfl⟩) (fun r509 hr509 => ?_)
          subst hr509
          exact W.iret (v := (sp_bc x508)) hx hb hr (fun t ht hW => ⟨⟨(sp_bc x508), (I, J505), rfl, ⟨⟨hML.mono (by omega), hMD, hMU⟩, hR⟩, by rw [ht]; exact hP, va_K.moved hW.alike hK, hD⟩, hS.F ht⟩) hS.2.2 dX7_finish_83
      · have kc486 : ¬ (x485.toInt = 1) := by have h9 := c486; rw [xk_eq, xk_1] at h9; exact h9
        refine lv_bipush (v := (-4)) hx hb dX7_finish_37 (by decide) ?_
        exact W.iret (v := (-4)) hx hb hr (fun t ht hW => ⟨⟨(-4), (I, J), rfl, ⟨⟨hML.mono (by omega), hMD, hMU⟩, hR⟩, by rw [ht]; exact hP, va_K.moved hW.alike hK, hD⟩, hS.F ht⟩) hS.2.2 dX7_finish_39
  · refine lv_iconst (v := (-1)) hx hb dX7_finish_7 (by decide) ?_
    exact W.iret (v := (-1)) hx hb hr (fun t ht hW => ⟨⟨(-1), (I, J), rfl, ⟨⟨hML.mono (by omega), hMD, hMU⟩, hR⟩, by rw [ht]; exact hP, va_K.moved hW.alike hK, hD⟩, hS.F ht⟩) hS.2.2 dX7_finish_8
set_option maxHeartbeats 4000000 in
set_option maxRecDepth 100000 in
/-- member -/
theorem c_X7_member (l : Launch) (dC : Nat → ClassId) (dI : Nat → Nat → Nat) (cy : Nat → ClassId) (w : Nat → Nat) (L : List Nat) (K N : Nat → Nat) (T : Nat → Nat → Nat) (Q : Nat → Nat → Option Nat) (I J : Nat → Nat → Int32) (sz : Nat) (E : Int) (xg : Int32) (xm : Int32) (hM : MS w L K N T Q) (hI : MI w E I J) (hE : E ≤ 1000) : Met l yX7_member wsX7_member ({ frames := 1, cells := 0, slots := 0, locals := 27 }) (va_Pc [.ref (w 0), .int xg, .int xm] (mW dC dI cy L (wF cy K N T I Q J) sz)) (va_Qi (fun (r : Int32) (d : (Nat → Nat → Int32) × (Nat → Nat → Int32)) => MI w (E + 5) d.1 d.2 ∧ RM w [13, 14] I J d.1 d.2) (fun (d : (Nat → Nat → Int32) × (Nat → Nat → Int32)) t => va_P (dC, dI) vwCl (va_pl L (wF cy K N T d.1 Q d.2)) t.heap ∧ va_K (dC, dI) vwCl (mTy cy) t ∧ va_D (va_A (va_pl L (wF cy K N T I Q J)) sz) (va_pl L (wF cy K N T d.1 Q d.2))) (va_A (va_pl L (wF cy K N T I Q J)) sz)) 0 0 (va_A (va_pl L (wF cy K N T I Q J)) sz) := by
  refine Met.ofW (cc := cX7_member) (maxL := 3) (ret := (some .int)) (by decide) rfl ?_
  intro p e s m args below meth c s₁ B hml hv
  obtain ⟨rfl, hsz, ⟨hP, hK⟩, hD0⟩ := hv
  have hx := B.exec
  have hb := B.bytes
  have hr := B.returns
  have hts := atoms_spec (ws := wsX7_member) B.pre
  have hown : s.vm.findClass RX7 = some m.cls := findClass_of_methodNamed B.named
  have hlocks := B.notSynchronized
  have hi7 : ∀ w ∈ wsX70, w ∈ wsX7_member := by decide +kernel
  have hl := lv_entry ([.ref (w 0), .int xg, .int xm]) (n := 3) (Nat.le_of_ble_eq_true rfl)
  rw [lg_entry_eq]
  generalize (lg_sl ([.ref (w 0), .int xg, .int xm]) ++ List.replicate (3 - (lg_sl ([.ref (w 0), .int xg, .int xm])).length) Slot.unset).toArray = ls at hl ⊢
  have hl : lv_has ls 3 [(0, .ref (w 0)), (1, .int xg), (2, .int xm)] := hl
  subst hsz
  have hD := hD0.self (sz := s.heap.size)
  generalize hAe : va_A (va_pl L (wF cy K N T I Q J)) s.heap.size = A at hD ⊢
  have hA : ∀ q : Nat, s.heap.size ≤ q → A q := fun q h => by rw [← hAe]; exact Or.inr h
  have hS : va_S A s.heap s.heap [] := va_S.rf
  have hR : RM w [13, 14] I J I J := RM.rf
  obtain ⟨hML, hMD, hMU⟩ := hI
  refine lv_iload_n hx hb dX7_member_0 rfl (lv_at hl 1 rfl) ?_
  refine lv_i2l (v := xg.toInt64) hx hb dX7_member_1 rfl ?_
  refine lv_lconst (v := 0) hx hb dX7_member_2 (by decide) ?_
  refine lv_ldc2 hx hb hown (hts (.constantLong RX7 80 3) (by decide +kernel)) dX7_member_3 ?_
  refine vp_callSi (W.runS (As := [.long xg.toInt64, .long 0, .long 3]) (rest := []) ⟨hx, hb, hml, hown, hts⟩ (c_X7_in l xg.toInt64 0 3) (va_cwS 3 hts gX7_member_X7_in rfl rfl rfl (by decide +kernel) ⟨Nat.le_of_ble_eq_true rfl, Nat.le_of_ble_eq_true rfl⟩) preEq rfl rfl hl.1 rfl (lv_room (Nat.le_of_ble_eq_true rfl)) dX7_member_6 ⟨Nat.le_of_ble_eq_true rfl, Nat.le_of_ble_eq_true rfl⟩) (fun r510 hr510 => ?_)
  subst hr510
  refine lv_if_eq (tgt := 24) hx hb dX7_member_9 (by decide) (fun c511 => ?_) (fun c511 => ?_)
  · refine lv_iconst (v := (-1)) hx hb dX7_member_24 (by decide) ?_
    exact W.iret (v := (-1)) hx hb hr (fun t ht hW => ⟨⟨(-1), (I, J), rfl, ⟨⟨hML.mono (by omega), hMD, hMU⟩, hR⟩, by rw [ht]; exact hP, va_K.moved hW.alike hK, hD⟩, hS.F ht⟩) hS.2.2 dX7_member_25
  · have hin512 : vp_in xg 4 := xin_sp c511 (by decide)
    refine lv_iload_n hx hb dX7_member_12 rfl (lv_at hl 2 rfl) ?_
    refine lv_i2l (v := xm.toInt64) hx hb dX7_member_13 rfl ?_
    refine lv_lconst (v := 0) hx hb dX7_member_14 (by decide) ?_
    refine lv_ldc2 hx hb hown (hts (.constantLong RX7 173 7) (by decide +kernel)) dX7_member_15 ?_
    refine vp_callSi (W.runS (As := [.long xm.toInt64, .long 0, .long 7]) (rest := []) ⟨hx, hb, hml, hown, hts⟩ (c_X7_in l xm.toInt64 0 7) (va_cwS 3 hts gX7_member_X7_in rfl rfl rfl (by decide +kernel) ⟨Nat.le_of_ble_eq_true rfl, Nat.le_of_ble_eq_true rfl⟩) preEq rfl rfl hl.1 rfl (lv_room (Nat.le_of_ble_eq_true rfl)) dX7_member_18 ⟨Nat.le_of_ble_eq_true rfl, Nat.le_of_ble_eq_true rfl⟩) (fun r513 hr513 => ?_)
    subst hr513
    refine lv_if_ne (tgt := 26) hx hb dX7_member_21 (by decide) (fun c514 => ?_) (fun c514 => ?_)
    · have hin515 : vp_in xm 8 := xin_sp c514 (by decide)
      refine lv_aload_n hx hb dX7_member_26 rfl (lv_at hl 0 rfl) ?_
      obtain ⟨j516, hj516⟩ := wG_7 (cy := cy) (N := N) (T := T) (I := I) (Q := Q) (J := J) (hM.at 0 (by decide)) (hM.k 0 (by decide) rfl)
      refine va_get (D := (dC, dI)) (ci := 7) (v := .ref (T (w 0) 12)) (C := RX7) (T := TX7) (N := 18) hx hb hts hi7 hown hK hP j516 hj516 rfl 12 (by decide) (hts (.fieldLink RX7 49 "TallyLogsModel" "members" "[I") (by decide +kernel)) (fun _ h9 => h9) rfl dX7_member_27 ?_
      refine W.eq (g2 := F0 m 30 ls [.ref (w 13)]) (by rw [hM.t 12 (by decide)]) ?_
      refine lv_iload_n hx hb dX7_member_30 rfl (lv_at hl 1 rfl) ?_
      refine lv_dup2_11 hx hb dX7_member_31 rfl rfl ?_
      obtain ⟨j517, hj517⟩ := wG_20 (cy := cy) (N := N) (T := T) (I := I) (Q := Q) (J := J) (hM.at 13 (by decide)) (hM.k 13 (by decide) rfl)
      refine va_iald hx hb hK hP j517 1 hj517 rfl (hM.inN (n := 4) 13 (by decide) rfl rfl hin512) dX7_member_32 ?_
      refine lv_topi (fun x518 ex518 => ?_)
      refine lv_iconst (v := 1) hx hb dX7_member_33 (by decide) ?_
      refine lv_iload_n hx hb dX7_member_34 rfl (lv_at hl 2 rfl) ?_
      refine lv_ishl hx hb dX7_member_35 ?_
      refine lv_topi (fun v519 ev519 => ?_)
      refine lv_ixor hx hb dX7_member_36 ?_
      refine lv_topi (fun v520 ev520 => ?_)
      obtain ⟨j521, hj521⟩ := wG_20 (cy := cy) (N := N) (T := T) (I := I) (Q := Q) (J := J) (hM.at 13 (by decide)) (hM.k 13 (by decide) rfl)
      have hDo := hD
      refine va_iast (x := v520) hx hb hK hP hD hS j521 1 hj521 rfl (hM.inN (n := 4) 13 (by decide) rfl rfl hin512) dX7_member_37 (fun H locs hP hD hS => ?_)
      have hP := Eq.mp (congrArg (fun w => va_P (dC, dI) vwCl w H) (wS_20 hDo (hM.at 13 (by decide)) (hM.k 13 (by decide) rfl) hj521)) hP
      obtain ⟨J522, eJ522⟩ : ∃ z, z = va_up J (w 13) (upd (J (w 13)) xg.toNatClampNeg v520) := ⟨_, rfl⟩
      rw [← eJ522] at hP
      have hR : RM w [13, 14] I J I J522 := by rw [eJ522]; exact hR.pj hM (by decide) (by decide)
      have hMD : MD w J522 := by rw [eJ522]; exact hMD.pj hM (by decide) (by decide)
      have hD : va_D A (va_pl L (wF cy K N T I Q J522)) := pD hDo
      refine lv_aload_n hx hb dX7_member_38 rfl (lv_at hl 0 rfl) ?_
      obtain ⟨j523, hj523⟩ := wG_7 (cy := cy) (N := N) (T := T) (I := I) (Q := Q) (J := J522) (hM.at 0 (by decide)) (hM.k 0 (by decide) rfl)
      refine va_get (D := (dC, dI)) (ci := 7) (v := .ref (T (w 0) 13)) (C := RX7) (T := TX7) (N := 18) hx hb hts hi7 hown hK hP j523 hj523 rfl 13 (by decide) (hts (.fieldLink RX7 52 "TallyLogsModel" "round" "[I") (by decide +kernel)) (fun _ h9 => h9) rfl dX7_member_39 ?_
      refine W.eq (g2 := F0 m 42 ls [.ref (w 14)]) (by rw [hM.t 13 (by decide)]) ?_
      refine lv_iload_n hx hb dX7_member_42 rfl (lv_at hl 1 rfl) ?_
      refine lv_dup2_11 hx hb dX7_member_43 rfl rfl ?_
      obtain ⟨j524, hj524⟩ := wG_20 (cy := cy) (N := N) (T := T) (I := I) (Q := Q) (J := J522) (hM.at 14 (by decide)) (hM.k 14 (by decide) rfl)
      refine va_iald hx hb hK hP j524 1 hj524 rfl (hM.inN (n := 4) 14 (by decide) rfl rfl hin512) dX7_member_44 ?_
      refine lv_topi (fun x525 ex525 => ?_)
      refine lv_iconst (v := 1) hx hb dX7_member_45 (by decide) ?_
      refine lv_iadd hx hb dX7_member_46 ?_
      refine lv_topi (fun v526 ev526 => ?_)
      obtain ⟨j527, hj527⟩ := wG_20 (cy := cy) (N := N) (T := T) (I := I) (Q := Q) (J := J522) (hM.at 14 (by decide)) (hM.k 14 (by decide) rfl)
      have hDo := hD
      refine va_iast (x := v526) hx hb hK hP hD hS j527 1 hj527 rfl (hM.inN (n := 4) 14 (by decide) rfl rfl hin512) dX7_member_47 (fun H locs hP hD hS => ?_)
      have hP := Eq.mp (congrArg (fun w => va_P (dC, dI) vwCl w H) (wS_20 hDo (hM.at 14 (by decide)) (hM.k 14 (by decide) rfl) hj527)) hP
      obtain ⟨J528, eJ528⟩ : ∃ z, z = va_up J522 (w 14) (upd (J522 (w 14)) xg.toNatClampNeg v526) := ⟨_, rfl⟩
      rw [← eJ528] at hP
      have hR : RM w [13, 14] I J I J528 := by rw [eJ528]; exact hR.pj hM (by decide) (by decide)
      have hMD : MD w J528 := by rw [eJ528]; exact hMD.pj hM (by decide) (by decide)
      have hD : va_D A (va_pl L (wF cy K N T I Q J528)) := pD hDo
      refine lv_aload_n hx hb dX7_member_48 rfl (lv_at hl 0 rfl) ?_
      obtain ⟨j529, hj529⟩ := wG_7 (cy := cy) (N := N) (T := T) (I := I) (Q := Q) (J := J528) (hM.at 0 (by decide)) (hM.k 0 (by decide) rfl)
      refine va_get (D := (dC, dI)) (ci := 7) (v := .ref (T (w 0) 13)) (C := RX7) (T := TX7) (N := 18) hx hb hts hi7 hown hK hP j529 hj529 rfl 13 (by decide) (hts (.fieldLink RX7 52 "TallyLogsModel" "round" "[I") (by decide +kernel)) (fun _ h9 => h9) rfl dX7_member_49 ?_
      refine W.eq (g2 := F0 m 52 ls [.ref (w 14)]) (by rw [hM.t 13 (by decide)]) ?_
      refine lv_iload_n hx hb dX7_member_52 rfl (lv_at hl 1 rfl) ?_
      obtain ⟨j530, hj530⟩ := wG_20 (cy := cy) (N := N) (T := T) (I := I) (Q := Q) (J := J528) (hM.at 14 (by decide)) (hM.k 14 (by decide) rfl)
      refine va_iald hx hb hK hP j530 1 hj530 rfl (hM.inN (n := 4) 14 (by decide) rfl rfl hin512) dX7_member_53 ?_
      refine lv_topi (fun x531 ex531 => ?_)
      exact W.iret (v := x531) hx hb hr (fun t ht hW => ⟨⟨x531, (I, J528), rfl, ⟨⟨hML.mono (by omega), hMD, hMU⟩, hR⟩, by rw [ht]; exact hP, va_K.moved hW.alike hK, hD⟩, hS.F ht⟩) hS.2.2 dX7_member_54
    · refine lv_iconst (v := (-1)) hx hb dX7_member_24 (by decide) ?_
      exact W.iret (v := (-1)) hx hb hr (fun t ht hW => ⟨⟨(-1), (I, J), rfl, ⟨⟨hML.mono (by omega), hMD, hMU⟩, hR⟩, by rw [ht]; exact hP, va_K.moved hW.alike hK, hD⟩, hS.F ht⟩) hS.2.2 dX7_member_25
set_option maxHeartbeats 4000000 in
set_option maxRecDepth 100000 in
/-- move -/
theorem c_X7_move (l : Launch) (dC : Nat → ClassId) (dI : Nat → Nat → Nat) (cy : Nat → ClassId) (w : Nat → Nat) (L : List Nat) (K N : Nat → Nat) (T : Nat → Nat → Nat) (Q : Nat → Nat → Option Nat) (I J : Nat → Nat → Int32) (sz : Nat) (E : Int) (xg : Int32) (xm : Int32) (xr : Int32) (xp : Int32) (xo : Int32) (hM : MS w L K N T Q) (hI : MI w E I J) (hE : E ≤ 1000) : Met l yX7_move wsX7_move ({ frames := 3, cells := 0, slots := 0, locals := 77 }) (va_Pc [.ref (w 0), .int xg, .int xm, .int xr, .int xp, .int xo] (mW dC dI cy L (wF cy K N T I Q J) sz)) (va_Qi (fun (r : Int32) (d : (Nat → Nat → Int32) × (Nat → Nat → Int32)) => MI w (E + 5) d.1 d.2 ∧ RM w [15] I J d.1 d.2) (fun (d : (Nat → Nat → Int32) × (Nat → Nat → Int32)) t => va_P (dC, dI) vwCl (va_pl L (wF cy K N T d.1 Q d.2)) t.heap ∧ va_K (dC, dI) vwCl (mTy cy) t ∧ va_D (va_A (va_pl L (wF cy K N T I Q J)) sz) (va_pl L (wF cy K N T d.1 Q d.2))) (va_A (va_pl L (wF cy K N T I Q J)) sz)) 0 0 (va_A (va_pl L (wF cy K N T I Q J)) sz) := by
  refine Met.ofW (cc := cX7_move) (maxL := 6) (ret := (some .int)) (by decide) rfl ?_
  intro p e s m args below meth c s₁ B hml hv
  obtain ⟨rfl, hsz, ⟨hP, hK⟩, hD0⟩ := hv
  have hx := B.exec
  have hb := B.bytes
  have hr := B.returns
  have hts := atoms_spec (ws := wsX7_move) B.pre
  have hown : s.vm.findClass RX7 = some m.cls := findClass_of_methodNamed B.named
  have hlocks := B.notSynchronized
  have hi7 : ∀ w ∈ wsX70, w ∈ wsX7_move := by decide +kernel
  have hl := lv_entry ([.ref (w 0), .int xg, .int xm, .int xr, .int xp, .int xo]) (n := 6) (Nat.le_of_ble_eq_true rfl)
  rw [lg_entry_eq]
  generalize (lg_sl ([.ref (w 0), .int xg, .int xm, .int xr, .int xp, .int xo]) ++ List.replicate (6 - (lg_sl ([.ref (w 0), .int xg, .int xm, .int xr, .int xp, .int xo])).length) Slot.unset).toArray = ls at hl ⊢
  have hl : lv_has ls 6 [(0, .ref (w 0)), (1, .int xg), (2, .int xm), (3, .int xr), (4, .int xp), (5, .int xo)] := hl
  subst hsz
  have hD := hD0.self (sz := s.heap.size)
  generalize hAe : va_A (va_pl L (wF cy K N T I Q J)) s.heap.size = A at hD ⊢
  have hA : ∀ q : Nat, s.heap.size ≤ q → A q := fun q h => by rw [← hAe]; exact Or.inr h
  have hS : va_S A s.heap s.heap [] := va_S.rf
  have hR : RM w [15] I J I J := RM.rf
  obtain ⟨hML, hMD, hMU⟩ := hI
  refine lv_iload hx hb dX7_move_0 (lv_at hl 5 rfl) ?_
  refine lv_if_lt (tgt := 26) hx hb dX7_move_2 (by decide) (fun c532 => ?_) (fun c532 => ?_)
  · have kc532 : xo.toInt < 0 := by have h9 := c532; rw [xk_lt, xk_0] at h9; exact h9
    refine lv_iconst (v := (-1)) hx hb dX7_move_26 (by decide) ?_
    exact W.iret (v := (-1)) hx hb hr (fun t ht hW => ⟨⟨(-1), (I, J), rfl, ⟨⟨hML.mono (by omega), hMD, hMU⟩, hR⟩, by rw [ht]; exact hP, va_K.moved hW.alike hK, hD⟩, hS.F ht⟩) hS.2.2 dX7_move_27
  · have kc532 : ¬ (xo.toInt < 0) := by have h9 := c532; rw [xk_lt, xk_0] at h9; exact h9
    refine lv_iload_n hx hb dX7_move_5 rfl (lv_at hl 1 rfl) ?_
    refine lv_i2l (v := xg.toInt64) hx hb dX7_move_6 rfl ?_
    refine lv_lconst (v := 0) hx hb dX7_move_7 (by decide) ?_
    refine lv_ldc2 hx hb hown (hts (.constantLong RX7 80 3) (by decide +kernel)) dX7_move_8 ?_
    refine vp_callSi (W.runS (As := [.long xg.toInt64, .long 0, .long 3]) (rest := []) ⟨hx, hb, hml, hown, hts⟩ (c_X7_in l xg.toInt64 0 3) (va_cwS 3 hts gX7_move_X7_in rfl rfl rfl (by decide +kernel) ⟨Nat.le_of_ble_eq_true rfl, Nat.le_of_ble_eq_true rfl⟩) preEq rfl rfl hl.1 rfl (lv_room (Nat.le_of_ble_eq_true rfl)) dX7_move_11 ⟨Nat.le_of_ble_eq_true rfl, Nat.le_of_ble_eq_true rfl⟩) (fun r533 hr533 => ?_)
    subst hr533
    refine lv_if_eq (tgt := 26) hx hb dX7_move_14 (by decide) (fun c534 => ?_) (fun c534 => ?_)
    · refine lv_iconst (v := (-1)) hx hb dX7_move_26 (by decide) ?_
      exact W.iret (v := (-1)) hx hb hr (fun t ht hW => ⟨⟨(-1), (I, J), rfl, ⟨⟨hML.mono (by omega), hMD, hMU⟩, hR⟩, by rw [ht]; exact hP, va_K.moved hW.alike hK, hD⟩, hS.F ht⟩) hS.2.2 dX7_move_27
    · have hin535 : vp_in xg 4 := xin_sp c534 (by decide)
      refine lv_aload_n hx hb dX7_move_17 rfl (lv_at hl 0 rfl) ?_
      refine lv_iload hx hb dX7_move_18 (lv_at hl 4 rfl) ?_
      obtain ⟨j537, hj537⟩ := wG_7 (cy := cy) (N := N) (T := T) (I := I) (Q := Q) (J := J) (hM.at 0 (by decide)) (hM.k 0 (by decide) rfl)
      refine vp_callSi (W.runV (As := [.int xp]) (rest := []) ⟨hx, hb, hml, hown, hts⟩ (c_X7_isThere l dC dI cy w L K N T Q I J xp hM) (cwV 1 hts gX7_move_X7_isThere rfl rfl rfl (by decide +kernel) ⟨Nat.le_of_ble_eq_true rfl, Nat.le_of_ble_eq_true rfl⟩) ⟨mb_blind, va_recv hK hP (ci := 7) (q0 := j537) rfl hj537, fun U hU hW => ⟨rfl, mb_pre hP hK hU hW⟩⟩ rfl rfl hl.1 rfl (lv_room (Nat.le_of_ble_eq_true rfl)) dX7_move_20 ⟨Nat.le_of_ble_eq_true rfl, Nat.le_of_ble_eq_true rfl⟩) (fun r536 hr536 => ?_)
      refine lv_if_ne (tgt := 28) hx hb dX7_move_23 (by decide) (fun c538 => ?_) (fun c538 => ?_)
      · have hth539 := sp_it1 (by rw [← hr536]; exact c538)
        have kc538 : ¬ (r536.toInt = 0) := by have h9 := c538; rw [xk_eq, xk_0] at h9; exact h9
        refine lv_iload_n hx hb dX7_move_28 rfl (lv_at hl 2 rfl) ?_
        refine lv_i2l (v := xm.toInt64) hx hb dX7_move_29 rfl ?_
        refine lv_lconst (v := 0) hx hb dX7_move_30 (by decide) ?_
        refine lv_ldc2 hx hb hown (hts (.constantLong RX7 173 7) (by decide +kernel)) dX7_move_31 ?_
        refine vp_callSi (W.runS (As := [.long xm.toInt64, .long 0, .long 7]) (rest := []) ⟨hx, hb, hml, hown, hts⟩ (c_X7_in l xm.toInt64 0 7) (va_cwS 3 hts gX7_move_X7_in rfl rfl rfl (by decide +kernel) ⟨Nat.le_of_ble_eq_true rfl, Nat.le_of_ble_eq_true rfl⟩) preEq rfl rfl hl.1 rfl (lv_room (Nat.le_of_ble_eq_true rfl)) dX7_move_34 ⟨Nat.le_of_ble_eq_true rfl, Nat.le_of_ble_eq_true rfl⟩) (fun r540 hr540 => ?_)
        subst hr540
        refine lv_if_eq (tgt := 61) hx hb dX7_move_37 (by decide) (fun c541 => ?_) (fun c541 => ?_)
        · refine lv_bipush (v := (-4)) hx hb dX7_move_61 (by decide) ?_
          exact W.iret (v := (-4)) hx hb hr (fun t ht hW => ⟨⟨(-4), (I, J), rfl, ⟨⟨hML.mono (by omega), hMD, hMU⟩, hR⟩, by rw [ht]; exact hP, va_K.moved hW.alike hK, hD⟩, hS.F ht⟩) hS.2.2 dX7_move_63
        · have hin542 : vp_in xm 8 := xin_sp c541 (by decide)
          refine lv_aload_n hx hb dX7_move_40 rfl (lv_at hl 0 rfl) ?_
          refine lv_iload_n hx hb dX7_move_41 rfl (lv_at hl 1 rfl) ?_
          refine lv_iload hx hb dX7_move_42 (lv_at hl 4 rfl) ?_
          obtain ⟨j544, hj544⟩ := wG_7 (cy := cy) (N := N) (T := T) (I := I) (Q := Q) (J := J) (hM.at 0 (by decide)) (hM.k 0 (by decide) rfl)
          refine vp_callSi (W.runV (As := [.int xg, .int xp]) (rest := []) ⟨hx, hb, hml, hown, hts⟩ (c_X7_owner l dC dI cy w L K N T Q I J xg xp hM) (cwV 2 hts gX7_move_X7_owner rfl rfl rfl (by decide +kernel) ⟨Nat.le_of_ble_eq_true rfl, Nat.le_of_ble_eq_true rfl⟩) ⟨mb_blind, va_recv hK hP (ci := 7) (q0 := j544) rfl hj544, fun U hU hW => ⟨rfl, mb_pre hP hK hU hW⟩⟩ rfl rfl hl.1 rfl (lv_room (Nat.le_of_ble_eq_true rfl)) dX7_move_44 ⟨Nat.le_of_ble_eq_true rfl, Nat.le_of_ble_eq_true rfl⟩) (fun r543 hr543 => ?_)
          refine lv_iload_n hx hb dX7_move_47 rfl (lv_at hl 2 rfl) ?_
          refine lv_icmp_ne (tgt := 61) hx hb dX7_move_48 (by decide) (fun c545 => ?_) (fun c545 => ?_)
          · have kc545 : ¬ (r543.toInt = xm.toInt) := by have h9 := c545; rw [xk_eq] at h9; exact h9
            refine lv_bipush (v := (-4)) hx hb dX7_move_61 (by decide) ?_
            exact W.iret (v := (-4)) hx hb hr (fun t ht hW => ⟨⟨(-4), (I, J), rfl, ⟨⟨hML.mono (by omega), hMD, hMU⟩, hR⟩, by rw [ht]; exact hP, va_K.moved hW.alike hK, hD⟩, hS.F ht⟩) hS.2.2 dX7_move_63
          · have kc545 : r543.toInt = xm.toInt := by have h9 := c545; rw [xk_eq] at h9; exact h9
            refine lv_aload_n hx hb dX7_move_51 rfl (lv_at hl 0 rfl) ?_
            obtain ⟨j546, hj546⟩ := wG_7 (cy := cy) (N := N) (T := T) (I := I) (Q := Q) (J := J) (hM.at 0 (by decide)) (hM.k 0 (by decide) rfl)
            refine va_get (D := (dC, dI)) (ci := 7) (v := .ref (T (w 0) 13)) (C := RX7) (T := TX7) (N := 18) hx hb hts hi7 hown hK hP j546 hj546 rfl 13 (by decide) (hts (.fieldLink RX7 52 "TallyLogsModel" "round" "[I") (by decide +kernel)) (fun _ h9 => h9) rfl dX7_move_52 ?_
            refine W.eq (g2 := F0 m 55 ls [.ref (w 14)]) (by rw [hM.t 13 (by decide)]) ?_
            refine lv_iload_n hx hb dX7_move_55 rfl (lv_at hl 1 rfl) ?_
            obtain ⟨j547, hj547⟩ := wG_20 (cy := cy) (N := N) (T := T) (I := I) (Q := Q) (J := J) (hM.at 14 (by decide)) (hM.k 14 (by decide) rfl)
            refine va_iald hx hb hK hP j547 1 hj547 rfl (hM.inN (n := 4) 14 (by decide) rfl rfl hin535) dX7_move_56 ?_
            refine lv_topi (fun x548 ex548 => ?_)
            refine lv_iload_n hx hb dX7_move_57 rfl (lv_at hl 3 rfl) ?_
            refine lv_icmp_eq (tgt := 64) hx hb dX7_move_58 (by decide) (fun c549 => ?_) (fun c549 => ?_)
            · have kc549 : x548.toInt = xr.toInt := by have h9 := c549; rw [xk_eq] at h9; exact h9
              refine lv_aload_n hx hb dX7_move_64 rfl (lv_at hl 0 rfl) ?_
              obtain ⟨j550, hj550⟩ := wG_7 (cy := cy) (N := N) (T := T) (I := I) (Q := Q) (J := J) (hM.at 0 (by decide)) (hM.k 0 (by decide) rfl)
              refine va_get (D := (dC, dI)) (ci := 7) (v := .ref (T (w 0) 14)) (C := RX7) (T := TX7) (N := 18) hx hb hts hi7 hown hK hP j550 hj550 rfl 14 (by decide) (hts (.fieldLink RX7 55 "TallyLogsModel" "position" "[I") (by decide +kernel)) (fun _ h9 => h9) rfl dX7_move_65 ?_
              refine W.eq (g2 := F0 m 68 ls [.ref (w 15)]) (by rw [hM.t 14 (by decide)]) ?_
              refine lv_iconst (v := 4) hx hb dX7_move_68 (by decide) ?_
              refine lv_iload_n hx hb dX7_move_69 rfl (lv_at hl 1 rfl) ?_
              refine lv_imul hx hb dX7_move_70 ?_
              refine lv_topi (fun v551 ev551 => ?_)
              refine lv_iload hx hb dX7_move_71 (lv_at hl 4 rfl) ?_
              refine lv_iadd hx hb dX7_move_73 ?_
              refine lv_topi (fun v552 ev552 => ?_)
              have tv551 : v551.toInt = 4 * xg.toInt := by rw [ev551]; have := vp_in_iff.mp hin535; exact xmul4 (by omega) (by omega)
              have hin553 : vp_in v552 16 := by have h8 := vp_in_iff.mp hin535; have h9 := vp_in_iff.mp hth539.1; rw [ev552]; exact xin_of (by rw [xadd (by omega) (by omega)]; omega) (by rw [xadd (by omega) (by omega)]; omega)
              refine lv_iload hx hb dX7_move_74 (lv_at hl 5 rfl) ?_
              obtain ⟨j554, hj554⟩ := wG_20 (cy := cy) (N := N) (T := T) (I := I) (Q := Q) (J := J) (hM.at 15 (by decide)) (hM.k 15 (by decide) rfl)
              have hDo := hD
              refine va_iast (x := xo) hx hb hK hP hD hS j554 1 hj554 rfl (hM.inN (n := 16) 15 (by decide) rfl rfl hin553) dX7_move_76 (fun H locs hP hD hS => ?_)
              have hP := Eq.mp (congrArg (fun w => va_P (dC, dI) vwCl w H) (wS_20 hDo (hM.at 15 (by decide)) (hM.k 15 (by decide) rfl) hj554)) hP
              obtain ⟨J555, eJ555⟩ : ∃ z, z = va_up J (w 15) (upd (J (w 15)) v552.toNatClampNeg xo) := ⟨_, rfl⟩
              rw [← eJ555] at hP
              have hR : RM w [15] I J I J555 := by rw [eJ555]; exact hR.pj hM (by decide) (by decide)
              have hMD : MD w J555 := by rw [eJ555]; exact hMD.pj hM (by decide) (by decide)
              have hD : va_D A (va_pl L (wF cy K N T I Q J555)) := pD hDo
              refine lv_iconst (v := 0) hx hb dX7_move_77 (by decide) ?_
              exact W.iret (v := 0) hx hb hr (fun t ht hW => ⟨⟨0, (I, J555), rfl, ⟨⟨hML.mono (by omega), hMD, hMU⟩, hR⟩, by rw [ht]; exact hP, va_K.moved hW.alike hK, hD⟩, hS.F ht⟩) hS.2.2 dX7_move_78
            · have kc549 : ¬ (x548.toInt = xr.toInt) := by have h9 := c549; rw [xk_eq] at h9; exact h9
              refine lv_bipush (v := (-4)) hx hb dX7_move_61 (by decide) ?_
              exact W.iret (v := (-4)) hx hb hr (fun t ht hW => ⟨⟨(-4), (I, J), rfl, ⟨⟨hML.mono (by omega), hMD, hMU⟩, hR⟩, by rw [ht]; exact hP, va_K.moved hW.alike hK, hD⟩, hS.F ht⟩) hS.2.2 dX7_move_63
      · have kc538 : r536.toInt = 0 := by have h9 := c538; rw [xk_eq, xk_0] at h9; exact h9
        refine lv_iconst (v := (-1)) hx hb dX7_move_26 (by decide) ?_
        exact W.iret (v := (-1)) hx hb hr (fun t ht hW => ⟨⟨(-1), (I, J), rfl, ⟨⟨hML.mono (by omega), hMD, hMU⟩, hR⟩, by rw [ht]; exact hP, va_K.moved hW.alike hK, hD⟩, hS.F ht⟩) hS.2.2 dX7_move_27
