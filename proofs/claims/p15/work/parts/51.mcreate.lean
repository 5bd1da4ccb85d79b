set_option maxHeartbeats 4000000 in
set_option maxRecDepth 100000 in
/-- create -/
theorem c_X7_create (l : Launch) (dC : Nat → ClassId) (dI : Nat → Nat → Nat) (cy : Nat → ClassId) (w : Nat → Nat) (L : List Nat) (K N : Nat → Nat) (T : Nat → Nat → Nat) (Q : Nat → Nat → Option Nat) (I J : Nat → Nat → Int32) (sz : Nat) (E : Int) (xp : Int32) (xr : Int32) (xl : Int32) (hM : MS w L K N T Q) (hI : MI w E I J) (hE : E ≤ 1000) : Met l yX7_create wsX7_create ({ frames := 1, cells := 0, slots := 0, locals := 27 }) (va_Pc [.ref (w 0), .int xp, .int xr, .int xl] (mW dC dI cy L (wF cy K N T I Q J) sz)) (va_Qi (fun (r : Int32) (d : (Nat → Nat → Int32) × (Nat → Nat → Int32)) => MI w (E + 5) d.1 d.2 ∧ RM w [2] I J d.1 d.2) (fun (d : (Nat → Nat → Int32) × (Nat → Nat → Int32)) t => va_P (dC, dI) vwCl (va_pl L (wF cy K N T d.1 Q d.2)) t.heap ∧ va_K (dC, dI) vwCl (mTy cy) t ∧ va_D (va_A (va_pl L (wF cy K N T I Q J)) sz) (va_pl L (wF cy K N T d.1 Q d.2))) (va_A (va_pl L (wF cy K N T I Q J)) sz)) 0 0 (va_A (va_pl L (wF cy K N T I Q J)) sz) := by
  refine Met.ofW (cc := cX7_create) (maxL := 6) (ret := (some .int)) (by decide) rfl ?_
  intro p e s m args below meth c s₁ B hml hv
  obtain ⟨rfl, hsz, ⟨hP, hK⟩, hD0⟩ := hv
  have hx := B.exec
  have hb := B.bytes
  have hr := B.returns
  have hts := atoms_spec (ws := wsX7_create) B.pre
  have hown : s.vm.findClass RX7 = some m.cls := findClass_of_methodNamed B.named
  have hlocks := B.notSynchronized
  have hi7 : ∀ w ∈ wsX70, w ∈ wsX7_create := by decide +kernel
  have hi6 : ∀ w ∈ wsX60, w ∈ wsX7_create := by decide +kernel
  have hl := lv_entry ([.ref (w 0), .int xp, .int xr, .int xl]) (n := 6) (Nat.le_of_ble_eq_true rfl)
  rw [lg_entry_eq]
  generalize (lg_sl ([.ref (w 0), .int xp, .int xr, .int xl]) ++ List.replicate (6 - (lg_sl ([.ref (w 0), .int xp, .int xr, .int xl])).length) Slot.unset).toArray = ls at hl ⊢
  have hl : lv_has ls 6 [(0, .ref (w 0)), (1, .int xp), (2, .int xr), (3, .int xl)] := hl
  subst hsz
  have hD := hD0.self (sz := s.heap.size)
  generalize hAe : va_A (va_pl L (wF cy K N T I Q J)) s.heap.size = A at hD ⊢
  have hA : ∀ q : Nat, s.heap.size ≤ q → A q := fun q h => by rw [← hAe]; exact Or.inr h
  have hS : va_S A s.heap s.heap [] := va_S.rf
  have hR : RM w [2] I J I J := RM.rf
  obtain ⟨hML, hMD, hMU⟩ := hI
  refine lv_iload_n hx hb dX7_create_0 rfl (lv_at hl 2 rfl) ?_
  refine lv_bipush (v := 31) hx hb dX7_create_1 (by decide) ?_
  refine lv_iand hx hb dX7_create_3 ?_
  refine lv_topi (fun v631 ev631 => ?_)
  refine lv_istore (lv' := [(4, .int v631), (0, .ref (w 0)), (1, .int xp), (2, .int xr), (3, .int xl)]) hx hb dX7_create_4 hl (by decide) rfl (fun ls hl => ?_)
  refine lv_iload_n hx hb dX7_create_6 rfl (lv_at hl 2 rfl) ?_
  refine lv_i2l (v := xp.toInt64) hx hb dX7_create_7 rfl ?_
  refine lv_lconst (v := 0) hx hb dX7_create_8 (by decide) ?_
  refine lv_ldc2 hx hb hown (hts (.constantLong RX7 80 3) (by decide +kernel)) dX7_create_9 ?_
  refine vp_callSi (W.runS (As := [.long xp.toInt64, .long 0, .long 3]) (rest := []) ⟨hx, hb, hml, hown, hts⟩ (c_X7_in l xp.toInt64 0 3) (va_cwS 3 hts gX7_create_X7_in rfl rfl rfl (by decide +kernel) ⟨Nat.le_of_ble_eq_true rfl, Nat.le_of_ble_eq_true rfl⟩) preEq rfl rfl hl.1 rfl (lv_room (Nat.le_of_ble_eq_true rfl)) dX7_create_12 ⟨Nat.le_of_ble_eq_true rfl, Nat.le_of_ble_eq_true rfl⟩) (fun r632 hr632 => ?_)
  subst hr632
  refine lv_if_eq (tgt := 42) hx hb dX7_create_15 (by decide) (fun c633 => ?_) (fun c633 => ?_)
  · refine lv_iconst (v := (-1)) hx hb dX7_create_42 (by decide) ?_
    exact W.iret (v := (-1)) hx hb hr (fun t ht hW => ⟨⟨(-1), (I, J), rfl, ⟨⟨hML.mono (by omega), hMD, hMU⟩, hR⟩, by rw [ht]; exact hP, va_K.moved hW.alike hK, hD⟩, hS.F ht⟩) hS.2.2 dX7_create_43
  · have hin634 : vp_in xp 4 := xin_sp c633 (by decide)
    refine lv_aload_n hx hb dX7_create_18 rfl (lv_at hl 1 rfl) ?_
    obtain ⟨j635, hj635⟩ := wG_7 (cy := cy) (N := N) (T := T) (I := I) (Q := Q) (J := J) (hM.at 0 (by decide)) (hM.k 0 (by decide) rfl)
    refine va_get (D := (dC, dI)) (ci := 7) (v := .ref (T (w 0) 1)) (C := RX7) (T := TX7) (N := 18) hx hb hts hi7 hown hK hP j635 hj635 rfl 1 (by decide) (hts (.fieldLink RX7 14 "TallyLogsModel" "there" "[Z") (by decide +kernel)) (fun _ h9 => h9) rfl dX7_create_19 ?_
    refine W.eq (g2 := F0 m 22 ls [.ref (w 2)]) (by rw [hM.t 1 (by decide)]) ?_
    refine lv_iload_n hx hb dX7_create_22 rfl (lv_at hl 2 rfl) ?_
    obtain ⟨j636, hj636⟩ := wG_21 (cy := cy) (N := N) (T := T) (I := I) (Q := Q) (J := J) (hM.at 2 (by decide)) (hM.k 2 (by decide) rfl)
    refine va_zald hx hb hK hP j636 0 hj636 rfl hin634 dX7_create_23 ?_
    refine lv_topi (fun x637 ex637 => ?_)
    refine lv_if_ne (tgt := 42) hx hb dX7_create_24 (by decide) (fun c638 => ?_) (fun c638 => ?_)
    · have kc638 : ¬ (x637.toInt = 0) := by have h9 := c638; rw [xk_eq, xk_0] at h9; exact h9
      refine lv_iconst (v := (-1)) hx hb dX7_create_42 (by decide) ?_
      exact W.iret (v := (-1)) hx hb hr (fun t ht hW => ⟨⟨(-1), (I, J), rfl, ⟨⟨hML.mono (by omega), hMD, hMU⟩, hR⟩, by rw [ht]; exact hP, va_K.moved hW.alike hK, hD⟩, hS.F ht⟩) hS.2.2 dX7_create_43
    · have kc638 : x637.toInt = 0 := by have h9 := c638; rw [xk_eq, xk_0] at h9; exact h9
      refine lv_iload_n hx hb dX7_create_27 rfl (lv_at hl 4 rfl) ?_
      refine lv_i2l (v := xl.toInt64) hx hb dX7_create_28 rfl ?_
      refine lv_lconst (v := 1) hx hb dX7_create_29 (by decide) ?_
      refine lv_iload hx hb dX7_create_30 (lv_at hl 0 rfl) ?_
      refine vp_callSi (W.runS (As := [.int v631]) (rest := [.long 1, .long xl.toInt64]) ⟨hx, hb, hml, hown, hts⟩ (c_J6_bitCount_0f7a4 l v631) (va_cwS 1 hts gX7_create_J6_bitCount_0f7a4 rfl rfl rfl (by decide +kernel) ⟨Nat.le_of_ble_eq_true rfl, Nat.le_of_ble_eq_true rfl⟩) preEq rfl rfl hl.1 rfl (lv_room (Nat.le_of_ble_eq_true rfl)) dX7_create_32 ⟨Nat.le_of_ble_eq_true rfl, Nat.le_of_ble_eq_true rfl⟩) (fun r639 hr639 => ?_)
      subst hr639
      refine lv_i2l (v := (sp_bc v631).toInt64) hx hb dX7_create_35 rfl ?_
      refine vp_callSi (W.runS (As := [.long xl.toInt64, .long 1, .long ((sp_bc v631).toInt64)]) (rest := []) ⟨hx, hb, hml, hown, hts⟩ (c_X7_in l xl.toInt64 1 ((sp_bc v631).toInt64)) (va_cwS 3 hts gX7_create_X7_in rfl rfl rfl (by decide +kernel) ⟨Nat.le_of_ble_eq_true rfl, Nat.le_of_ble_eq_true rfl⟩) preEq rfl rfl hl.1 rfl (lv_room (Nat.le_of_ble_eq_true rfl)) dX7_create_36 ⟨Nat.le_of_ble_eq_true rfl, Nat.le_of_ble_eq_true rfl⟩) (fun r640 hr640 => ?_)
      subst hr640
      refine lv_if_ne (tgt := 44) hx hb dX7_create_39 (by decide) (fun c641 => ?_) (fun c641 => ?_)
      · refine lv_iload hx hb dX7_create_44 (lv_at hl 0 rfl) ?_
        refine lv_aload_n hx hb dX7_create_46 rfl (lv_at hl 1 rfl) ?_
        obtain ⟨j642, hj642⟩ := wG_7 (cy := cy) (N := N) (T := T) (I := I) (Q := Q) (J := J) (hM.at 0 (by decide)) (hM.k 0 (by decide) rfl)
        refine va_get (D := (dC, dI)) (ci := 7) (v := .int (I (w 0) 16)) (C := RX7) (T := TX7) (N := 18) hx hb hts hi7 hown hK hP j642 hj642 rfl 16 (by decide) (hts (.fieldLink RX7 61 "TallyLogsModel" "up" "I") (by decide +kernel)) (fun _ h9 => h9) rfl dX7_create_47 ?_
        refine lv_topi (fun x643 ex643 => ?_)
        have tx643 : x643.toInt = (I (w 0) 16).toInt := congrArg Int32.toInt ex643
        refine lv_iand hx hb dX7_create_50 ?_
        refine lv_topi (fun v644 ev644 => ?_)
        refine lv_if_ne (tgt := 57) hx hb dX7_create_51 (by decide) (fun c645 => ?_) (fun c645 => ?_)
        · have kc645 : ¬ (v644.toInt = 0) := by have h9 := c645; rw [xk_eq, xk_0] at h9; exact h9
          refine lv_aload_n hx hb dX7_create_57 rfl (lv_at hl 1 rfl) ?_
          obtain ⟨j646, hj646⟩ := wG_7 (cy := cy) (N := N) (T := T) (I := I) (Q := Q) (J := J) (hM.at 0 (by decide)) (hM.k 0 (by decide) rfl)
          refine va_get (D := (dC, dI)) (ci := 7) (v := .ref (T (w 0) 1)) (C := RX7) (T := TX7) (N := 18) hx hb hts hi7 hown hK hP j646 hj646 rfl 1 (by decide) (hts (.fieldLink RX7 14 "TallyLogsModel" "there" "[Z") (by decide +kernel)) (fun _ h9 => h9) rfl dX7_create_58 ?_
          refine W.eq (g2 := F0 m 61 ls [.ref (w 2)]) (by rw [hM.t 1 (by decide)]) ?_
          refine lv_iload_n hx hb dX7_create_61 rfl (lv_at hl 2 rfl) ?_
          refine lv_iconst (v := 1) hx hb dX7_create_62 (by decide) ?_
          obtain ⟨j647, hj647⟩ := wG_21 (cy := cy) (N := N) (T := T) (I := I) (Q := Q) (J := J) (hM.at 2 (by decide)) (hM.k 2 (by decide) rfl)
          have hDo := hD
          refine va_zast (x := 1) hx hb hK hP hD hS j647 0 hj647 rfl hin634 dX7_create_63 (fun H locs hP hD hS => ?_)
          have hP := Eq.mp (congrArg (fun w => va_P (dC, dI) vwCl w H) (wS_21 hDo (hM.at 2 (by decide)) (hM.k 2 (by decide) rfl) hj647)) hP
          obtain ⟨J648, eJ648⟩ : ∃ z, z = va_up J (w 2) (upd (J (w 2)) xp.toNatClampNeg (vp_nar .boolean 1)) := ⟨_, rfl⟩
          rw [← eJ648] at hP
          have hR : RM w [2] I J I J648 := by rw [eJ648]; exact hR.pj hM (by decide) (by decide)
          have hMD : MD w J648 := by rw [eJ648]; exact hMD.pj hM (by decide) (by decide)
          have hD : va_D A (va_pl L (wF cy K N T I Q J648)) := pD hDo
          refine lv_aload_n hx hb dX7_create_64 rfl (lv_at hl 1 rfl) ?_
          obtain ⟨j649, hj649⟩ := wG_7 (cy := cy) (N := N) (T := T) (I := I) (Q := Q) (J := J648) (hM.at 0 (by decide)) (hM.k 0 (by decide) rfl)
          refine va_get (D := (dC, dI)) (ci := 7) (v := .ref (T (w 0) 2)) (C := RX7) (T := TX7) (N := 18) hx hb hts hi7 hown hK hP j649 hj649 rfl 2 (by decide) (hts (.fieldLink RX7 18 "TallyLogsModel" "replicas" "[I") (by decide +kernel)) (fun _ h9 => h9) rfl dX7_create_65 ?_
          refine W.eq (g2 := F0 m 68 ls [.ref (w 3)]) (by rw [hM.t 2 (by decide)]) ?_
          refine lv_iload_n hx hb dX7_create_68 rfl (lv_at hl 2 rfl) ?_
          refine lv_iload hx hb dX7_create_69 (lv_at hl 0 rfl) ?_
          obtain ⟨j650, hj650⟩ := wG_20 (cy := cy) (N := N) (T := T) (I := I) (Q := Q) (J := J648) (hM.at 3 (by decide)) (hM.k 3 (by decide) rfl)
          have hDo := hD
          refine va_iast (x := v631) hx hb hK hP hD hS j650 1 hj650 rfl (hM.inN (n := 4) 3 (by decide) rfl rfl hin634) dX7_create_71 (fun H locs hP hD hS => ?_)
          have hP := Eq.mp (congrArg (fun w => va_P (dC, dI) vwCl w H) (wS_20 hDo (hM.at 3 (by decide)) (hM.k 3 (by decide) rfl) hj650)) hP
          obtain ⟨J651, eJ651⟩ : ∃ z, z = va_up J648 (w 3) (upd (J648 (w 3)) xp.toNatClampNeg v631) := ⟨_, rfl⟩
          rw [← eJ651] at hP
          have hR : RM w [2] I J I J651 := by rw [eJ651]; exact hR.pj hM (by decide) (by decide)
          have hMD : MD w J651 := by rw [eJ651]; exact hMD.pj hM (by decide) (by decide)
          have hD : va_D A (va_pl L (wF cy K N T I Q J651)) := pD hDo
          refine lv_aload_n hx hb dX7_create_72 rfl (lv_at hl 1 rfl) ?_
          obtain ⟨j652, hj652⟩ := wG_7 (cy := cy) (N := N) (T := T) (I := I) (Q := Q) (J := J651) (hM.at 0 (by decide)) (hM.k 0 (by decide) rfl)
          refine va_get (D := (dC, dI)) (ci := 7) (v := .ref (T (w 0) 5)) (C := RX7) (T := TX7) (N := 18) hx hb hts hi7 hown hK hP j652 hj652 rfl 5 (by decide) (hts (.fieldLink RX7 28 "TallyLogsModel" "min" "[I") (by decide +kernel)) (fun _ h9 => h9) rfl dX7_create_73 ?_
          refine W.eq (g2 := F0 m 76 ls [.ref (w 6)]) (by rw [hM.t 5 (by decide)]) ?_
          refine lv_iload_n hx hb dX7_create_76 rfl (lv_at hl 2 rfl) ?_
          refine lv_iload_n hx hb dX7_create_77 rfl (lv_at hl 4 rfl) ?_
          obtain ⟨j653, hj653⟩ := wG_20 (cy := cy) (N := N) (T := T) (I := I) (Q := Q) (J := J651) (hM.at 6 (by decide)) (hM.k 6 (by decide) rfl)
          have hDo := hD
          refine va_iast (x := xl) hx hb hK hP hD hS j653 1 hj653 rfl (hM.inN (n := 4) 6 (by decide) rfl rfl hin634) dX7_create_78 (fun H locs hP hD hS => ?_)
          have hP := Eq.mp (congrArg (fun w => va_P (dC, dI) vwCl w H) (wS_20 hDo (hM.at 6 (by decide)) (hM.k 6 (by decide) rfl) hj653)) hP
          obtain ⟨J654, eJ654⟩ : ∃ z, z = va_up J651 (w 6) (upd (J651 (w 6)) xp.toNatClampNeg xl) := ⟨_, rfl⟩
          rw [← eJ654] at hP
          have hR : RM w [2] I J I J654 := by rw [eJ654]; exact hR.pj hM (by decide) (by decide)
          have hMD : MD w J654 := by rw [eJ654]; exact hMD.pj hM (by decide) (by decide)
          have hD : va_D A (va_pl L (wF cy K N T I Q J654)) := pD hDo
          refine lv_aload_n hx hb dX7_create_79 rfl (lv_at hl 1 rfl) ?_
          obtain ⟨j655, hj655⟩ := wG_7 (cy := cy) (N := N) (T := T) (I := I) (Q := Q) (J := J654) (hM.at 0 (by decide)) (hM.k 0 (by decide) rfl)
          refine va_get (D := (dC, dI)) (ci := 7) (v := .ref (T (w 0) 4)) (C := RX7) (T := TX7) (N := 18) hx hb hts hi7 hown hK hP j655 hj655 rfl 4 (by decide) (hts (.fieldLink RX7 25 "TallyLogsModel" "epoch" "[I") (by decide +kernel)) (fun _ h9 => h9) rfl dX7_create_80 ?_
          refine W.eq (g2 := F0 m 83 ls [.ref (w 5)]) (by rw [hM.t 4 (by decide)]) ?_
          refine lv_iload_n hx hb dX7_create_83 rfl (lv_at hl 2 rfl) ?_
          refine lv_iconst (v := 0) hx hb dX7_create_84 (by decide) ?_
          obtain ⟨j656, hj656⟩ := wG_20 (cy := cy) (N := N) (T := T) (I := I) (Q := Q) (J := J654) (hM.at 5 (by decide)) (hM.k 5 (by decide) rfl)
          have hDo := hD
          refine va_iast (x := 0) hx hb hK hP hD hS j656 1 hj656 rfl (hM.inN (n := 4) 5 (by decide) rfl rfl hin634) dX7_create_85 (fun H locs hP hD hS => ?_)
          have hP := Eq.mp (congrArg (fun w => va_P (dC, dI) vwCl w H) (wS_20 hDo (hM.at 5 (by decide)) (hM.k 5 (by decide) rfl) hj656)) hP
          obtain ⟨J657, eJ657⟩ : ∃ z, z = va_up J654 (w 5) (upd (J654 (w 5)) xp.toNatClampNeg 0) := ⟨_, rfl⟩
          rw [← eJ657] at hP
          have hR : RM w [2] I J I J657 := by rw [eJ657]; exact hR.pj hM (by decide) (by decide)
          have hMD : MD w J657 := by rw [eJ657]; exact hMD.pj hM (by decide) (by decide)
          have hD : va_D A (va_pl L (wF cy K N T I Q J657)) := pD hDo
          refine lv_aload_n hx hb dX7_create_86 rfl (lv_at hl 1 rfl) ?_
          obtain ⟨j658, hj658⟩ := wG_7 (cy := cy) (N := N) (T := T) (I := I) (Q := Q) (J := J657) (hM.at 0 (by decide)) (hM.k 0 (by decide) rfl)
          refine va_get (D := (dC, dI)) (ci := 7) (v := .ref (T (w 0) 6)) (C := RX7) (T := TX7) (N := 18) hx hb hts hi7 hown hK hP j658 hj658 rfl 6 (by decide) (hts (.fieldLink RX7 31 "TallyLogsModel" "step" "[I") (by decide +kernel)) (fun _ h9 => h9) rfl dX7_create_87 ?_
          refine W.eq (g2 := F0 m 90 ls [.ref (w 7)]) (by rw [hM.t 6 (by decide)]) ?_
          refine lv_iload_n hx hb dX7_create_90 rfl (lv_at hl 2 rfl) ?_
          refine lv_iload hx hb dX7_create_91 (lv_at hl 0 rfl) ?_
          refine lv_aload_n hx hb dX7_create_93 rfl (lv_at hl 1 rfl) ?_
          obtain ⟨j659, hj659⟩ := wG_7 (cy := cy) (N := N) (T := T) (I := I) (Q := Q) (J := J657) (hM.at 0 (by decide)) (hM.k 0 (by decide) rfl)
          refine va_get (D := (dC, dI)) (ci := 7) (v := .int (I (w 0) 16)) (C := RX7) (T := TX7) (N := 18) hx hb hts hi7 hown hK hP j659 hj659 rfl 16 (by decide) (hts (.fieldLink RX7 61 "TallyLogsModel" "up" "I") (by decide +kernel)) (fun _ h9 => h9) rfl dX7_create_94 ?_
          refine lv_topi (fun x660 ex660 => ?_)
          have tx660 : x660.toInt = (I (w 0) 16).toInt := congrArg Int32.toInt ex660
          refine lv_iand hx hb dX7_create_97 ?_
          refine lv_topi (fun v661 ev661 => ?_)
          obtain ⟨j662, hj662⟩ := wG_20 (cy := cy) (N := N) (T := T) (I := I) (Q := Q) (J := J657) (hM.at 7 (by decide)) (hM.k 7 (by decide) rfl)
          have hDo := hD
          refine va_iast (x := v661) hx hb hK hP hD hS j662 1 hj662 rfl (hM.inN (n := 4) 7 (by decide) rfl rfl hin634) dX7_create_98 (fun H locs hP hD hS => ?_)
          have hP := Eq.mp (congrArg (fun w => va_P (dC, dI) vwCl w H) (wS_20 hDo (hM.at 7 (by decide)) (hM.k 7 (by decide) rfl) hj662)) hP
          obtain ⟨J663, eJ663⟩ : ∃ z, z = va_up J657 (w 7) (upd (J657 (w 7)) xp.toNatClampNeg v661) := ⟨_, rfl⟩
          rw [← eJ663] at hP
          have hR : RM w [2] I J I J663 := by rw [eJ663]; exact hR.pj hM (by decide) (by decide)
          have hD : va_D A (va_pl L (wF cy K N T I Q J663)) := pD hDo
          refine lv_aload_n hx hb dX7_create_99 rfl (lv_at hl 1 rfl) ?_
          obtain ⟨j664, hj664⟩ := wG_7 (cy := cy) (N := N) (T := T) (I := I) (Q := Q) (J := J663) (hM.at 0 (by decide)) (hM.k 0 (by decide) rfl)
          refine va_get (D := (dC, dI)) (ci := 7) (v := .ref (T (w 0) 3)) (C := RX7) (T := TX7) (N := 18) hx hb hts hi7 hown hK hP j664 hj664 rfl 3 (by decide) (hts (.fieldLink RX7 22 "TallyLogsModel" "leader" "[I") (by decide +kernel)) (fun _ h9 => h9) rfl dX7_create_100 ?_
          refine W.eq (g2 := F0 m 103 ls [.ref (w 4)]) (by rw [hM.t 3 (by decide)]) ?_
          refine lv_iload_n hx hb dX7_create_103 rfl (lv_at hl 2 rfl) ?_
          refine lv_aload_n hx hb dX7_create_104 rfl (lv_at hl 1 rfl) ?_
          obtain ⟨j665, hj665⟩ := wG_7 (cy := cy) (N := N) (T := T) (I := I) (Q := Q) (J := J663) (hM.at 0 (by decide)) (hM.k 0 (by decide) rfl)
          refine va_get (D := (dC, dI)) (ci := 7) (v := .ref (T (w 0) 6)) (C := RX7) (T := TX7) (N := 18) hx hb hts hi7 hown hK hP j665 hj665 rfl 6 (by decide) (hts (.fieldLink RX7 31 "TallyLogsModel" "step" "[I") (by decide +kernel)) (fun _ h9 => h9) rfl dX7_create_105 ?_
          refine W.eq (g2 := F0 m 108 ls [.ref (w 7), .int xp, .ref (w 4)]) (by rw [hM.t 6 (by decide)]) ?_
          refine lv_iload_n hx hb dX7_create_108 rfl (lv_at hl 2 rfl) ?_
          obtain ⟨j666, hj666⟩ := wG_20 (cy := cy) (N := N) (T := T) (I := I) (Q := Q) (J := J663) (hM.at 7 (by decide)) (hM.k 7 (by decide) rfl)
          refine va_iald hx hb hK hP j666 1 hj666 rfl (hM.inN (n := 4) 7 (by decide) rfl rfl hin634) dX7_create_109 ?_
          refine lv_topi (fun x667 ex667 => ?_)
          refine vp_callSi (W.runS (As := [.int x667]) (rest := [.int xp, .ref (w 4)]) ⟨hx, hb, hml, hown, hts⟩ (c_J6_numberOfTrailingZeros_0f7a4 l x667) (va_cwS 1 hts gX7_create_J6_numberOfTrailingZeros_0f7a4 rfl rfl rfl (by decide +kernel) ⟨Nat.le_of_ble_eq_true rfl, Nat.le_of_ble_eq_true rfl⟩) preEq rfl rfl hl.1 rfl (lv_room (Nat.le_of_ble_eq_true rfl)) dX7_create_110 ⟨Nat.le_of_ble_eq_true rfl, Nat.le_of_ble_eq_true rfl⟩) (fun r668 hr668 => ?_)
          subst hr668
          obtain ⟨j669, hj669⟩ := wG_20 (cy := cy) (N := N) (T := T) (I := I) (Q := Q) (J := J663) (hM.at 4 (by decide)) (hM.k 4 (by decide) rfl)
          have hDo := hD
          refine va_iast (x := (sp_nz x667)) hx hb hK hP hD hS j669 1 hj669 rfl (hM.inN (n := 4) 4 (by decide) rfl rfl hin634) dX7_create_113 (fun H locs hP hD hS => ?_)
          have hP := Eq.mp (congrArg (fun w => va_P (dC, dI) vwCl w H) (wS_20 hDo (hM.at 4 (by decide)) (hM.k 4 (by decide) rfl) hj669)) hP
          obtain ⟨J670, eJ670⟩ : ∃ z, z = va_up J663 (w 4) (upd (J663 (w 4)) xp.toNatClampNeg (sp_nz x667)) := ⟨_, rfl⟩
          rw [← eJ670] at hP
          have hR : RM w [2] I J I J670 := by rw [eJ670]; exact hR.pj hM (by decide) (by decide)
          have esx667 : x667 = v661 := by rw [ex667, eJ663, va_up_self]; simp only [upd, if_true]
          have hMD : MD w J670 := by
            rw [eJ670, eJ663]
            refine MD.p4 hM (hMD.p7' hM) ?_
            rw [va_up_self]
            simp only [upd, if_true]
            rw [esx667]
            have hu9 : ∃ u : Nat, u < 32 ∧ v661 = nI u := by rw [ev661, ex660]; exact xu_and' hMU
            have h9 := xntz hu9 (fun q => c645 (by rw [← q, ev644, ev631, ex643, ev661, ev631, ex660]))
            exact Or.inr ⟨h9.1, h9.2.2⟩
          have hD : va_D A (va_pl L (wF cy K N T I Q J670)) := pD hDo
          refine lv_iconst (v := 0) hx hb dX7_create_114 (by decide) ?_
          refine lv_istore (lv' := [(5, .int 0), (4, .int v631), (0, .ref (w 0)), (1, .int xp), (2, .int xr), (3, .int xl)]) hx hb dX7_create_115 hl (by decide) rfl (fun ls hl => ?_)
          refine wq_gen (fun Qz hQz => ?_)
          have hLP671 : ∀ (n : Nat) (y672 : Int32) (Ia671 Ja671 : Nat → Nat → Int32) (H : Heap) (locs : List Loc) (ls : Array Slot), (5 - y672.toInt).toNat < n → 0 ≤ y672.toInt → (True) → RM w [2] I J Ia671 Ja671 → ML w E Ia671 → MD w Ja671 → MU w Ia671 →  va_P (dC, dI) vwCl (va_pl L (wF cy K N T Ia671 Q Ja671)) H → va_D A (va_pl L (wF cy K N T Ia671 Q Ja671)) → va_S A s.heap H locs → lv_has ls 6 [(5, .int y672), (4, .int v631), (0, .ref (w 0)), (1, .int xp), (2, .int xr), (3, .int xl)] → W p l e (headSpec wsX7_create ({ frames := 1, cells := 0, slots := 0, locals := 27 })).room s m ([.ref (w 0), .int xp, .int xr, .int xl] : List Value).toArray below meth c H locs 0 0 Qz (F0 m 117 ls []) := by
            intro n
            induction n with
            | zero => intro y672 Ia671 Ja671 H locs ls hms; exact absurd hms (Nat.not_lt_zero _)
            | succ n ih671 =>
              intro y672 Ia671 Ja671 H locs ls hms hnn671 hiv671 hR hML hMD hMU hP hD hS hl
              refine lv_iload hx hb dX7_create_117 (lv_at hl 0 rfl) ?_
              refine lv_iconst (v := 5) hx hb dX7_create_119 (by decide) ?_
              refine lv_icmp_ge (tgt := 158) hx hb dX7_create_120 (by decide) (fun c673 => ?_) (fun c673 => ?_)
              · have kc673 : 5 ≤ y672.toInt := by have h9 := c673; rw [xk_le, xk_5] at h9; exact h9
                refine lv_aload_n hx hb dX7_create_158 rfl (lv_at hl 2 rfl) ?_
                obtain ⟨j674, hj674⟩ := wG_7 (cy := cy) (N := N) (T := T) (I := Ia671) (Q := Q) (J := Ja671) (hM.at 0 (by decide)) (hM.k 0 (by decide) rfl)
                refine va_get (D := (dC, dI)) (ci := 7) (v := .ref (T (w 0) 3)) (C := RX7) (T := TX7) (N := 18) hx hb hts hi7 hown hK hP j674 hj674 rfl 3 (by decide) (hts (.fieldLink RX7 22 "TallyLogsModel" "leader" "[I") (by decide +kernel)) (fun _ h9 => h9) rfl dX7_create_159 ?_
                refine W.eq (g2 := F0 m 162 ls [.ref (w 4)]) (by rw [hM.t 3 (by decide)]) ?_
                refine lv_iload_n hx hb dX7_create_162 rfl (lv_at hl 3 rfl) ?_
                obtain ⟨j675, hj675⟩ := wG_20 (cy := cy) (N := N) (T := T) (I := Ia671) (Q := Q) (J := Ja671) (hM.at 4 (by decide)) (hM.k 4 (by decide) rfl)
                refine va_iald hx hb hK hP j675 1 hj675 rfl (hM.inN (n := 4) 4 (by decide) rfl rfl hin634) dX7_create_163 ?_
                refine lv_topi (fun x676 ex676 => ?_)
                rw [hQz]
                exact W.iret (v := x676) hx hb hr (fun t ht hW => ⟨⟨x676, (Ia671, Ja671), rfl, ⟨⟨hML.mono (by omega), hMD, hMU⟩, hR⟩, by rw [ht]; exact hP, va_K.moved hW.alike hK, hD⟩, hS.F ht⟩) hS.2.2 dX7_create_164
              · have kc673 : ¬ (5 ≤ y672.toInt) := by have h9 := c673; rw [xk_le, xk_5] at h9; exact h9
                refine lv_aload_n hx hb dX7_create_123 rfl (lv_at hl 2 rfl) ?_
                obtain ⟨j677, hj677⟩ := wG_7 (cy := cy) (N := N) (T := T) (I := Ia671) (Q := Q) (J := Ja671) (hM.at 0 (by decide)) (hM.k 0 (by decide) rfl)
                refine va_get (D := (dC, dI)) (ci := 7) (v := .ref (T (w 0) 0)) (C := RX7) (T := TX7) (N := 18) hx hb hts hi7 hown hK hP j677 hj677 rfl 0 (by decide) (hts (.fieldLink RX7 11 "TallyLogsModel" "log" "[[LTallyLogsModel$Log;") (by decide +kernel)) (fun _ h9 => h9) rfl dX7_create_124 ?_
                refine W.eq (g2 := F0 m 127 ls [.ref (w 1)]) (by rw [hM.t 0 (by decide)]) ?_
                refine lv_iload_n hx hb dX7_create_127 rfl (lv_at hl 3 rfl) ?_
                obtain ⟨j678, hj678⟩ := wG_22 (cy := cy) (N := N) (T := T) (I := Ia671) (Q := Q) (J := Ja671) (hM.at 1 (by decide)) (hM.k 1 (by decide) rfl)
                refine xg_aldg hx hb hK hP j678 2 hj678 rfl hin634 dX7_create_128 ?_
                refine W.eq (g2 := F0 m 129 ls [.ref (w (17 + xp.toNatClampNeg))]) (by rw [hM.qo (vp_lt (n := 4) hin634)]; rfl) ?_
                refine lv_iload hx hb dX7_create_129 (lv_at hl 0 rfl) ?_
                obtain ⟨j679, hj679⟩ := wG_23 (cy := cy) (N := N) (T := T) (I := Ia671) (Q := Q) (J := Ja671) (hM.row (vp_lt (n := 4) hin634)).1 (hM.row (vp_lt (n := 4) hin634)).2
                refine va_aldq hx hb hK hP j679 3 hj679 rfl (xin_of hnn671 (by have kc := c673; simp only [xk_lt, xk_le, xk_0, xk_1, xk_2, xk_3, xk_4, xk_5, xk_6, xk_7, xk_8, xk_50] at kc; omega)) dX7_create_131 ?_
                have hjl680 : (5 * xp.toNatClampNeg + y672.toNatClampNeg) < 20 := by have h1 := (vp_lt (n := 4) hin634); have h2 := (vp_lt (n := 5) (xin_of hnn671 (by have kc := c673; simp only [xk_lt, xk_le, xk_0, xk_1, xk_2, xk_3, xk_4, xk_5, xk_6, xk_7, xk_8, xk_50] at kc; omega))); omega
                refine W.eq (g2 := F0 m 132 ls [.ref (w (21 + (5 * xp.toNatClampNeg + y672.toNatClampNeg)))]) (by rw [hM.qr (vp_lt (n := 4) hin634) (vp_lt (n := 5) (xin_of hnn671 (by have kc := c673; simp only [xk_lt, xk_le, xk_0, xk_1, xk_2, xk_3, xk_4, xk_5, xk_6, xk_7, xk_8, xk_50] at kc; omega)))]; rfl) ?_
                refine lv_aload_n hx hb dX7_create_132 rfl (lv_at hl 2 rfl) ?_
                obtain ⟨j681, hj681⟩ := wG_7 (cy := cy) (N := N) (T := T) (I := Ia671) (Q := Q) (J := Ja671) (hM.at 0 (by decide)) (hM.k 0 (by decide) rfl)
                refine va_get (D := (dC, dI)) (ci := 7) (v := .int (Ia671 (w 0) 17)) (C := RX7) (T := TX7) (N := 18) hx hb hts hi7 hown hK hP j681 hj681 rfl 17 (by decide) (hts (.fieldLink RX7 119 "TallyLogsModel" "now" "I") (by decide +kernel)) (fun _ h9 => h9) rfl dX7_create_133 ?_
                refine lv_topi (fun x682 ex682 => ?_)
                have tx682 : x682.toInt = (Ia671 (w 0) 17).toInt := congrArg Int32.toInt ex682
                obtain ⟨j683, hj683⟩ := wG_6 (cy := cy) (N := N) (T := T) (I := Ia671) (Q := Q) (J := Ja671) (hM.lg hjl680).1 (hM.lg hjl680).2
                have hDo := hD
                refine va_put (D := (dC, dI)) (ci := 6) (v := .int x682) (ty := .int) (C := RX6) (T := TX6) (N := 7) hx hb hts hi6 tyX6 tyX6_ok nmX6 hown hK hP hD hS j683 hj683 rfl 6 (by decide) (hts (.fieldLink RX7 122 "TallyLogsModel$Log" "caught" "I") (by decide +kernel)) (fun _ h9 => h9) rfl (by decide +kernel) rfl rfl (Nat.le_of_ble_eq_true rfl) dX7_create_136 (fun H locs hP hD hS => ?_)
                have hP := Eq.mp (congrArg (fun w => va_P (dC, dI) vwCl w H) (wP_6_6 (x := x682) hDo (hM.lg hjl680).1 (hM.lg hjl680).2 hj683)) hP
                obtain ⟨I684, eI684⟩ : ∃ z, z = p2 Ia671 (w (21 + (5 * xp.toNatClampNeg + y672.toNatClampNeg))) 6 x682 := ⟨_, rfl⟩
                rw [← eI684] at hP
                have hD : va_D A (va_pl L (wF cy K N T I684 Q Ja671)) := pD hDo
                have hR : RM w [2] I J I684 Ja671 := by rw [eI684]; exact hR.pl hM hjl680
                have hMU : MU w I684 := by rw [eI684]; exact hMU.pl hM hjl680
                have hML : ML w E I684 := by rw [eI684]; exact hML.p56 hM hjl680 (by decide)
                refine lv_aload_n hx hb dX7_create_139 rfl (lv_at hl 2 rfl) ?_
                obtain ⟨j685, hj685⟩ := wG_7 (cy := cy) (N := N) (T := T) (I := I684) (Q := Q) (J := Ja671) (hM.at 0 (by decide)) (hM.k 0 (by decide) rfl)
                refine va_get (D := (dC, dI)) (ci := 7) (v := .ref (T (w 0) 0)) (C := RX7) (T := TX7) (N := 18) hx hb hts hi7 hown hK hP j685 hj685 rfl 0 (by decide) (hts (.fieldLink RX7 11 "TallyLogsModel" "log" "[[LTallyLogsModel$Log;") (by decide +kernel)) (fun _ h9 => h9) rfl dX7_create_140 ?_
                refine W.eq (g2 := F0 m 143 ls [.ref (w 1)]) (by rw [hM.t 0 (by decide)]) ?_
                refine lv_iload_n hx hb dX7_create_143 rfl (lv_at hl 3 rfl) ?_
                obtain ⟨j686, hj686⟩ := wG_22 (cy := cy) (N := N) (T := T) (I := I684) (Q := Q) (J := Ja671) (hM.at 1 (by decide)) (hM.k 1 (by decide) rfl)
                refine xg_aldg hx hb hK hP j686 2 hj686 rfl hin634 dX7_create_144 ?_
                refine W.eq (g2 := F0 m 145 ls [.ref (w (17 + xp.toNatClampNeg))]) (by rw [hM.qo (vp_lt (n := 4) hin634)]; rfl) ?_
                refine lv_iload hx hb dX7_create_145 (lv_at hl 0 rfl) ?_
                obtain ⟨j687, hj687⟩ := wG_23 (cy := cy) (N := N) (T := T) (I := I684) (Q := Q) (J := Ja671) (hM.row (vp_lt (n := 4) hin634)).1 (hM.row (vp_lt (n := 4) hin634)).2
                refine va_aldq hx hb hK hP j687 3 hj687 rfl (xin_of hnn671 (by have kc := c673; simp only [xk_lt, xk_le, xk_0, xk_1, xk_2, xk_3, xk_4, xk_5, xk_6, xk_7, xk_8, xk_50] at kc; omega)) dX7_create_147 ?_
                have hjl688 : (5 * xp.toNatClampNeg + y672.toNatClampNeg) < 20 := by have h1 := (vp_lt (n := 4) hin634); have h2 := (vp_lt (n := 5) (xin_of hnn671 (by have kc := c673; simp only [xk_lt, xk_le, xk_0, xk_1, xk_2, xk_3, xk_4, xk_5, xk_6, xk_7, xk_8, xk_50] at kc; omega))); omega
                refine W.eq (g2 := F0 m 148 ls [.ref (w (21 + (5 * xp.toNatClampNeg + y672.toNatClampNeg)))]) (by rw [hM.qr (vp_lt (n := 4) hin634) (vp_lt (n := 5) (xin_of hnn671 (by have kc := c673; simp only [xk_lt, xk_le, xk_0, xk_1, xk_2, xk_3, xk_4, xk_5, xk_6, xk_7, xk_8, xk_50] at kc; omega)))]; rfl) ?_
                refine lv_iconst (v := 0) hx hb dX7_create_148 (by decide) ?_
                obtain ⟨j689, hj689⟩ := wG_6 (cy := cy) (N := N) (T := T) (I := I684) (Q := Q) (J := Ja671) (hM.lg hjl688).1 (hM.lg hjl688).2
                have hDo := hD
                refine va_put (D := (dC, dI)) (ci := 6) (v := .int 0) (ty := .int) (C := RX6) (T := TX6) (N := 7) hx hb hts hi6 tyX6 tyX6_ok nmX6 hown hK hP hD hS j689 hj689 rfl 5 (by decide) (hts (.fieldLink RX7 92 "TallyLogsModel$Log" "known" "I") (by decide +kernel)) (fun _ h9 => h9) rfl (by decide +kernel) rfl rfl (Nat.le_of_ble_eq_true rfl) dX7_create_149 (fun H locs hP hD hS => ?_)
                have hP := Eq.mp (congrArg (fun w => va_P (dC, dI) vwCl w H) (wP_6_5 (x := 0) hDo (hM.lg hjl688).1 (hM.lg hjl688).2 hj689)) hP
                obtain ⟨I690, eI690⟩ : ∃ z, z = p2 I684 (w (21 + (5 * xp.toNatClampNeg + y672.toNatClampNeg))) 5 0 := ⟨_, rfl⟩
                rw [← eI690] at hP
                have hD : va_D A (va_pl L (wF cy K N T I690 Q Ja671)) := pD hDo
                have hR : RM w [2] I J I690 Ja671 := by rw [eI690]; exact hR.pl hM hjl688
                have hMU : MU w I690 := by rw [eI690]; exact hMU.pl hM hjl688
                have hML : ML w E I690 := by rw [eI690]; exact hML.p56 hM hjl688 (by decide)
                obtain ⟨v691, ev691⟩ : ∃ y : Int32, y = y672 + Int32.ofInt 1 := ⟨_, rfl⟩
                refine lv_iinc (v := v691) (lv' := [(5, .int v691), (4, .int v631), (0, .ref (w 0)), (1, .int xp), (2, .int xr), (3, .int xl)]) hx hb dX7_create_152 hl (k := 0) rfl ev691.symm (by decide) rfl (fun ls hl => ?_)
                refine lv_goto (tgt := 117) hx hb dX7_create_155 (by decide) ?_
                have tv691 : v691.toInt = y672.toInt + 1 := by rw [ev691, show y672 + Int32.ofInt 1 = y672 + 1 from rfl]; exact xinc (y := (5 : Int32)) (by rw [xk_lt, xk_5]; omega)
                exact ih671 _ _ _ _ _ _ (by omega) (by omega) (trivial) hR (hML.mono (by omega)) hMD hMU hP hD hS (lv_sub hl [0, 1, 2, 3, 4, 5] rfl)
          exact hLP671 _ _ _ _ _ _ _ (Nat.lt_succ_self _) (by decide) (trivial) hR (hML.mono (by omega)) hMD hMU hP hD hS (lv_sub hl [0, 1, 2, 3, 4, 5] rfl)
        · have kc645 : v644.toInt = 0 := by have h9 := c645; rw [xk_eq, xk_0] at h9; exact h9
          refine lv_bipush (v := (-2)) hx hb dX7_create_54 (by decide) ?_
          exact W.iret (v := (-2)) hx hb hr (fun t ht hW => ⟨⟨(-2), (I, J), rfl, ⟨⟨hML.mono (by omega), hMD, hMU⟩, hR⟩, by rw [ht]; exact hP, va_K.moved hW.alike hK, hD⟩, hS.F ht⟩) hS.2.2 dX7_create_56
      · refine lv_iconst (v := (-1)) hx hb dX7_create_42 (by decide) ?_
        exact W.iret (v := (-1)) hx hb hr (fun t ht hW => ⟨⟨(-1), (I, J), rfl, ⟨⟨hML.mono (by omega), hMD, hMU⟩, hR⟩, by rw [ht]; exact hP, va_K.moved hW.alike hK, hD⟩, hS.F ht⟩) hS.2.2 dX7_create_43
set_option maxHeartbeats 4000000 in
set_option maxRecDepth 100000 in
/-- elect -/
theorem c_X7_elect (l : Launch) (dC : Nat → ClassId) (dI : Nat → Nat → Nat) (cy : Nat → ClassId) (w : Nat → Nat) (L : List Nat) (K N : Nat → Nat) (T : Nat → Nat → Nat) (Q : Nat → Nat → Option Nat) (I J : Nat → Nat → Int32) (sz : Nat) (E : Int) (xp : Int32) (un : Int32) (hM : MS w L K N T Q) (hI : MI w E I J) (hE : E ≤ 1000) : Met l yX7_elect wsX7_elect ({ frames := 4, cells := 0, slots := 0, locals := 99 }) (va_Pc [.ref (w 0), .int xp, .int un] (mW dC dI cy L (wF cy K N T I Q J) sz)) (va_Qi (fun (r : Int32) (d : (Nat → Nat → Int32) × (Nat → Nat → Int32)) => MI w (E + 5) d.1 d.2 ∧ RM w [] I J d.1 d.2) (fun (d : (Nat → Nat → Int32) × (Nat → Nat → Int32)) t => va_P (dC, dI) vwCl (va_pl L (wF cy K N T d.1 Q d.2)) t.heap ∧ va_K (dC, dI) vwCl (mTy cy) t ∧ va_D (va_A (va_pl L (wF cy K N T I Q J)) sz) (va_pl L (wF cy K N T d.1 Q d.2))) (va_A (va_pl L (wF cy K N T I Q J)) sz)) 0 0 (va_A (va_pl L (wF cy K N T I Q J)) sz) := by
  refine Met.ofW (cc := cX7_elect) (maxL := 6) (ret := (some .int)) (by decide) rfl ?_
  intro p e s m args below meth c s₁ B hml hv
  obtain ⟨rfl, hsz, ⟨hP, hK⟩, hD0⟩ := hv
  have hx := B.exec
  have hb := B.bytes
  have hr := B.returns
  have hts := atoms_spec (ws := wsX7_elect) B.pre
  have hown : s.vm.findClass RX7 = some m.cls := findClass_of_methodNamed B.named
  have hlocks := B.notSynchronized
  have hi7 : ∀ w ∈ wsX70, w ∈ wsX7_elect := by decide +kernel
  have hi6 : ∀ w ∈ wsX60, w ∈ wsX7_elect := by decide +kernel
  have hl := lv_entry ([.ref (w 0), .int xp, .int un]) (n := 6) (Nat.le_of_ble_eq_true rfl)
  rw [lg_entry_eq]
  generalize (lg_sl ([.ref (w 0), .int xp, .int un]) ++ List.replicate (6 - (lg_sl ([.ref (w 0), .int xp, .int un])).length) Slot.unset).toArray = ls at hl ⊢
  have hl : lv_has ls 6 [(0, .ref (w 0)), (1, .int xp), (2, .int un)] := hl
  subst hsz
  have hD := hD0.self (sz := s.heap.size)
  generalize hAe : va_A (va_pl L (wF cy K N T I Q J)) s.heap.size = A at hD ⊢
  have hA : ∀ q : Nat, s.heap.size ≤ q → A q := fun q h => by rw [← hAe]; exact Or.inr h
  have hS : va_S A s.heap s.heap [] := va_S.rf
  have hR : RM w [] I J I J := RM.rf
  obtain ⟨hML, hMD, hMU⟩ := hI
  refine lv_aload_n hx hb dX7_elect_0 rfl (lv_at hl 0 rfl) ?_
  refine lv_iload_n hx hb dX7_elect_1 rfl (lv_at hl 1 rfl) ?_
  obtain ⟨j693, hj693⟩ := wG_7 (cy := cy) (N := N) (T := T) (I := I) (Q := Q) (J := J) (hM.at 0 (by decide)) (hM.k 0 (by decide) rfl)
  refine vp_callSi (W.runV (As := [.int xp]) (rest := []) ⟨hx, hb, hml, hown, hts⟩ (c_X7_isThere l dC dI cy w L K N T Q I J xp hM) (cwV 1 hts gX7_elect_X7_isThere rfl rfl rfl (by decide +kernel) ⟨Nat.le_of_ble_eq_true rfl, Nat.le_of_ble_eq_true rfl⟩) ⟨mb_blind, va_recv hK hP (ci := 7) (q0 := j693) rfl hj693, fun U hU hW => ⟨rfl, mb_pre hP hK hU hW⟩⟩ rfl rfl hl.1 rfl (lv_room (Nat.le_of_ble_eq_true rfl)) dX7_elect_2 ⟨Nat.le_of_ble_eq_true rfl, Nat.le_of_ble_eq_true rfl⟩) (fun r692 hr692 => ?_)
  refine lv_if_ne (tgt := 10) hx hb dX7_elect_5 (by decide) (fun c694 => ?_) (fun c694 => ?_)
  · have hth695 := sp_it1 (by rw [← hr692]; exact c694)
    have kc694 : ¬ (r692.toInt = 0) := by have h9 := c694; rw [xk_eq, xk_0] at h9; exact h9
    refine lv_aload_n hx hb dX7_elect_10 rfl (lv_at hl 0 rfl) ?_
    obtain ⟨j696, hj696⟩ := wG_7 (cy := cy) (N := N) (T := T) (I := I) (Q := Q) (J := J) (hM.at 0 (by decide)) (hM.k 0 (by decide) rfl)
    refine va_get (D := (dC, dI)) (ci := 7) (v := .ref (T (w 0) 6)) (C := RX7) (T := TX7) (N := 18) hx hb hts hi7 hown hK hP j696 hj696 rfl 6 (by decide) (hts (.fieldLink RX7 31 "TallyLogsModel" "step" "[I") (by decide +kernel)) (fun _ h9 => h9) rfl dX7_elect_11 ?_
    refine W.eq (g2 := F0 m 14 ls [.ref (w 7)]) (by rw [hM.t 6 (by decide)]) ?_
    refine lv_iload_n hx hb dX7_elect_14 rfl (lv_at hl 1 rfl) ?_
    obtain ⟨j697, hj697⟩ := wG_20 (cy := cy) (N := N) (T := T) (I := I) (Q := Q) (J := J) (hM.at 7 (by decide)) (hM.k 7 (by decide) rfl)
    refine va_iald hx hb hK hP j697 1 hj697 rfl (hM.inN (n := 4) 7 (by decide) rfl rfl hth695.1) dX7_elect_15 ?_
    refine lv_topi (fun x698 ex698 => ?_)
    refine lv_aload_n hx hb dX7_elect_16 rfl (lv_at hl 0 rfl) ?_
    obtain ⟨j699, hj699⟩ := wG_7 (cy := cy) (N := N) (T := T) (I := I) (Q := Q) (J := J) (hM.at 0 (by decide)) (hM.k 0 (by decide) rfl)
    refine va_get (D := (dC, dI)) (ci := 7) (v := .int (I (w 0) 16)) (C := RX7) (T := TX7) (N := 18) hx hb hts hi7 hown hK hP j699 hj699 rfl 16 (by decide) (hts (.fieldLink RX7 61 "TallyLogsModel" "up" "I") (by decide +kernel)) (fun _ h9 => h9) rfl dX7_elect_17 ?_
    refine lv_topi (fun x700 ex700 => ?_)
    have tx700 : x700.toInt = (I (w 0) 16).toInt := congrArg Int32.toInt ex700
    refine lv_iand hx hb dX7_elect_20 ?_
    refine lv_topi (fun v701 ev701 => ?_)
    refine lv_istore_n (lv' := [(3, .int v701), (0, .ref (w 0)), (1, .int xp), (2, .int un)]) hx hb dX7_elect_21 rfl hl (by decide) rfl (fun ls hl => ?_)
    refine lv_iload_n hx hb dX7_elect_22 rfl (lv_at hl 0 rfl) ?_
    refine lv_if_ne (tgt := 42) hx hb dX7_elect_23 (by decide) (fun c702 => ?_) (fun c702 => ?_)
    · have kc702 : ¬ (v701.toInt = 0) := by have h9 := c702; rw [xk_eq, xk_0] at h9; exact h9
      refine lv_iload_n hx hb dX7_elect_42 rfl (lv_at hl 0 rfl) ?_
      refine lv_if_ne (tgt := 49) hx hb dX7_elect_43 (by decide) (fun c703 => ?_) (fun c703 => ?_)
      · have kc703 : ¬ (v701.toInt = 0) := by have h9 := c703; rw [xk_eq, xk_0] at h9; exact h9
        have hmy704 := xntz (a := v701) (show ∃ u : Nat, u < 32 ∧ v701 = nI u by rw [ev701, ex700]; exact xu_and' hMU) c703
        refine lv_iload_n hx hb dX7_elect_49 rfl (lv_at hl 0 rfl) ?_
        refine vp_callSi (W.runS (As := [.int v701]) (rest := []) ⟨hx, hb, hml, hown, hts⟩ (c_J6_numberOfTrailingZeros_0f7a4 l v701) (va_cwS 1 hts gX7_elect_J6_numberOfTrailingZeros_0f7a4 rfl rfl rfl (by decide +kernel) ⟨Nat.le_of_ble_eq_true rfl, Nat.le_of_ble_eq_true rfl⟩) preEq rfl rfl hl.1 rfl (lv_room (Nat.le_of_ble_eq_true rfl)) dX7_elect_50 ⟨Nat.le_of_ble_eq_true rfl, Nat.le_of_ble_eq_true rfl⟩) (fun r705 hr705 => ?_)
        subst hr705
        refine lv_istore (lv' := [(4, .int (sp_nz v701)), (3, .int v701), (0, .ref (w 0)), (1, .int xp), (2, .int un)]) hx hb dX7_elect_53 hl (by decide) rfl (fun ls hl => ?_)
        refine lv_aload_n hx hb dX7_elect_55 rfl (lv_at hl 2 rfl) ?_
        obtain ⟨j706, hj706⟩ := wG_7 (cy := cy) (N := N) (T := T) (I := I) (Q := Q) (J := J) (hM.at 0 (by decide)) (hM.k 0 (by decide) rfl)
        refine va_get (D := (dC, dI)) (ci := 7) (v := .ref (T (w 0) 6)) (C := RX7) (T := TX7) (N := 18) hx hb hts hi7 hown hK hP j706 hj706 rfl 6 (by decide) (hts (.fieldLink RX7 31 "TallyLogsModel" "step" "[I") (by decide +kernel)) (fun _ h9 => h9) rfl dX7_elect_56 ?_
        refine W.eq (g2 := F0 m 59 ls [.ref (w 7)]) (by rw [hM.t 6 (by decide)]) ?_
        refine lv_iload_n hx hb dX7_elect_59 rfl (lv_at hl 3 rfl) ?_
        obtain ⟨j707, hj707⟩ := wG_20 (cy := cy) (N := N) (T := T) (I := I) (Q := Q) (J := J) (hM.at 7 (by decide)) (hM.k 7 (by decide) rfl)
        refine va_iald hx hb hK hP j707 1 hj707 rfl (hM.inN (n := 4) 7 (by decide) rfl rfl hth695.1) dX7_elect_60 ?_
        refine lv_topi (fun x708 ex708 => ?_)
        refine lv_iload hx hb dX7_elect_61 (lv_at hl 0 rfl) ?_
        refine lv_ishr hx hb dX7_elect_63 ?_
        refine lv_topi (fun v709 ev709 => ?_)
        refine lv_iconst (v := 1) hx hb dX7_elect_64 (by decide) ?_
        refine lv_iand hx hb dX7_elect_65 ?_
        refine lv_topi (fun v710 ev710 => ?_)
        refine lv_if_ne (tgt := 79) hx hb dX7_elect_66 (by decide) (fun c711 => ?_) (fun c711 => ?_)
        · have kc711 : ¬ (v710.toInt = 0) := by have h9 := c711; rw [xk_eq, xk_0] at h9; exact h9
          refine lv_aload_n hx hb dX7_elect_79 rfl (lv_at hl 2 rfl) ?_
          obtain ⟨j712, hj712⟩ := wG_7 (cy := cy) (N := N) (T := T) (I := I) (Q := Q) (J := J) (hM.at 0 (by decide)) (hM.k 0 (by decide) rfl)
          refine va_get (D := (dC, dI)) (ci := 7) (v := .ref (T (w 0) 3)) (C := RX7) (T := TX7) (N := 18) hx hb hts hi7 hown hK hP j712 hj712 rfl 3 (by decide) (hts (.fieldLink RX7 22 "TallyLogsModel" "leader" "[I") (by decide +kernel)) (fun _ h9 => h9) rfl dX7_elect_80 ?_
          refine W.eq (g2 := F0 m 83 ls [.ref (w 4)]) (by rw [hM.t 3 (by decide)]) ?_
          refine lv_iload_n hx hb dX7_elect_83 rfl (lv_at hl 3 rfl) ?_
          refine lv_iload hx hb dX7_elect_84 (lv_at hl 0 rfl) ?_
          obtain ⟨j713, hj713⟩ := wG_20 (cy := cy) (N := N) (T := T) (I := I) (Q := Q) (J := J) (hM.at 4 (by decide)) (hM.k 4 (by decide) rfl)
          have hDo := hD
          refine va_iast (x := (sp_nz v701)) hx hb hK hP hD hS j713 1 hj713 rfl (hM.inN (n := 4) 4 (by decide) rfl rfl hth695.1) dX7_elect_86 (fun H locs hP hD hS => ?_)
          have hP := Eq.mp (congrArg (fun w => va_P (dC, dI) vwCl w H) (wS_20 hDo (hM.at 4 (by decide)) (hM.k 4 (by decide) rfl) hj713)) hP
          obtain ⟨J714, eJ714⟩ : ∃ z, z = va_up J (w 4) (upd (J (w 4)) xp.toNatClampNeg (sp_nz v701)) := ⟨_, rfl⟩
          rw [← eJ714] at hP
          have hR : RM w [] I J I J714 := by rw [eJ714]; exact hR.pj hM (by decide) (by decide)
          have hMD : MD w J714 := by
            rw [eJ714]
            refine MD.p4 hM (fun p hp _ => hMD p hp) (Or.inr ⟨hmy704.1, ?_⟩)
            have h9 := xbit _ (fun q => c711 ((ev710).trans q))
            rw [ev709, ex708] at h9
            exact h9
          have hD : va_D A (va_pl L (wF cy K N T I Q J714)) := pD hDo
          refine lv_aload_n hx hb dX7_elect_87 rfl (lv_at hl 2 rfl) ?_
          obtain ⟨j715, hj715⟩ := wG_7 (cy := cy) (N := N) (T := T) (I := I) (Q := Q) (J := J714) (hM.at 0 (by decide)) (hM.k 0 (by decide) rfl)
          refine va_get (D := (dC, dI)) (ci := 7) (v := .ref (T (w 0) 4)) (C := RX7) (T := TX7) (N := 18) hx hb hts hi7 hown hK hP j715 hj715 rfl 4 (by decide) (hts (.fieldLink RX7 25 "TallyLogsModel" "epoch" "[I") (by decide +kernel)) (fun _ h9 => h9) rfl dX7_elect_88 ?_
          refine W.eq (g2 := F0 m 91 ls [.ref (w 5)]) (by rw [hM.t 4 (by decide)]) ?_
          refine lv_iload_n hx hb dX7_elect_91 rfl (lv_at hl 3 rfl) ?_
          refine lv_dup2_11 hx hb dX7_elect_92 rfl rfl ?_
          obtain ⟨j716, hj716⟩ := wG_20 (cy := cy) (N := N) (T := T) (I := I) (Q := Q) (J := J714) (hM.at 5 (by decide)) (hM.k 5 (by decide) rfl)
          refine va_iald hx hb hK hP j716 1 hj716 rfl (hM.inN (n := 4) 5 (by decide) rfl rfl hth695.1) dX7_elect_93 ?_
          refine lv_topi (fun x717 ex717 => ?_)
          refine lv_iconst (v := 1) hx hb dX7_elect_94 (by decide) ?_
          refine lv_iadd hx hb dX7_elect_95 ?_
          refine lv_topi (fun v718 ev718 => ?_)
          obtain ⟨j719, hj719⟩ := wG_20 (cy := cy) (N := N) (T := T) (I := I) (Q := Q) (J := J714) (hM.at 5 (by decide)) (hM.k 5 (by decide) rfl)
          have hDo := hD
          refine va_iast (x := v718) hx hb hK hP hD hS j719 1 hj719 rfl (hM.inN (n := 4) 5 (by decide) rfl rfl hth695.1) dX7_elect_96 (fun H locs hP hD hS => ?_)
          have hP := Eq.mp (congrArg (fun w => va_P (dC, dI) vwCl w H) (wS_20 hDo (hM.at 5 (by decide)) (hM.k 5 (by decide) rfl) hj719)) hP
          obtain ⟨J720, eJ720⟩ : ∃ z, z = va_up J714 (w 5) (upd (J714 (w 5)) xp.toNatClampNeg v718) := ⟨_, rfl⟩
          rw [← eJ720] at hP
          have hR : RM w [] I J I J720 := by rw [eJ720]; exact hR.pj hM (by decide) (by decide)
          have hMD : MD w J720 := by rw [eJ720]; exact hMD.pj hM (by decide) (by decide)
          have hD : va_D A (va_pl L (wF cy K N T I Q J720)) := pD hDo
          refine lv_iconst (v := 0) hx hb dX7_elect_97 (by decide) ?_
          refine lv_istore (lv' := [(5, .int 0), (4, .int (sp_nz v701)), (3, .int v701), (0, .ref (w 0)), (1, .int xp), (2, .int un)]) hx hb dX7_elect_98 hl (by decide) rfl (fun ls hl => ?_)
          refine wq_gen (fun Qz hQz => ?_)
          have hLP721 : ∀ (n : Nat) (y722 : Int32) (Ia721 Ja721 : Nat → Nat → Int32) (H : Heap) (locs : List Loc) (ls : Array Slot), (5 - y722.toInt).toNat < n → 0 ≤ y722.toInt → (True) → RM w [] I J Ia721 Ja721 → ML w E Ia721 → MD w Ja721 → MU w Ia721 →  va_P (dC, dI) vwCl (va_pl L (wF cy K N T Ia721 Q Ja721)) H → va_D A (va_pl L (wF cy K N T Ia721 Q Ja721)) → va_S A s.heap H locs → lv_has ls 6 [(5, .int y722), (4, .int (sp_nz v701)), (3, .int v701), (0, .ref (w 0)), (1, .int xp), (2, .int un)] → W p l e (headSpec wsX7_elect ({ frames := 4, cells := 0, slots := 0, locals := 99 })).room s m ([.ref (w 0), .int xp, .int un] : List Value).toArray below meth c H locs 0 0 Qz (F0 m 100 ls []) := by
            intro n
            induction n with
            | zero => intro y722 Ia721 Ja721 H locs ls hms; exact absurd hms (Nat.not_lt_zero _)
            | succ n ih721 =>
              intro y722 Ia721 Ja721 H locs ls hms hnn721 hiv721 hR hML hMD hMU hP hD hS hl
              refine lv_iload hx hb dX7_elect_100 (lv_at hl 0 rfl) ?_
              refine lv_iconst (v := 5) hx hb dX7_elect_102 (by decide) ?_
              refine lv_icmp_ge (tgt := 141) hx hb dX7_elect_103 (by decide) (fun c723 => ?_) (fun c723 => ?_)
              · have kc723 : 5 ≤ y722.toInt := by have h9 := c723; rw [xk_le, xk_5] at h9; exact h9
                refine lv_aload_n hx hb dX7_elect_141 rfl (lv_at hl 3 rfl) ?_
                refine lv_iload_n hx hb dX7_elect_142 rfl (lv_at hl 4 rfl) ?_
                obtain ⟨j724, hj724⟩ := wG_7 (cy := cy) (N := N) (T := T) (I := Ia721) (Q := Q) (J := Ja721) (hM.at 0 (by decide)) (hM.k 0 (by decide) rfl)
                have hFc := pfree hD hS hA
                refine va_callv (va_runV (As := [.int xp]) (rest := []) ⟨hx, hb, hml, hown, hts⟩ (c_X7_rise l dC dI cy w L K N T Q Ia721 Ja721 H.size xp hM hth695.1 (hMD _ (vp_lt (n := 4) hth695.1))) (cwV 1 hts gX7_elect_X7_rise rfl rfl rfl (by decide +kernel) ⟨Nat.le_of_ble_eq_true rfl, Nat.le_of_ble_eq_true rfl⟩) ⟨mw_blind, va_recv hK hP (ci := 7) (q0 := j724) rfl hj724, fun U hU hW => ⟨rfl, mw_pre hP hK hD hU hW⟩⟩ rfl rfl hl.1 rfl (lv_room (Nat.le_of_ble_eq_true rfl)) dX7_elect_143 ⟨Nat.le_of_ble_eq_true rfl, Nat.le_of_ble_eq_true rfl⟩) hS (fun q _ h => hFc q h) hFc (fun d9 t H1 locs ht hvm hw hB hz1 hk1 hS => ?_)
                obtain ⟨I725, J725⟩ := d9
                obtain ⟨hP, hK1, hD1⟩ := hB
                rw [ht] at hP
                have hD := hD1.weaken (fun _ _ _ h => hFc _ h)
                generalize H1 = H at hP hS ⊢
                have hP : va_P (dC, dI) vwCl (va_pl L (wF cy K N T I725 Q J725)) H := hP
                have hD : va_D A (va_pl L (wF cy K N T I725 Q J725)) := hD
                have hw727 : RZ w Ia721 Ja721 I725 J725 xp.toNatClampNeg := hw
                have hR : RM w [] I J I725 J725 := hR.rz hM (vp_lt (n := 4) hth695.1) hw727
                have hMD : MD w J725 := hMD.rz hw727
                have hMU : MU w I725 := hMU.rz hM (vp_lt (n := 4) hth695.1) hw727
                have hML : ML w E I725 := hML.rz hM (vp_lt (n := 4) hth695.1) hw727
                refine lv_iload hx hb dX7_elect_146 (lv_at hl 1 rfl) ?_
                rw [hQz]
                exact W.iret (v := (sp_nz v701)) hx hb hr (fun t ht hW => ⟨⟨(sp_nz v701), (I725, J725), rfl, ⟨⟨hML.mono (by omega), hMD, hMU⟩, hR⟩, by rw [ht]; exact hP, va_K.moved hW.alike hK, hD⟩, hS.F ht⟩) hS.2.2 dX7_elect_148
              · have kc723 : ¬ (5 ≤ y722.toInt) := by have h9 := c723; rw [xk_le, xk_5] at h9; exact h9
                refine lv_aload_n hx hb dX7_elect_106 rfl (lv_at hl 3 rfl) ?_
                obtain ⟨j728, hj728⟩ := wG_7 (cy := cy) (N := N) (T := T) (I := Ia721) (Q := Q) (J := Ja721) (hM.at 0 (by decide)) (hM.k 0 (by decide) rfl)
                refine va_get (D := (dC, dI)) (ci := 7) (v := .ref (T (w 0) 0)) (C := RX7) (T := TX7) (N := 18) hx hb hts hi7 hown hK hP j728 hj728 rfl 0 (by decide) (hts (.fieldLink RX7 11 "TallyLogsModel" "log" "[[LTallyLogsModel$Log;") (by decide +kernel)) (fun _ h9 => h9) rfl dX7_elect_107 ?_
                refine W.eq (g2 := F0 m 110 ls [.ref (w 1)]) (by rw [hM.t 0 (by decide)]) ?_
                refine lv_iload_n hx hb dX7_elect_110 rfl (lv_at hl 4 rfl) ?_
                obtain ⟨j729, hj729⟩ := wG_22 (cy := cy) (N := N) (T := T) (I := Ia721) (Q := Q) (J := Ja721) (hM.at 1 (by decide)) (hM.k 1 (by decide) rfl)
                refine xg_aldg hx hb hK hP j729 2 hj729 rfl hth695.1 dX7_elect_111 ?_
                refine W.eq (g2 := F0 m 112 ls [.ref (w (17 + xp.toNatClampNeg))]) (by rw [hM.qo (vp_lt (n := 4) hth695.1)]; rfl) ?_
                refine lv_iload hx hb dX7_elect_112 (lv_at hl 0 rfl) ?_
                obtain ⟨j730, hj730⟩ := wG_23 (cy := cy) (N := N) (T := T) (I := Ia721) (Q := Q) (J := Ja721) (hM.row (vp_lt (n := 4) hth695.1)).1 (hM.row (vp_lt (n := 4) hth695.1)).2
                refine va_aldq hx hb hK hP j730 3 hj730 rfl (xin_of hnn721 (by have kc := c723; simp only [xk_lt, xk_le, xk_0, xk_1, xk_2, xk_3, xk_4, xk_5, xk_6, xk_7, xk_8, xk_50] at kc; omega)) dX7_elect_114 ?_
                have hjl731 : (5 * xp.toNatClampNeg + y722.toNatClampNeg) < 20 := by have h1 := (vp_lt (n := 4) hth695.1); have h2 := (vp_lt (n := 5) (xin_of hnn721 (by have kc := c723; simp only [xk_lt, xk_le, xk_0, xk_1, xk_2, xk_3, xk_4, xk_5, xk_6, xk_7, xk_8, xk_50] at kc; omega))); omega
                refine W.eq (g2 := F0 m 115 ls [.ref (w (21 + (5 * xp.toNatClampNeg + y722.toNatClampNeg)))]) (by rw [hM.qr (vp_lt (n := 4) hth695.1) (vp_lt (n := 5) (xin_of hnn721 (by have kc := c723; simp only [xk_lt, xk_le, xk_0, xk_1, xk_2, xk_3, xk_4, xk_5, xk_6, xk_7, xk_8, xk_50] at kc; omega)))]; rfl) ?_
                refine lv_iconst (v := (-1)) hx hb dX7_elect_115 (by decide) ?_
                obtain ⟨j732, hj732⟩ := wG_6 (cy := cy) (N := N) (T := T) (I := Ia721) (Q := Q) (J := Ja721) (hM.lg hjl731).1 (hM.lg hjl731).2
                have hDo := hD
                refine va_put (D := (dC, dI)) (ci := 6) (v := .int (-1)) (ty := .int) (C := RX6) (T := TX6) (N := 7) hx hb hts hi6 tyX6 tyX6_ok nmX6 hown hK hP hD hS j732 hj732 rfl 5 (by decide) (hts (.fieldLink RX7 92 "TallyLogsModel$Log" "known" "I") (by decide +kernel)) (fun _ h9 => h9) rfl (by decide +kernel) rfl rfl (Nat.le_of_ble_eq_true rfl) dX7_elect_116 (fun H locs hP hD hS => ?_)
                have hP := Eq.mp (congrArg (fun w => va_P (dC, dI) vwCl w H) (wP_6_5 (x := (-1)) hDo (hM.lg hjl731).1 (hM.lg hjl731).2 hj732)) hP
                obtain ⟨I733, eI733⟩ : ∃ z, z = p2 Ia721 (w (21 + (5 * xp.toNatClampNeg + y722.toNatClampNeg))) 5 (-1) := ⟨_, rfl⟩
                rw [← eI733] at hP
                have hD : va_D A (va_pl L (wF cy K N T I733 Q Ja721)) := pD hDo
                have hR : RM w [] I J I733 Ja721 := by rw [eI733]; exact hR.pl hM hjl731
                have hMU : MU w I733 := by rw [eI733]; exact hMU.pl hM hjl731
                have hML : ML w E I733 := by rw [eI733]; exact hML.p56 hM hjl731 (by decide)
                refine lv_aload_n hx hb dX7_elect_119 rfl (lv_at hl 3 rfl) ?_
                obtain ⟨j734, hj734⟩ := wG_7 (cy := cy) (N := N) (T := T) (I := I733) (Q := Q) (J := Ja721) (hM.at 0 (by decide)) (hM.k 0 (by decide) rfl)
                refine va_get (D := (dC, dI)) (ci := 7) (v := .ref (T (w 0) 0)) (C := RX7) (T := TX7) (N := 18) hx hb hts hi7 hown hK hP j734 hj734 rfl 0 (by decide) (hts (.fieldLink RX7 11 "TallyLogsModel" "log" "[[LTallyLogsModel$Log;") (by decide +kernel)) (fun _ h9 => h9) rfl dX7_elect_120 ?_
                refine W.eq (g2 := F0 m 123 ls [.ref (w 1)]) (by rw [hM.t 0 (by decide)]) ?_
                refine lv_iload_n hx hb dX7_elect_123 rfl (lv_at hl 4 rfl) ?_
                obtain ⟨j735, hj735⟩ := wG_22 (cy := cy) (N := N) (T := T) (I := I733) (Q := Q) (J := Ja721) (hM.at 1 (by decide)) (hM.k 1 (by decide) rfl)
                refine xg_aldg hx hb hK hP j735 2 hj735 rfl hth695.1 dX7_elect_124 ?_
                refine W.eq (g2 := F0 m 125 ls [.ref (w (17 + xp.toNatClampNeg))]) (by rw [hM.qo (vp_lt (n := 4) hth695.1)]; rfl) ?_
                refine lv_iload hx hb dX7_elect_125 (lv_at hl 0 rfl) ?_
                obtain ⟨j736, hj736⟩ := wG_23 (cy := cy) (N := N) (T := T) (I := I733) (Q := Q) (J := Ja721) (hM.row (vp_lt (n := 4) hth695.1)).1 (hM.row (vp_lt (n := 4) hth695.1)).2
                refine va_aldq hx hb hK hP j736 3 hj736 rfl (xin_of hnn721 (by have kc := c723; simp only [xk_lt, xk_le, xk_0, xk_1, xk_2, xk_3, xk_4, xk_5, xk_6, xk_7, xk_8, xk_50] at kc; omega)) dX7_elect_127 ?_
                have hjl737 : (5 * xp.toNatClampNeg + y722.toNatClampNeg) < 20 := by have h1 := (vp_lt (n := 4) hth695.1); have h2 := (vp_lt (n := 5) (xin_of hnn721 (by have kc := c723; simp only [xk_lt, xk_le, xk_0, xk_1, xk_2, xk_3, xk_4, xk_5, xk_6, xk_7, xk_8, xk_50] at kc; omega))); omega
                refine W.eq (g2 := F0 m 128 ls [.ref (w (21 + (5 * xp.toNatClampNeg + y722.toNatClampNeg)))]) (by rw [hM.qr (vp_lt (n := 4) hth695.1) (vp_lt (n := 5) (xin_of hnn721 (by have kc := c723; simp only [xk_lt, xk_le, xk_0, xk_1, xk_2, xk_3, xk_4, xk_5, xk_6, xk_7, xk_8, xk_50] at kc; omega)))]; rfl) ?_
                refine lv_aload_n hx hb dX7_elect_128 rfl (lv_at hl 3 rfl) ?_
                obtain ⟨j738, hj738⟩ := wG_7 (cy := cy) (N := N) (T := T) (I := I733) (Q := Q) (J := Ja721) (hM.at 0 (by decide)) (hM.k 0 (by decide) rfl)
                refine va_get (D := (dC, dI)) (ci := 7) (v := .int (I733 (w 0) 17)) (C := RX7) (T := TX7) (N := 18) hx hb hts hi7 hown hK hP j738 hj738 rfl 17 (by decide) (hts (.fieldLink RX7 119 "TallyLogsModel" "now" "I") (by decide +kernel)) (fun _ h9 => h9) rfl dX7_elect_129 ?_
                refine lv_topi (fun x739 ex739 => ?_)
                have ex739 : x739 = Ia721 (w 0) 17 := by rw [ex739, eI733, p2_na _ _ (hM.ne (by omega) (by omega) (by omega))]
                have tx739 : x739.toInt = (Ia721 (w 0) 17).toInt := congrArg Int32.toInt ex739
                obtain ⟨j740, hj740⟩ := wG_6 (cy := cy) (N := N) (T := T) (I := I733) (Q := Q) (J := Ja721) (hM.lg hjl737).1 (hM.lg hjl737).2
                have hDo := hD
                refine va_put (D := (dC, dI)) (ci := 6) (v := .int x739) (ty := .int) (C := RX6) (T := TX6) (N := 7) hx hb hts hi6 tyX6 tyX6_ok nmX6 hown hK hP hD hS j740 hj740 rfl 6 (by decide) (hts (.fieldLink RX7 122 "TallyLogsModel$Log" "caught" "I") (by decide +kernel)) (fun _ h9 => h9) rfl (by decide +kernel) rfl rfl (Nat.le_of_ble_eq_true rfl) dX7_elect_132 (fun H locs hP hD hS => ?_)
                have hP := Eq.mp (congrArg (fun w => va_P (dC, dI) vwCl w H) (wP_6_6 (x := x739) hDo (hM.lg hjl737).1 (hM.lg hjl737).2 hj740)) hP
                obtain ⟨I741, eI741⟩ : ∃ z, z = p2 I733 (w (21 + (5 * xp.toNatClampNeg + y722.toNatClampNeg))) 6 x739 := ⟨_, rfl⟩
                rw [← eI741] at hP
                have hD : va_D A (va_pl L (wF cy K N T I741 Q Ja721)) := pD hDo
                have hR : RM w [] I J I741 Ja721 := by rw [eI741]; exact hR.pl hM hjl737
                have hMU : MU w I741 := by rw [eI741]; exact hMU.pl hM hjl737
                have hML : ML w E I741 := by rw [eI741]; exact hML.p56 hM hjl737 (by decide)
                obtain ⟨v742, ev742⟩ : ∃ y : Int32, y = y722 + Int32.ofInt 1 := ⟨_, rfl⟩
                refine lv_iinc (v := v742) (lv' := [(5, .int v742), (4, .int (sp_nz v701)), (3, .int v701), (0, .ref (w 0)), (1, .int xp), (2, .int un)]) hx hb dX7_elect_135 hl (k := 0) rfl ev742.symm (by decide) rfl (fun ls hl => ?_)
                refine lv_goto (tgt := 100) hx hb dX7_elect_138 (by decide) ?_
                have tv742 : v742.toInt = y722.toInt + 1 := by rw [ev742, show y722 + Int32.ofInt 1 = y722 + 1 from rfl]; exact xinc (y := (5 : Int32)) (by rw [xk_lt, xk_5]; omega)
                exact ih721 _ _ _ _ _ _ (by omega) (by omega) (trivial) hR (hML.mono (by omega)) hMD hMU hP hD hS (lv_sub hl [0, 1, 2, 3, 4, 5] rfl)
          exact hLP721 _ _ _ _ _ _ _ (Nat.lt_succ_self _) (by decide) (trivial) hR (hML.mono (by omega)) hMD hMU hP hD hS (lv_sub hl [0, 1, 2, 3, 4, 5] rfl)
        · have kc711 : v710.toInt = 0 := by have h9 := c711; rw [xk_eq, xk_0] at h9; exact h9
          refine lv_aload_n hx hb dX7_elect_69 rfl (lv_at hl 2 rfl) ?_
          obtain ⟨j743, hj743⟩ := wG_7 (cy := cy) (N := N) (T := T) (I := I) (Q := Q) (J := J) (hM.at 0 (by decide)) (hM.k 0 (by decide) rfl)
          refine va_get (D := (dC, dI)) (ci := 7) (v := .ref (T (w 0) 6)) (C := RX7) (T := TX7) (N := 18) hx hb hts hi7 hown hK hP j743 hj743 rfl 6 (by decide) (hts (.fieldLink RX7 31 "TallyLogsModel" "step" "[I") (by decide +kernel)) (fun _ h9 => h9) rfl dX7_elect_70 ?_
          refine W.eq (g2 := F0 m 73 ls [.ref (w 7)]) (by rw [hM.t 6 (by decide)]) ?_
          refine lv_iload_n hx hb dX7_elect_73 rfl (lv_at hl 3 rfl) ?_
          refine lv_iconst (v := 1) hx hb dX7_elect_74 (by decide) ?_
          refine lv_iload hx hb dX7_elect_75 (lv_at hl 0 rfl) ?_
          refine lv_ishl hx hb dX7_elect_77 ?_
          refine lv_topi (fun v744 ev744 => ?_)
          obtain ⟨j745, hj745⟩ := wG_20 (cy := cy) (N := N) (T := T) (I := I) (Q := Q) (J := J) (hM.at 7 (by decide)) (hM.k 7 (by decide) rfl)
          have hDo := hD
          refine va_iast (x := v744) hx hb hK hP hD hS j745 1 hj745 rfl (hM.inN (n := 4) 7 (by decide) rfl rfl hth695.1) dX7_elect_78 (fun H locs hP hD hS => ?_)
          have hP := Eq.mp (congrArg (fun w => va_P (dC, dI) vwCl w H) (wS_20 hDo (hM.at 7 (by decide)) (hM.k 7 (by decide) rfl) hj745)) hP
          obtain ⟨J746, eJ746⟩ : ∃ z, z = va_up J (w 7) (upd (J (w 7)) xp.toNatClampNeg v744) := ⟨_, rfl⟩
          rw [← eJ746] at hP
          have hR : RM w [] I J I J746 := by rw [eJ746]; exact hR.pj hM (by decide) (by decide)
          have hD : va_D A (va_pl L (wF cy K N T I Q J746)) := pD hDo
          refine lv_aload_n hx hb dX7_elect_79 rfl (lv_at hl 2 rfl) ?_
          obtain ⟨j747, hj747⟩ := wG_7 (cy := cy) (N := N) (T := T) (I := I) (Q := Q) (J := J746) (hM.at 0 (by decide)) (hM.k 0 (by decide) rfl)
          refine va_get (D := (dC, dI)) (ci := 7) (v := .ref (T (w 0) 3)) (C := RX7) (T := TX7) (N := 18) hx hb hts hi7 hown hK hP j747 hj747 rfl 3 (by decide) (hts (.fieldLink RX7 22 "TallyLogsModel" "leader" "[I") (by decide +kernel)) (fun _ h9 => h9) rfl dX7_elect_80 ?_
          refine W.eq (g2 := F0 m 83 ls [.ref (w 4)]) (by rw [hM.t 3 (by decide)]) ?_
          refine lv_iload_n hx hb dX7_elect_83 rfl (lv_at hl 3 rfl) ?_
          refine lv_iload hx hb dX7_elect_84 (lv_at hl 0 rfl) ?_
          obtain ⟨j748, hj748⟩ := wG_20 (cy := cy) (N := N) (T := T) (I := I) (Q := Q) (J := J746) (hM.at 4 (by decide)) (hM.k 4 (by decide) rfl)
          have hDo := hD
          refine va_iast (x := (sp_nz v701)) hx hb hK hP hD hS j748 1 hj748 rfl (hM.inN (n := 4) 4 (by decide) rfl rfl hth695.1) dX7_elect_86 (fun H locs hP hD hS => ?_)
          have hP := Eq.mp (congrArg (fun w => va_P (dC, dI) vwCl w H) (wS_20 hDo (hM.at 4 (by decide)) (hM.k 4 (by decide) rfl) hj748)) hP
          obtain ⟨J749, eJ749⟩ : ∃ z, z = va_up J746 (w 4) (upd (J746 (w 4)) xp.toNatClampNeg (sp_nz v701)) := ⟨_, rfl⟩
          rw [← eJ749] at hP
          have hR : RM w [] I J I J749 := by rw [eJ749]; exact hR.pj hM (by decide) (by decide)
          have hMD : MD w J749 := by
            rw [eJ749, eJ746]
            refine MD.p4 hM (hMD.p7' hM) (Or.inr ⟨hmy704.1, ?_⟩)
            rw [va_up_self]
            simp only [upd, if_true]
            rw [ev744]
            exact xsh1 _
          have hD : va_D A (va_pl L (wF cy K N T I Q J749)) := pD hDo
          refine lv_aload_n hx hb dX7_elect_87 rfl (lv_at hl 2 rfl) ?_
          obtain ⟨j750, hj750⟩ := wG_7 (cy := cy) (N := N) (T := T) (I := I) (Q := Q) (J := J749) (hM.at 0 (by decide)) (hM.k 0 (by decide) rfl)
          refine va_get (D := (dC, dI)) (ci := 7) (v := .ref (T (w 0) 4)) (C := RX7) (T := TX7) (N := 18) hx hb hts hi7 hown hK hP j750 hj750 rfl 4 (by decide) (hts (.fieldLink RX7 25 "TallyLogsModel" "epoch" "[I") (by decide +kernel)) (fun _ h9 => h9) rfl dX7_elect_88 ?_
          refine W.eq (g2 := F0 m 91 ls [.ref (w 5)]) (by rw [hM.t 4 (by decide)]) ?_
          refine lv_iload_n hx hb dX7_elect_91 rfl (lv_at hl 3 rfl) ?_
          refine lv_dup2_11 hx hb dX7_elect_92 rfl rfl ?_
          obtain ⟨j751, hj751⟩ := wG_20 (cy := cy) (N := N) (T := T) (I := I) (Q := Q) (J := J749) (hM.at 5 (by decide)) (hM.k 5 (by decide) rfl)
          refine va_iald hx hb hK hP j751 1 hj751 rfl (hM.inN (n := 4) 5 (by decide) rfl rfl hth695.1) dX7_elect_93 ?_
          refine lv_topi (fun x752 ex752 => ?_)
          refine lv_iconst (v := 1) hx hb dX7_elect_94 (by decide) ?_
          refine lv_iadd hx hb dX7_elect_95 ?_
          refine lv_topi (fun v753 ev753 => ?_)
          obtain ⟨j754, hj754⟩ := wG_20 (cy := cy) (N := N) (T := T) (I := I) (Q := Q) (J := J749) (hM.at 5 (by decide)) (hM.k 5 (by decide) rfl)
          have hDo := hD
          refine va_iast (x := v753) hx hb hK hP hD hS j754 1 hj754 rfl (hM.inN (n := 4) 5 (by decide) rfl rfl hth695.1) dX7_elect_96 (fun H locs hP hD hS => ?_)
          have hP := Eq.mp (congrArg (fun w => va_P (dC, dI) vwCl w H) (wS_20 hDo (hM.at 5 (by decide)) (hM.k 5 (by decide) rfl) hj754)) hP
          obtain ⟨J755, eJ755⟩ : ∃ z, z = va_up J749 (w 5) (upd (J749 (w 5)) xp.toNatClampNeg v753) := ⟨_, rfl⟩
          rw [← eJ755] at hP
          have hR : RM w [] I J I J755 := by rw [eJ755]; exact hR.pj hM (by decide) (by decide)
          have hMD : MD w J755 := by rw [eJ755]; exact hMD.pj hM (by decide) (by decide)
          have hD : va_D A (va_pl L (wF cy K N T I Q J755)) := pD hDo
          refine lv_iconst (v := 0) hx hb dX7_elect_97 (by decide) ?_
          refine lv_istore (lv' := [(5, .int 0), (4, .int (sp_nz v701)), (3, .int v701), (0, .ref (w 0)), (1, .int xp), (2, .int un)]) hx hb dX7_elect_98 hl (by decide) rfl (fun ls hl => ?_)
          refine wq_gen (fun Qz hQz => ?_)
          have hLP756 : ∀ (n : Nat) (y757 : Int32) (Ia756 Ja756 : Nat → Nat → Int32) (H : Heap) (locs : List Loc) (ls : Array Slot), (5 - y757.toInt).toNat < n → 0 ≤ y757.toInt → (True) → RM w [] I J Ia756 Ja756 → ML w E Ia756 → MD w Ja756 → MU w Ia756 →  va_P (dC, dI) vwCl (va_pl L (wF cy K N T Ia756 Q Ja756)) H → va_D A (va_pl L (wF cy K N T Ia756 Q Ja756)) → va_S A s.heap H locs → lv_has ls 6 [(5, .int y757), (4, .int (sp_nz v701)), (3, .int v701), (0, .ref (w 0)), (1, .int xp), (2, .int un)] → W p l e (headSpec wsX7_elect ({ frames := 4, cells := 0, slots := 0, locals := 99 })).room s m ([.ref (w 0), .int xp, .int un] : List Value).toArray below meth c H locs 0 0 Qz (F0 m 100 ls []) := by
            intro n
            induction n with
            | zero => intro y757 Ia756 Ja756 H locs ls hms; exact absurd hms (Nat.not_lt_zero _)
            | succ n ih756 =>
              intro y757 Ia756 Ja756 H locs ls hms hnn756 hiv756 hR hML hMD hMU hP hD hS hl
              refine lv_iload hx hb dX7_elect_100 (lv_at hl 0 rfl) ?_
              refine lv_iconst (v := 5) hx hb dX7_elect_102 (by decide) ?_
              refine lv_icmp_ge (tgt := 141) hx hb dX7_elect_103 (by decide) (fun c758 => ?_) (fun c758 => ?_)
              · have kc758 : 5 ≤ y757.toInt := by have h9 := c758; rw [xk_le, xk_5] at h9; exact h9
                refine lv_aload_n hx hb dX7_elect_141 rfl (lv_at hl 3 rfl) ?_
                refine lv_iload_n hx hb dX7_elect_142 rfl (lv_at hl 4 rfl) ?_
                obtain ⟨j759, hj759⟩ := wG_7 (cy := cy) (N := N) (T := T) (I := Ia756) (Q := Q) (J := Ja756) (hM.at 0 (by decide)) (hM.k 0 (by decide) rfl)
                have hFc := pfree hD hS hA
                refine va_callv (va_runV (As := [.int xp]) (rest := []) ⟨hx, hb, hml, hown, hts⟩ (c_X7_rise l dC dI cy w L K N T Q Ia756 Ja756 H.size xp hM hth695.1 (hMD _ (vp_lt (n := 4) hth695.1))) (cwV 1 hts gX7_elect_X7_rise rfl rfl rfl (by decide +kernel) ⟨Nat.le_of_ble_eq_true rfl, Nat.le_of_ble_eq_true rfl⟩) ⟨mw_blind, va_recv hK hP (ci := 7) (q0 := j759) rfl hj759, fun U hU hW => ⟨rfl, mw_pre hP hK hD hU hW⟩⟩ rfl rfl hl.1 rfl (lv_room (Nat.le_of_ble_eq_true rfl)) dX7_elect_143 ⟨Nat.le_of_ble_eq_true rfl, Nat.le_of_ble_eq_true rfl⟩) hS (fun q _ h => hFc q h) hFc (fun d9 t H1 locs ht hvm hw hB hz1 hk1 hS => ?_)
                obtain ⟨I760, J760⟩ := d9
                obtain ⟨hP, hK1, hD1⟩ := hB
                rw [ht] at hP
                have hD := hD1.weaken (fun _ _ _ h => hFc _ h)
                generalize H1 = H at hP hS ⊢
                have hP : va_P (dC, dI) vwCl (va_pl L (wF cy K N T I760 Q J760)) H := hP
                have hD : va_D A (va_pl L (wF cy K N T I760 Q J760)) := hD
                have hw762 : RZ w Ia756 Ja756 I760 J760 xp.toNatClampNeg := hw
                have hR : RM w [] I J I760 J760 := hR.rz hM (vp_lt (n := 4) hth695.1) hw762
                have hMD : MD w J760 := hMD.rz hw762
                have hMU : MU w I760 := hMU.rz hM (vp_lt (n := 4) hth695.1) hw762
                have hML : ML w E I760 := hML.rz hM (vp_lt (n := 4) hth695.1) hw762
                refine lv_iload hx hb dX7_elect_146 (lv_at hl 1 rfl) ?_
                rw [hQz]
                exact W.iret (v := (sp_nz v701)) hx hb hr (fun t ht hW => ⟨⟨(sp_nz v701), (I760, J760), rfl, ⟨⟨hML.mono (by omega), hMD, hMU⟩, hR⟩, by rw [ht]; exact hP, va_K.moved hW.alike hK, hD⟩, hS.F ht⟩) hS.2.2 dX7_elect_148
              · have kc758 : ¬ (5 ≤ y757.toInt) := by have h9 := c758; rw [xk_le, xk_5] at h9; exact h9
                refine lv_aload_n hx hb dX7_elect_106 rfl (lv_at hl 3 rfl) ?_
                obtain ⟨j763, hj763⟩ := wG_7 (cy := cy) (N := N) (T := T) (I := Ia756) (Q := Q) (J := Ja756) (hM.at 0 (by decide)) (hM.k 0 (by decide) rfl)
                refine va_get (D := (dC, dI)) (ci := 7) (v := .ref (T (w 0) 0)) (C := RX7) (T := TX7) (N := 18) hx hb hts hi7 hown hK hP j763 hj763 rfl 0 (by decide) (hts (.fieldLink RX7 11 "TallyLogsModel" "log" "[[LTallyLogsModel$Log;") (by decide +kernel)) (fun _ h9 => h9) rfl dX7_elect_107 ?_
                refine W.eq (g2 := F0 m 110 ls [.ref (w 1)]) (by rw [hM.t 0 (by decide)]) ?_
                refine lv_iload_n hx hb dX7_elect_110 rfl (lv_at hl 4 rfl) ?_
                obtain ⟨j764, hj764⟩ := wG_22 (cy := cy) (N := N) (T := T) (I := Ia756) (Q := Q) (J := Ja756) (hM.at 1 (by decide)) (hM.k 1 (by decide) rfl)
                refine xg_aldg hx hb hK hP j764 2 hj764 rfl hth695.1 dX7_elect_111 ?_
                refine W.eq (g2 := F0 m 112 ls [.ref (w (17 + xp.toNatClampNeg))]) (by rw [hM.qo (vp_lt (n := 4) hth695.1)]; rfl) ?_
                refine lv_iload hx hb dX7_elect_112 (lv_at hl 0 rfl) ?_
                obtain ⟨j765, hj765⟩ := wG_23 (cy := cy) (N := N) (T := T) (I := Ia756) (Q := Q) (J := Ja756) (hM.row (vp_lt (n := 4) hth695.1)).1 (hM.row (vp_lt (n := 4) hth695.1)).2
                refine va_aldq hx hb hK hP j765 3 hj765 rfl (xin_of hnn756 (by have kc := c758; simp only [xk_lt, xk_le, xk_0, xk_1, xk_2, xk_3, xk_4, xk_5, xk_6, xk_7, xk_8, xk_50] at kc; omega)) dX7_elect_114 ?_
                have hjl766 : (5 * xp.toNatClampNeg + y757.toNatClampNeg) < 20 := by have h1 := (vp_lt (n := 4) hth695.1); have h2 := (vp_lt (n := 5) (xin_of hnn756 (by have kc := c758; simp only [xk_lt, xk_le, xk_0, xk_1, xk_2, xk_3, xk_4, xk_5, xk_6, xk_7, xk_8, xk_50] at kc; omega))); omega
                refine W.eq (g2 := F0 m 115 ls [.ref (w (21 + (5 * xp.toNatClampNeg + y757.toNatClampNeg)))]) (by rw [hM.qr (vp_lt (n := 4) hth695.1) (vp_lt (n := 5) (xin_of hnn756 (by have kc := c758; simp only [xk_lt, xk_le, xk_0, xk_1, xk_2, xk_3, xk_4, xk_5, xk_6, xk_7, xk_8, xk_50] at kc; omega)))]; rfl) ?_
                refine lv_iconst (v := (-1)) hx hb dX7_elect_115 (by decide) ?_
                obtain ⟨j767, hj767⟩ := wG_6 (cy := cy) (N := N) (T := T) (I := Ia756) (Q := Q) (J := Ja756) (hM.lg hjl766).1 (hM.lg hjl766).2
                have hDo := hD
                refine va_put (D := (dC, dI)) (ci := 6) (v := .int (-1)) (ty := .int) (C := RX6) (T := TX6) (N := 7) hx hb hts hi6 tyX6 tyX6_ok nmX6 hown hK hP hD hS j767 hj767 rfl 5 (by decide) (hts (.fieldLink RX7 92 "TallyLogsModel$Log" "known" "I") (by decide +kernel)) (fun _ h9 => h9) rfl (by decide +kernel) rfl rfl (Nat.le_of_ble_eq_true rfl) dX7_elect_116 (fun H locs hP hD hS => ?_)
                have hP := Eq.mp (congrArg (fun w => va_P (dC, dI) vwCl w H) (wP_6_5 (x := (-1)) hDo (hM.lg hjl766).1 (hM.lg hjl766).2 hj767)) hP
                obtain ⟨I768, eI768⟩ : ∃ z, z = p2 Ia756 (w (21 + (5 * xp.toNatClampNeg + y757.toNatClampNeg))) 5 (-1) := ⟨_, rfl⟩
                rw [← eI768] at hP
                have hD : va_D A (va_pl L (wF cy K N T I768 Q Ja756)) := pD hDo
                have hR : RM w [] I J I768 Ja756 := by rw [eI768]; exact hR.pl hM hjl766
                have hMU : MU w I768 := by rw [eI768]; exact hMU.pl hM hjl766
                have hML : ML w E I768 := by rw [eI768]; exact hML.p56 hM hjl766 (by decide)
                refine lv_aload_n hx hb dX7_elect_119 rfl (lv_at hl 3 rfl) ?_
                obtain ⟨j769, hj769⟩ := wG_7 (cy := cy) (N := N) (T := T) (I := I768) (Q := Q) (J := Ja756) (hM.at 0 (by decide)) (hM.k 0 (by decide) rfl)
                refine va_get (D := (dC, dI)) (ci := 7) (v := .ref (T (w 0) 0)) (C := RX7) (T := TX7) (N := 18) hx hb hts hi7 hown hK hP j769 hj769 rfl 0 (by decide) (hts (.fieldLink RX7 11 "TallyLogsModel" "log" "[[LTallyLogsModel$Log;") (by decide +kernel)) (fun _ h9 => h9) rfl dX7_elect_120 ?_
                refine W.eq (g2 := F0 m 123 ls [.ref (w 1)]) (by rw [hM.t 0 (by decide)]) ?_
                refine lv_iload_n hx hb dX7_elect_123 rfl (lv_at hl 4 rfl) ?_
                obtain ⟨j770, hj770⟩ := wG_22 (cy := cy) (N := N) (T := T) (I := I768) (Q := Q) (J := Ja756) (hM.at 1 (by decide)) (hM.k 1 (by decide) rfl)
                refine xg_aldg hx hb hK hP j770 2 hj770 rfl hth695.1 dX7_elect_124 ?_
                refine W.eq (g2 := F0 m 125 ls [.ref (w (17 + xp.toNatClampNeg))]) (by rw [hM.qo (vp_lt (n := 4) hth695.1)]; rfl) ?_
                refine lv_iload hx hb dX7_elect_125 (lv_at hl 0 rfl) ?_
                obtain ⟨j771, hj771⟩ := wG_23 (cy := cy) (N := N) (T := T) (I := I768) (Q := Q) (J := Ja756) (hM.row (vp_lt (n := 4) hth695.1)).1 (hM.row (vp_lt (n := 4) hth695.1)).2
                refine va_aldq hx hb hK hP j771 3 hj771 rfl (xin_of hnn756 (by have kc := c758; simp only [xk_lt, xk_le, xk_0, xk_1, xk_2, xk_3, xk_4, xk_5, xk_6, xk_7, xk_8, xk_50] at kc; omega)) dX7_elect_127 ?_
                have hjl772 : (5 * xp.toNatClampNeg + y757.toNatClampNeg) < 20 := by have h1 := (vp_lt (n := 4) hth695.1); have h2 := (vp_lt (n := 5) (xin_of hnn756 (by have kc := c758; simp only [xk_lt, xk_le, xk_0, xk_1, xk_2, xk_3, xk_4, xk_5, xk_6, xk_7, xk_8, xk_50] at kc; omega))); omega
                refine W.eq (g2 := F0 m 128 ls [.ref (w (21 + (5 * xp.toNatClampNeg + y757.toNatClampNeg)))]) (by rw [hM.qr (vp_lt (n := 4) hth695.1) (vp_lt (n := 5) (xin_of hnn756 (by have kc := c758; simp only [xk_lt, xk_le, xk_0, xk_1, xk_2, xk_3, xk_4, xk_5, xk_6, xk_7, xk_8, xk_50] at kc; omega)))]; rfl) ?_
                refine lv_aload_n hx hb dX7_elect_128 rfl (lv_at hl 3 rfl) ?_
                obtain ⟨j773, hj773⟩ := wG_7 (cy := cy) (N := N) (T := T) (I := I768) (Q := Q) (J := Ja756) (hM.at 0 (by decide)) (hM.k 0 (by decide) rfl)
                refine va_get (D := (dC, dI)) (ci := 7) (v := .int (I768 (w 0) 17)) (C := RX7) (T := TX7) (N := 18) hx hb hts hi7 hown hK hP j773 hj773 rfl 17 (by decide) (hts (.fieldLink RX7 119 "TallyLogsModel" "now" "I") (by decide +kernel)) (fun _ h9 => h9) rfl dX7_elect_129 ?_
                refine lv_topi (fun x774 ex774 => ?_)
                have ex774 : x774 = Ia756 (w 0) 17 := by rw [ex774, eI768, p2_na _ _ (hM.ne (by omega) (by omega) (by omega))]
                have tx774 : x774.toInt = (Ia756 (w 0) 17).toInt := congrArg Int32.toInt ex774
                obtain ⟨j775, hj775⟩ := wG_6 (cy := cy) (N := N) (T := T) (I := I768) (Q := Q) (J := Ja756) (hM.lg hjl772).1 (hM.lg hjl772).2
                have hDo := hD
                refine va_put (D := (dC, dI)) (ci := 6) (v := .int x774) (ty := .int) (C := RX6) (T := TX6) (N := 7) hx hb hts hi6 tyX6 tyX6_ok nmX6 hown hK hP hD hS j775 hj775 rfl 6 (by decide) (hts (.fieldLink RX7 122 "TallyLogsModel$Log" "caught" "I") (by decide +kernel)) (fun _ h9 => h9) rfl (by decide +kernel) rfl rfl (Nat.le_of_ble_eq_true rfl) dX7_elect_132 (fun H locs hP hD hS => ?_)
                have hP := Eq.mp (congrArg (fun w => va_P (dC, dI) vwCl w H) (wP_6_6 (x := x774) hDo (hM.lg hjl772).1 (hM.lg hjl772).2 hj775)) hP
                obtain ⟨I776, eI776⟩ : ∃ z, z = p2 I768 (w (21 + (5 * xp.toNatClampNeg + y757.toNatClampNeg))) 6 x774 := ⟨_, rfl⟩
                rw [← eI776] at hP
                have hD : va_D A (va_pl L (wF cy K N T I776 Q Ja756)) := pD hDo
                have hR : RM w [] I J I776 Ja756 := by rw [eI776]; exact hR.pl hM hjl772
                have hMU : MU w I776 := by rw [eI776]; exact hMU.pl hM hjl772
                have hML : ML w E I776 := by rw [eI776]; exact hML.p56 hM hjl772 (by decide)
                obtain ⟨v777, ev777⟩ : ∃ y : Int32, y = y757 + Int32.ofInt 1 := ⟨_, rfl⟩
                refine lv_iinc (v := v777) (lv' := [(5, .int v777), (4, .int (sp_nz v701)), (3, .int v701), (0, .ref (w 0)), (1, .int xp), (2, .int un)]) hx hb dX7_elect_135 hl (k := 0) rfl ev777.symm (by decide) rfl (fun ls hl => ?_)
                refine lv_goto (tgt := 100) hx hb dX7_elect_138 (by decide) ?_
                have tv777 : v777.toInt = y757.toInt + 1 := by rw [ev777, show y757 + Int32.ofInt 1 = y757 + 1 from rfl]; exact xinc (y := (5 : Int32)) (by rw [xk_lt, xk_5]; omega)
                exact ih756 _ _ _ _ _ _ (by omega) (by omega) (trivial) hR (hML.mono (by omega)) hMD hMU hP hD hS (lv_sub hl [0, 1, 2, 3, 4, 5] rfl)
          exact hLP756 _ _ _ _ _ _ _ (Nat.lt_succ_self _) (by decide) (trivial) hR (hML.mono (by omega)) hMD hMU hP hD hS (lv_sub hl [0, 1, 2, 3, 4, 5] rfl)
      · have kc703 : v701.toInt = 0 := by have h9 := c703; rw [xk_eq, xk_0] at h9; exact h9
        refine lv_bipush (v := (-2)) hx hb dX7_elect_46 (by decide) ?_
        exact W.iret (v := (-2)) hx hb hr (fun t ht hW => ⟨⟨(-2), (I, J), rfl, ⟨⟨hML.mono (by omega), hMD, hMU⟩, hR⟩, by rw [ht]; exact hP, va_K.moved hW.alike hK, hD⟩, hS.F ht⟩) hS.2.2 dX7_elect_48
    · have kc702 : v701.toInt = 0 := by have h9 := c702; rw [xk_eq, xk_0] at h9; exact h9
      refine lv_iload_n hx hb dX7_elect_26 rfl (lv_at hl 3 rfl) ?_
      refine lv_if_eq (tgt := 42) hx hb dX7_elect_27 (by decide) (fun c778 => ?_) (fun c778 => ?_)
      · have kc778 : un.toInt = 0 := by have h9 := c778; rw [xk_eq, xk_0] at h9; exact h9
        refine lv_iload_n hx hb dX7_elect_42 rfl (lv_at hl 0 rfl) ?_
        refine lv_if_ne (tgt := 49) hx hb dX7_elect_43 (by decide) (fun c779 => ?_) (fun c779 => ?_)
        · have kc779 : ¬ (v701.toInt = 0) := by have h9 := c779; rw [xk_eq, xk_0] at h9; exact h9
          have hmy780 := xntz (a := v701) (show ∃ u : Nat, u < 32 ∧ v701 = nI u by rw [ev701, ex700]; exact xu_and' hMU) c779
          refine lv_iload_n hx hb dX7_elect_49 rfl (lv_at hl 0 rfl) ?_
          refine vp_callSi (W.runS (As := [.int v701]) (rest := []) ⟨hx, hb, hml, hown, hts⟩ (c_J6_numberOfTrailingZeros_0f7a4 l v701) (va_cwS 1 hts gX7_elect_J6_numberOfTrailingZeros_0f7a4 rfl rfl rfl (by decide +kernel) ⟨Nat.le_of_ble_eq_true rfl, Nat.le_of_ble_eq_true rfl⟩) preEq rfl rfl hl.1 rfl (lv_room (Nat.le_of_ble_eq_true rfl)) dX7_elect_50 ⟨Nat.le_of_ble_eq_true rfl, Nat.le_of_ble_eq_true rfl⟩) (fun r781 hr781 => ?_)
          subst hr781
          refine lv_istore (lv' := [(4, .int (sp_nz v701)), (3, .int v701), (0, .ref (w 0)), (1, .int xp), (2, .int un)]) hx hb dX7_elect_53 hl (by decide) rfl (fun ls hl => ?_)
          refine lv_aload_n hx hb dX7_elect_55 rfl (lv_at hl 2 rfl) ?_
          obtain ⟨j782, hj782⟩ := wG_7 (cy := cy) (N := N) (T := T) (I := I) (Q := Q) (J := J) (hM.at 0 (by decide)) (hM.k 0 (by decide) rfl)
          refine va_get (D := (dC, dI)) (ci := 7) (v := .ref (T (w 0) 6)) (C := RX7) (T := TX7) (N := 18) hx hb hts hi7 hown hK hP j782 hj782 rfl 6 (by decide) (hts (.fieldLink RX7 31 "TallyLogsModel" "step" "[I") (by decide +kernel)) (fun _ h9 => h9) rfl dX7_elect_56 ?_
          refine W.eq (g2 := F0 m 59 ls [.ref (w 7)]) (by rw [hM.t 6 (by decide)]) ?_
          refine lv_iload_n hx hb dX7_elect_59 rfl (lv_at hl 3 rfl) ?_
          obtain ⟨j783, hj783⟩ := wG_20 (cy := cy) (N := N) (T := T) (I := I) (Q := Q) (J := J) (hM.at 7 (by decide)) (hM.k 7 (by decide) rfl)
          refine va_iald hx hb hK hP j783 1 hj783 rfl (hM.inN (n := 4) 7 (by decide) rfl rfl hth695.1) dX7_elect_60 ?_
          refine lv_topi (fun x784 ex784 => ?_)
          refine lv_iload hx hb dX7_elect_61 (lv_at hl 0 rfl) ?_
          refine lv_ishr hx hb dX7_elect_63 ?_
          refine lv_topi (fun v785 ev785 => ?_)
          refine lv_iconst (v := 1) hx hb dX7_elect_64 (by decide) ?_
          refine lv_iand hx hb dX7_elect_65 ?_
          refine lv_topi (fun v786 ev786 => ?_)
          refine lv_if_ne (tgt := 79) hx hb dX7_elect_66 (by decide) (fun c787 => ?_) (fun c787 => ?_)
          · have kc787 : ¬ (v786.toInt = 0) := by have h9 := c787; rw [xk_eq, xk_0] at h9; exact h9
            refine lv_aload_n hx hb dX7_elect_79 rfl (lv_at hl 2 rfl) ?_
            obtain ⟨j788, hj788⟩ := wG_7 (cy := cy) (N := N) (T := T) (I := I) (Q := Q) (J := J) (hM.at 0 (by decide)) (hM.k 0 (by decide) rfl)
            refine va_get (D := (dC, dI)) (ci := 7) (v := .ref (T (w 0) 3)) (C := RX7) (T := TX7) (N := 18) hx hb hts hi7 hown hK hP j788 hj788 rfl 3 (by decide) (hts (.fieldLink RX7 22 "TallyLogsModel" "leader" "[I") (by decide +kernel)) (fun _ h9 => h9) rfl dX7_elect_80 ?_
            refine W.eq (g2 := F0 m 83 ls [.ref (w 4)]) (by rw [hM.t 3 (by decide)]) ?_
            refine lv_iload_n hx hb dX7_elect_83 rfl (lv_at hl 3 rfl) ?_
            refine lv_iload hx hb dX7_elect_84 (lv_at hl 0 rfl) ?_
            obtain ⟨j789, hj789⟩ := wG_20 (cy := cy) (N := N) (T := T) (I := I) (Q := Q) (J := J) (hM.at 4 (by decide)) (hM.k 4 (by decide) rfl)
            have hDo := hD
            refine va_iast (x := (sp_nz v701)) hx hb hK hP hD hS j789 1 hj789 rfl (hM.inN (n := 4) 4 (by decide) rfl rfl hth695.1) dX7_elect_86 (fun H locs hP hD hS => ?_)
            have hP := Eq.mp (congrArg (fun w => va_P (dC, dI) vwCl w H) (wS_20 hDo (hM.at 4 (by decide)) (hM.k 4 (by decide) rfl) hj789)) hP
            obtain ⟨J790, eJ790⟩ : ∃ z, z = va_up J (w 4) (upd (J (w 4)) xp.toNatClampNeg (sp_nz v701)) := ⟨_, rfl⟩
            rw [← eJ790] at hP
            have hR : RM w [] I J I J790 := by rw [eJ790]; exact hR.pj hM (by decide) (by decide)
            have hMD : MD w J790 := by
              rw [eJ790]
              refine MD.p4 hM (fun p hp _ => hMD p hp) (Or.inr ⟨hmy780.1, ?_⟩)
              have h9 := xbit _ (fun q => c787 ((ev786).trans q))
              rw [ev785, ex784] at h9
              exact h9
            have hD : va_D A (va_pl L (wF cy K N T I Q J790)) := pD hDo
            refine lv_aload_n hx hb dX7_elect_87 rfl (lv_at hl 2 rfl) ?_
            obtain ⟨j791, hj791⟩ := wG_7 (cy := cy) (N := N) (T := T) (I := I) (Q := Q) (J := J790) (hM.at 0 (by decide)) (hM.k 0 (by decide) rfl)
            refine va_get (D := (dC, dI)) (ci := 7) (v := .ref (T (w 0) 4)) (C := RX7) (T := TX7) (N := 18) hx hb hts hi7 hown hK hP j791 hj791 rfl 4 (by decide) (hts (.fieldLink RX7 25 "TallyLogsModel" "epoch" "[I") (by decide +kernel)) (fun _ h9 => h9) rfl dX7_elect_88 ?_
            refine W.eq (g2 := F0 m 91 ls [.ref (w 5)]) (by rw [hM.t 4 (by decide)]) ?_
            refine lv_iload_n hx hb dX7_elect_91 rfl (lv_at hl 3 rfl) ?_
            refine lv_dup2_11 hx hb dX7_elect_92 rfl rfl ?_
            obtain ⟨j792, hj792⟩ := wG_20 (cy := cy) (N := N) (T := T) (I := I) (Q := Q) (J := J790) (hM.at 5 (by decide)) (hM.k 5 (by decide) rfl)
            refine va_iald hx hb hK hP j792 1 hj792 rfl (hM.inN (n := 4) 5 (by decide) rfl rfl hth695.1) dX7_elect_93 ?_
            refine lv_topi (fun x793 ex793 => ?_)
            refine lv_iconst (v := 1) hx hb dX7_elect_94 (by decide) ?_
            refine lv_iadd hx hb dX7_elect_95 ?_
            refine lv_topi (fun v794 ev794 => ?_)
            obtain ⟨j795, hj795⟩ := wG_20 (cy := cy) (N := N) (T := T) (I := I) (Q := Q) (J := J790) (hM.at 5 (by decide)) (hM.k 5 (by decide) rfl)
            have hDo := hD
            refine va_iast (x := v794) hx hb hK hP hD hS j795 1 hj795 rfl (hM.inN (n := 4) 5 (by decide) rfl rfl hth695.1) dX7_elect_96 (fun H locs hP hD hS => ?_)
            have hP := Eq.mp (congrArg (fun w => va_P (dC, dI) vwCl w H) (wS_20 hDo (hM.at 5 (by decide)) (hM.k 5 (by decide) rfl) hj795)) hP
            obtain ⟨J796, eJ796⟩ : ∃ z, z = va_up J790 (w 5) (upd (J790 (w 5)) xp.toNatClampNeg v794) := ⟨_, rfl⟩
            rw [← eJ796] at hP
            have hR : RM w [] I J I J796 := by rw [eJ796]; exact hR.pj hM (by decide) (by decide)
            have hMD : MD w J796 := by rw [eJ796]; exact hMD.pj hM (by decide) (by decide)
            have hD : va_D A (va_pl L (wF cy K N T I Q J796)) := pD hDo
            refine lv_iconst (v := 0) hx hb dX7_elect_97 (by decide) ?_
            refine lv_istore (lv' := [(5, .int 0), (4, .int (sp_nz v701)), (3, .int v701), (0, .ref (w 0)), (1, .int xp), (2, .int un)]) hx hb dX7_elect_98 hl (by decide) rfl (fun ls hl => ?_)
            refine wq_gen (fun Qz hQz => ?_)
            have hLP797 : ∀ (n : Nat) (y798 : Int32) (Ia797 Ja797 : Nat → Nat → Int32) (H : Heap) (locs : List Loc) (ls : Array Slot), (5 - y798.toInt).toNat < n → 0 ≤ y798.toInt → (True) → RM w [] I J Ia797 Ja797 → ML w E Ia797 → MD w Ja797 → MU w Ia797 →  va_P (dC, dI) vwCl (va_pl L (wF cy K N T Ia797 Q Ja797)) H → va_D A (va_pl L (wF cy K N T Ia797 Q Ja797)) → va_S A s.heap H locs → lv_has ls 6 [(5, .int y798), (4, .int (sp_nz v701)), (3, .int v701), (0, .ref (w 0)), (1, .int xp), (2, .int un)] → W p l e (headSpec wsX7_elect ({ frames := 4, cells := 0, slots := 0, locals := 99 })).room s m ([.ref (w 0), .int xp, .int un] : List Value).toArray below meth c H locs 0 0 Qz (F0 m 100 ls []) := by
              intro n
              induction n with
              | zero => intro y798 Ia797 Ja797 H locs ls hms; exact absurd hms (Nat.not_lt_zero _)
              | succ n ih797 =>
                intro y798 Ia797 Ja797 H locs ls hms hnn797 hiv797 hR hML hMD hMU hP hD hS hl
                refine lv_iload hx hb dX7_elect_100 (lv_at hl 0 rfl) ?_
                refine lv_iconst (v := 5) hx hb dX7_elect_102 (by decide) ?_
                refine lv_icmp_ge (tgt := 141) hx hb dX7_elect_103 (by decide) (fun c799 => ?_) (fun c799 => ?_)
                · have kc799 : 5 ≤ y798.toInt := by have h9 := c799; rw [xk_le, xk_5] at h9; exact h9
                  refine lv_aload_n hx hb dX7_elect_141 rfl (lv_at hl 3 rfl) ?_
                  refine lv_iload_n hx hb dX7_elect_142 rfl (lv_at hl 4 rfl) ?_
                  obtain ⟨j800, hj800⟩ := wG_7 (cy := cy) (N := N) (T := T) (I := Ia797) (Q := Q) (J := Ja797) (hM.at 0 (by decide)) (hM.k 0 (by decide) rfl)
                  have hFc := pfree hD hS hA
                  refine va_callv (va_runV (As := [.int xp]) (rest := []) ⟨hx, hb, hml, hown, hts⟩ (c_X7_rise l dC dI cy w L K N T Q Ia797 Ja797 H.size xp hM hth695.1 (hMD _ (vp_lt (n := 4) hth695.1))) (cwV 1 hts gX7_elect_X7_rise rfl rfl rfl (by decide +kernel) ⟨Nat.le_of_ble_eq_true rfl, Nat.le_of_ble_eq_true rfl⟩) ⟨mw_blind, va_recv hK hP (ci := 7) (q0 := j800) rfl hj800, fun U hU hW => ⟨rfl, mw_pre hP hK hD hU hW⟩⟩ rfl rfl hl.1 rfl (lv_room (Nat.le_of_ble_eq_true rfl)) dX7_elect_143 ⟨Nat.le_of_ble_eq_true rfl, Nat.le_of_ble_eq_true rfl⟩) hS (fun q _ h => hFc q h) hFc (fun d9 t H1 locs ht hvm hw hB hz1 hk1 hS => ?_)
                  obtain ⟨I801, J801⟩ := d9
                  obtain ⟨hP, hK1, hD1⟩ := hB
                  rw [ht] at hP
                  have hD := hD1.weaken (fun _ _ _ h => hFc _ h)
                  generalize H1 = H at hP hS ⊢
                  have hP : va_P (dC, dI) vwCl (va_pl L (wF cy K N T I801 Q J801)) H := hP
                  have hD : va_D A (va_pl L (wF cy K N T I801 Q J801)) := hD
                  have hw803 : RZ w Ia797 Ja797 I801 J801 xp.toNatClampNeg := hw
                  have hR : RM w [] I J I801 J801 := hR.rz hM (vp_lt (n := 4) hth695.1) hw803
                  have hMD : MD w J801 := hMD.rz hw803
                  have hMU : MU w I801 := hMU.rz hM (vp_lt (n := 4) hth695.1) hw803
                  have hML : ML w E I801 := hML.rz hM (vp_lt (n := 4) hth695.1) hw803
                  refine lv_iload hx hb dX7_elect_146 (lv_at hl 1 rfl) ?_
                  rw [hQz]
                  exact W.iret (v := (sp_nz v701)) hx hb hr (fun t ht hW => ⟨⟨(sp_nz v701), (I801, J801), rfl, ⟨⟨hML.mono (by omega), hMD, hMU⟩, hR⟩, by rw [ht]; exact hP, va_K.moved hW.alike hK, hD⟩, hS.F ht⟩) hS.2.2 dX7_elect_148
                · have kc799 : ¬ (5 ≤ y798.toInt) := by have h9 := c799; rw [xk_le, xk_5] at h9; exact h9
                  refine lv_aload_n hx hb dX7_elect_106 rfl (lv_at hl 3 rfl) ?_
                  obtain ⟨j804, hj804⟩ := wG_7 (cy := cy) (N := N) (T := T) (I := Ia797) (Q := Q) (J := Ja797) (hM.at 0 (by decide)) (hM.k 0 (by decide) rfl)
                  refine va_get (D := (dC, dI)) (ci := 7) (v := .ref (T (w 0) 0)) (C := RX7) (T := TX7) (N := 18) hx hb hts hi7 hown hK hP j804 hj804 rfl 0 (by decide) (hts (.fieldLink RX7 11 "TallyLogsModel" "log" "[[LTallyLogsModel$Log;") (by decide +kernel)) (fun _ h9 => h9) rfl dX7_elect_107 ?_
                  refine W.eq (g2 := F0 m 110 ls [.ref (w 1)]) (by rw [hM.t 0 (by decide)]) ?_
                  refine lv_iload_n hx hb dX7_elect_110 rfl (lv_at hl 4 rfl) ?_
                  obtain ⟨j805, hj805⟩ := wG_22 (cy := cy) (N := N) (T := T) (I := Ia797) (Q := Q) (J := Ja797) (hM.at 1 (by decide)) (hM.k 1 (by decide) rfl)
                  refine xg_aldg hx hb hK hP j805 2 hj805 rfl hth695.1 dX7_elect_111 ?_
                  refine W.eq (g2 := F0 m 112 ls [.ref (w (17 + xp.toNatClampNeg))]) (by rw [hM.qo (vp_lt (n := 4) hth695.1)]; rfl) ?_
                  refine lv_iload hx hb dX7_elect_112 (lv_at hl 0 rfl) ?_
                  obtain ⟨j806, hj806⟩ := wG_23 (cy := cy) (N := N) (T := T) (I := Ia797) (Q := Q) (J := Ja797) (hM.row (vp_lt (n := 4) hth695.1)).1 (hM.row (vp_lt (n := 4) hth695.1)).2
                  refine va_aldq hx hb hK hP j806 3 hj806 rfl (xin_of hnn797 (by have kc := c799; simp only [xk_lt, xk_le, xk_0, xk_1, xk_2, xk_3, xk_4, xk_5, xk_6, xk_7, xk_8, xk_50] at kc; omega)) dX7_elect_114 ?_
                  have hjl807 : (5 * xp.toNatClampNeg + y798.toNatClampNeg) < 20 := by have h1 := (vp_lt (n := 4) hth695.1); have h2 := (vp_lt (n := 5) (xin_of hnn797 (by have kc := c799; simp only [xk_lt, xk_le, xk_0, xk_1, xk_2, xk_3, xk_4, xk_5, xk_6, xk_7, xk_8, xk_50] at kc; omega))); omega
                  refine W.eq (g2 := F0 m 115 ls [.ref (w (21 + (5 * xp.toNatClampNeg + y798.toNatClampNeg)))]) (by rw [hM.qr (vp_lt (n := 4) hth695.1) (vp_lt (n := 5) (xin_of hnn797 (by have kc := c799; simp only [xk_lt, xk_le, xk_0, xk_1, xk_2, xk_3, xk_4, xk_5, xk_6, xk_7, xk_8, xk_50] at kc; omega)))]; rfl) ?_
                  refine lv_iconst (v := (-1)) hx hb dX7_elect_115 (by decide) ?_
                  obtain ⟨j808, hj808⟩ := wG_6 (cy := cy) (N := N) (T := T) (I := Ia797) (Q := Q) (J := Ja797) (hM.lg hjl807).1 (hM.lg hjl807).2
                  have hDo := hD
                  refine va_put (D := (dC, dI)) (ci := 6) (v := .int (-1)) (ty := .int) (C := RX6) (T := TX6) (N := 7) hx hb hts hi6 tyX6 tyX6_ok nmX6 hown hK hP hD hS j808 hj808 rfl 5 (by decide) (hts (.fieldLink RX7 92 "TallyLogsModel$Log" "known" "I") (by decide +kernel)) (fun _ h9 => h9) rfl (by decide +kernel) rfl rfl (Nat.le_of_ble_eq_true rfl) dX7_elect_116 (fun H locs hP hD hS => ?_)
                  have hP := Eq.mp (congrArg (fun w => va_P (dC, dI) vwCl w H) (wP_6_5 (x := (-1)) hDo (hM.lg hjl807).1 (hM.lg hjl807).2 hj808)) hP
                  obtain ⟨I809, eI809⟩ : ∃ z, z = p2 Ia797 (w (21 + (5 * xp.toNatClampNeg + y798.toNatClampNeg))) 5 (-1) := ⟨_, rfl⟩
                  rw [← eI809] at hP
                  have hD : va_D A (va_pl L (wF cy K N T I809 Q Ja797)) := pD hDo
                  have hR : RM w [] I J I809 Ja797 := by rw [eI809]; exact hR.pl hM hjl807
                  have hMU : MU w I809 := by rw [eI809]; exact hMU.pl hM hjl807
                  have hML : ML w E I809 := by rw [eI809]; exact hML.p56 hM hjl807 (by decide)
                  refine lv_aload_n hx hb dX7_elect_119 rfl (lv_at hl 3 rfl) ?_
                  obtain ⟨j810, hj810⟩ := wG_7 (cy := cy) (N := N) (T := T) (I := I809) (Q := Q) (J := Ja797) (hM.at 0 (by decide)) (hM.k 0 (by decide) rfl)
                  refine va_get (D := (dC, dI)) (ci := 7) (v := .ref (T (w 0) 0)) (C := RX7) (T := TX7) (N := 18) hx hb hts hi7 hown hK hP j810 hj810 rfl 0 (by decide) (hts (.fieldLink RX7 11 "TallyLogsModel" "log" "[[LTallyLogsModel$Log;") (by decide +kernel)) (fun _ h9 => h9) rfl dX7_elect_120 ?_
                  refine W.eq (g2 := F0 m 123 ls [.ref (w 1)]) (by rw [hM.t 0 (by decide)]) ?_
                  refine lv_iload_n hx hb dX7_elect_123 rfl (lv_at hl 4 rfl) ?_
                  obtain ⟨j811, hj811⟩ := wG_22 (cy := cy) (N := N) (T := T) (I := I809) (Q := Q) (J := Ja797) (hM.at 1 (by decide)) (hM.k 1 (by decide) rfl)
                  refine xg_aldg hx hb hK hP j811 2 hj811 rfl hth695.1 dX7_elect_124 ?_
                  refine W.eq (g2 := F0 m 125 ls [.ref (w (17 + xp.toNatClampNeg))]) (by rw [hM.qo (vp_lt (n := 4) hth695.1)]; rfl) ?_
                  refine lv_iload hx hb dX7_elect_125 (lv_at hl 0 rfl) ?_
                  obtain ⟨j812, hj812⟩ := wG_23 (cy := cy) (N := N) (T := T) (I := I809) (Q := Q) (J := Ja797) (hM.row (vp_lt (n := 4) hth695.1)).1 (hM.row (vp_lt (n := 4) hth695.1)).2
                  refine va_aldq hx hb hK hP j812 3 hj812 rfl (xin_of hnn797 (by have kc := c799; simp only [xk_lt, xk_le, xk_0, xk_1, xk_2, xk_3, xk_4, xk_5, xk_6, xk_7, xk_8, xk_50] at kc; omega)) dX7_elect_127 ?_
                  have hjl813 : (5 * xp.toNatClampNeg + y798.toNatClampNeg) < 20 := by have h1 := (vp_lt (n := 4) hth695.1); have h2 := (vp_lt (n := 5) (xin_of hnn797 (by have kc := c799; simp only [xk_lt, xk_le, xk_0, xk_1, xk_2, xk_3, xk_4, xk_5, xk_6, xk_7, xk_8, xk_50] at kc; omega))); omega
                  refine W.eq (g2 := F0 m 128 ls [.ref (w (21 + (5 * xp.toNatClampNeg + y798.toNatClampNeg)))]) (by rw [hM.qr (vp_lt (n := 4) hth695.1) (vp_lt (n := 5) (xin_of hnn797 (by have kc := c799; simp only [xk_lt, xk_le, xk_0, xk_1, xk_2, xk_3, xk_4, xk_5, xk_6, xk_7, xk_8, xk_50] at kc; omega)))]; rfl) ?_
                  refine lv_aload_n hx hb dX7_elect_128 rfl (lv_at hl 3 rfl) ?_
                  obtain ⟨j814, hj814⟩ := wG_7 (cy := cy) (N := N) (T := T) (I := I809) (Q := Q) (J := Ja797) (hM.at 0 (by decide)) (hM.k 0 (by decide) rfl)
                  refine va_get (D := (dC, dI)) (ci := 7) (v := .int (I809 (w 0) 17)) (C := RX7) (T := TX7) (N := 18) hx hb hts hi7 hown hK hP j814 hj814 rfl 17 (by decide) (hts (.fieldLink RX7 119 "TallyLogsModel" "now" "I") (by decide +kernel)) (fun _ h9 => h9) rfl dX7_elect_129 ?_
                  refine lv_topi (fun x815 ex815 => ?_)
                  have ex815 : x815 = Ia797 (w 0) 17 := by rw [ex815, eI809, p2_na _ _ (hM.ne (by omega) (by omega) (by omega))]
                  have tx815 : x815.toInt = (Ia797 (w 0) 17).toInt := congrArg Int32.toInt ex815
                  obtain ⟨j816, hj816⟩ := wG_6 (cy := cy) (N := N) (T := T) (I := I809) (Q := Q) (J := Ja797) (hM.lg hjl813).1 (hM.lg hjl813).2
                  have hDo := hD
                  refine va_put (D := (dC, dI)) (ci := 6) (v := .int x815) (ty := .int) (C := RX6) (T := TX6) (N := 7) hx hb hts hi6 tyX6 tyX6_ok nmX6 hown hK hP hD hS j816 hj816 rfl 6 (by decide) (hts (.fieldLink RX7 122 "TallyLogsModel$Log" "caught" "I") (by decide +kernel)) (fun _ h9 => h9) rfl (by decide +kernel) rfl rfl (Nat.le_of_ble_eq_true rfl) dX7_elect_132 (fun H locs hP hD hS => ?_)
                  have hP := Eq.mp (congrArg (fun w => va_P (dC, dI) vwCl w H) (wP_6_6 (x := x815) hDo (hM.lg hjl813).1 (hM.lg hjl813).2 hj816)) hP
                  obtain ⟨I817, eI817⟩ : ∃ z, z = p2 I809 (w (21 + (5 * xp.toNatClampNeg + y798.toNatClampNeg))) 6 x815 := ⟨_, rfl⟩
                  rw [← eI817] at hP
                  have hD : va_D A (va_pl L (wF cy K N T I817 Q Ja797)) := pD hDo
                  have hR : RM w [] I J I817 Ja797 := by rw [eI817]; exact hR.pl hM hjl813
                  have hMU : MU w I817 := by rw [eI817]; exact hMU.pl hM hjl813
                  have hML : ML w E I817 := by rw [eI817]; exact hML.p56 hM hjl813 (by decide)
                  obtain ⟨v818, ev818⟩ : ∃ y : Int32, y = y798 + Int32.ofInt 1 := ⟨_, rfl⟩
                  refine lv_iinc (v := v818) (lv' := [(5, .int v818), (4, .int (sp_nz v701)), (3, .int v701), (0, .ref (w 0)), (1, .int xp), (2, .int un)]) hx hb dX7_elect_135 hl (k := 0) rfl ev818.symm (by decide) rfl (fun ls hl => ?_)
                  refine lv_goto (tgt := 100) hx hb dX7_elect_138 (by decide) ?_
                  have tv818 : v818.toInt = y798.toInt + 1 := by rw [ev818, show y798 + Int32.ofInt 1 = y798 + 1 from rfl]; exact xinc (y := (5 : Int32)) (by rw [xk_lt, xk_5]; omega)
                  exact ih797 _ _ _ _ _ _ (by omega) (by omega) (trivial) hR (hML.mono (by omega)) hMD hMU hP hD hS (lv_sub hl [0, 1, 2, 3, 4, 5] rfl)
            exact hLP797 _ _ _ _ _ _ _ (Nat.lt_succ_self _) (by decide) (trivial) hR (hML.mono (by omega)) hMD hMU hP hD hS (lv_sub hl [0, 1, 2, 3, 4, 5] rfl)
          · have kc787 : v786.toInt = 0 := by have h9 := c787; rw [xk_eq, xk_0] at h9; exact h9
            refine lv_aload_n hx hb dX7_elect_69 rfl (lv_at hl 2 rfl) ?_
            obtain ⟨j819, hj819⟩ := wG_7 (cy := cy) (N := N) (T := T) (I := I) (Q := Q) (J := J) (hM.at 0 (by decide)) (hM.k 0 (by decide) rfl)
            refine va_get (D := (dC, dI)) (ci := 7) (v := .ref (T (w 0) 6)) (C := RX7) (T := TX7) (N := 18) hx hb hts hi7 hown hK hP j819 hj819 rfl 6 (by decide) (hts (.fieldLink RX7 31 "TallyLogsModel" "step" "[I") (by decide +kernel)) (fun _ h9 => h9) rfl dX7_elect_70 ?_
            refine W.eq (g2 := F0 m 73 ls [.ref (w 7)]) (by rw [hM.t 6 (by decide)]) ?_
            refine lv_iload_n hx hb dX7_elect_73 rfl (lv_at hl 3 rfl) ?_
            refine lv_iconst (v := 1) hx hb dX7_elect_74 (by decide) ?_
            refine lv_iload hx hb dX7_elect_75 (lv_at hl 0 rfl) ?_
            refine lv_ishl hx hb dX7_elect_77 ?_
            refine lv_topi (fun v820 ev820 => ?_)
            obtain ⟨j821, hj821⟩ := wG_20 (cy := cy) (N := N) (T := T) (I := I) (Q := Q) (J := J) (hM.at 7 (by decide)) (hM.k 7 (by decide) rfl)
            have hDo := hD
            refine va_iast (x := v820) hx hb hK hP hD hS j821 1 hj821 rfl (hM.inN (n := 4) 7 (by decide) rfl rfl hth695.1) dX7_elect_78 (fun H locs hP hD hS => ?_)
            have hP := Eq.mp (congrArg (fun w => va_P (dC, dI) vwCl w H) (wS_20 hDo (hM.at 7 (by decide)) (hM.k 7 (by decide) rfl) hj821)) hP
            obtain ⟨J822, eJ822⟩ : ∃ z, z = va_up J (w 7) (upd (J (w 7)) xp.toNatClampNeg v820) := ⟨_, rfl⟩
            rw [← eJ822] at hP
            have hR : RM w [] I J I J822 := by rw [eJ822]; exact hR.pj hM (by decide) (by decide)
            have hD : va_D A (va_pl L (wF cy K N T I Q J822)) := pD hDo
            refine lv_aload_n hx hb dX7_elect_79 rfl (lv_at hl 2 rfl) ?_
            obtain ⟨j823, hj823⟩ := wG_7 (cy := cy) (N := N) (T := T) (I := I) (Q := Q) (J := J822) (hM.at 0 (by decide)) (hM.k 0 (by decide) rfl)
            refine va_get (D := (dC, dI)) (ci := 7) (v := .ref (T (w 0) 3)) (C := RX7) (T := TX7) (N := 18) hx hb hts hi7 hown hK hP j823 hj823 rfl 3 (by decide) (hts (.fieldLink RX7 22 "TallyLogsModel" "leader" "[I") (by decide +kernel)) (fun _ h9 => h9) rfl dX7_elect_80 ?_
            refine W.eq (g2 := F0 m 83 ls [.ref (w 4)]) (by rw [hM.t 3 (by decide)]) ?_
            refine lv_iload_n hx hb dX7_elect_83 rfl (lv_at hl 3 rfl) ?_
            refine lv_iload hx hb dX7_elect_84 (lv_at hl 0 rfl) ?_
            obtain ⟨j824, hj824⟩ := wG_20 (cy := cy) (N := N) (T := T) (I := I) (Q := Q) (J := J822) (hM.at 4 (by decide)) (hM.k 4 (by decide) rfl)
            have hDo := hD
            refine va_iast (x := (sp_nz v701)) hx hb hK hP hD hS j824 1 hj824 rfl (hM.inN (n := 4) 4 (by decide) rfl rfl hth695.1) dX7_elect_86 (fun H locs hP hD hS => ?_)
            have hP := Eq.mp (congrArg (fun w => va_P (dC, dI) vwCl w H) (wS_20 hDo (hM.at 4 (by decide)) (hM.k 4 (by decide) rfl) hj824)) hP
            obtain ⟨J825, eJ825⟩ : ∃ z, z = va_up J822 (w 4) (upd (J822 (w 4)) xp.toNatClampNeg (sp_nz v701)) := ⟨_, rfl⟩
            rw [← eJ825] at hP
            have hR : RM w [] I J I J825 := by rw [eJ825]; exact hR.pj hM (by decide) (by decide)
            have hMD : MD w J825 := by
              rw [eJ825, eJ822]
              refine MD.p4 hM (hMD.p7' hM) (Or.inr ⟨hmy780.1, ?_⟩)
              rw [va_up_self]
              simp only [upd, if_true]
              rw [ev820]
              exact xsh1 _
            have hD : va_D A (va_pl L (wF cy K N T I Q J825)) := pD hDo
            refine lv_aload_n hx hb dX7_elect_87 rfl (lv_at hl 2 rfl) ?_
            obtain ⟨j826, hj826⟩ := wG_7 (cy := cy) (N := N) (T := T) (I := I) (Q := Q) (J := J825) (hM.at 0 (by decide)) (hM.k 0 (by decide) rfl)
            refine va_get (D := (dC, dI)) (ci := 7) (v := .ref (T (w 0) 4)) (C := RX7) (T := TX7) (N := 18) hx hb hts hi7 hown hK hP j826 hj826 rfl 4 (by decide) (hts (.fieldLink RX7 25 "TallyLogsModel" "epoch" "[I") (by decide +kernel)) (fun _ h9 => h9) rfl dX7_elect_88 ?_
            refine W.eq (g2 := F0 m 91 ls [.ref (w 5)]) (by rw [hM.t 4 (by decide)]) ?_
            refine lv_iload_n hx hb dX7_elect_91 rfl (lv_at hl 3 rfl) ?_
            refine lv_dup2_11 hx hb dX7_elect_92 rfl rfl ?_
            obtain ⟨j827, hj827⟩ := wG_20 (cy := cy) (N := N) (T := T) (I := I) (Q := Q) (J := J825) (hM.at 5 (by decide)) (hM.k 5 (by decide) rfl)
            refine va_iald hx hb hK hP j827 1 hj827 rfl (hM.inN (n := 4) 5 (by decide) rfl rfl hth695.1) dX7_elect_93 ?_
            refine lv_topi (fun x828 ex828 => ?_)
            refine lv_iconst (v := 1) hx hb dX7_elect_94 (by decide) ?_
            refine lv_iadd hx hb dX7_elect_95 ?_
            refine lv_topi (fun v829 ev829 => ?_)
            obtain ⟨j830, hj830⟩ := wG_20 (cy := cy) (N := N) (T := T) (I := I) (Q := Q) (J := J825) (hM.at 5 (by decide)) (hM.k 5 (by decide) rfl)
            have hDo := hD
            refine va_iast (x := v829) hx hb hK hP hD hS j830 1 hj830 rfl (hM.inN (n := 4) 5 (by decide) rfl rfl hth695.1) dX7_elect_96 (fun H locs hP hD hS => ?_)
            have hP := Eq.mp (congrArg (fun w => va_P (dC, dI) vwCl w H) (wS_20 hDo (hM.at 5 (by decide)) (hM.k 5 (by decide) rfl) hj830)) hP
            obtain ⟨J831, eJ831⟩ : ∃ z, z = va_up J825 (w 5) (upd (J825 (w 5)) xp.toNatClampNeg v829) := ⟨_, rfl⟩
            rw [← eJ831] at hP
            have hR : RM w [] I J I J831 := by rw [eJ831]; exact hR.pj hM (by decide) (by decide)
            have hMD : MD w J831 := by rw [eJ831]; exact hMD.pj hM (by decide) (by decide)
            have hD : va_D A (va_pl L (wF cy K N T I Q J831)) := pD hDo
            refine lv_iconst (v := 0) hx hb dX7_elect_97 (by decide) ?_
            refine lv_istore (lv' := [(5, .int 0), (4, .int (sp_nz v701)), (3, .int v701), (0, .ref (w 0)), (1, .int xp), (2, .int un)]) hx hb dX7_elect_98 hl (by decide) rfl (fun ls hl => ?_)
            refine wq_gen (fun Qz hQz => ?_)
            have hLP832 : ∀ (n : Nat) (y833 : Int32) (Ia832 Ja832 : Nat → Nat → Int32) (H : Heap) (locs : List Loc) (ls : Array Slot), (5 - y833.toInt).toNat < n → 0 ≤ y833.toInt → (True) → RM w [] I J Ia832 Ja832 → ML w E Ia832 → MD w Ja832 → MU w Ia832 →  va_P (dC, dI) vwCl (va_pl L (wF cy K N T Ia832 Q Ja832)) H → va_D A (va_pl L (wF cy K N T Ia832 Q Ja832)) → va_S A s.heap H locs → lv_has ls 6 [(5, .int y833), (4, .int (sp_nz v701)), (3, .int v701), (0, .ref (w 0)), (1, .int xp), (2, .int un)] → W p l e (headSpec wsX7_elect ({ frames := 4, cells := 0, slots := 0, locals := 99 })).room s m ([.ref (w 0), .int xp, .int un] : List Value).toArray below meth c H locs 0 0 Qz (F0 m 100 ls []) := by
              intro n
              induction n with
              | zero => intro y833 Ia832 Ja832 H locs ls hms; exact absurd hms (Nat.not_lt_zero _)
              | succ n ih832 =>
                intro y833 Ia832 Ja832 H locs ls hms hnn832 hiv832 hR hML hMD hMU hP hD hS hl
                refine lv_iload hx hb dX7_elect_100 (lv_at hl 0 rfl) ?_
                refine lv_iconst (v := 5) hx hb dX7_elect_102 (by decide) ?_
                refine lv_icmp_ge (tgt := 141) hx hb dX7_elect_103 (by decide) (fun c834 => ?_) (fun c834 => ?_)
                · have kc834 : 5 ≤ y833.toInt := by have h9 := c834; rw [xk_le, xk_5] at h9; exact h9
                  refine lv_aload_n hx hb dX7_elect_141 rfl (lv_at hl 3 rfl) ?_
                  refine lv_iload_n hx hb dX7_elect_142 rfl (lv_at hl 4 rfl) ?_
                  obtain ⟨j835, hj835⟩ := wG_7 (cy := cy) (N := N) (T := T) (I := Ia832) (Q := Q) (J := Ja832) (hM.at 0 (by decide)) (hM.k 0 (by decide) rfl)
                  have hFc := pfree hD hS hA
                  refine va_callv (va_runV (As := [.int xp]) (rest := []) ⟨hx, hb, hml, hown, hts⟩ (c_X7_rise l dC dI cy w L K N T Q Ia832 Ja832 H.size xp hM hth695.1 (hMD _ (vp_lt (n := 4) hth695.1))) (cwV 1 hts gX7_elect_X7_rise rfl rfl rfl (by decide +kernel) ⟨Nat.le_of_ble_eq_true rfl, Nat.le_of_ble_eq_true rfl⟩) ⟨mw_blind, va_recv hK hP (ci := 7) (q0 := j835) rfl hj835, fun U hU hW => ⟨rfl, mw_pre hP hK hD hU hW⟩⟩ rfl rfl hl.1 rfl (lv_room (Nat.le_of_ble_eq_true rfl)) dX7_elect_143 ⟨Nat.le_of_ble_eq_true rfl, Nat.le_of_ble_eq_true rfl⟩) hS (fun q _ h => hFc q h) hFc (fun d9 t H1 locs ht hvm hw hB hz1 hk1 hS => ?_)
                  obtain ⟨I836, J836⟩ := d9
                  obtain ⟨hP, hK1, hD1⟩ := hB
                  rw [ht] at hP
                  have hD := hD1.weaken (fun _ _ _ h => hFc _ h)
                  generalize H1 = H at hP hS ⊢
                  have hP : va_P (dC, dI) vwCl (va_pl L (wF cy K N T I836 Q J836)) H := hP
                  have hD : va_D A (va_pl L (wF cy K N T I836 Q J836)) := hD
                  have hw838 : RZ w Ia832 Ja832 I836 J836 xp.toNatClampNeg := hw
                  have hR : RM w [] I J I836 J836 := hR.rz hM (vp_lt (n := 4) hth695.1) hw838
                  have hMD : MD w J836 := hMD.rz hw838
                  have hMU : MU w I836 := hMU.rz hM (vp_lt (n := 4) hth695.1) hw838
                  have hML : ML w E I836 := hML.rz hM (vp_lt (n := 4) hth695.1) hw838
                  refine lv_iload hx hb dX7_elect_146 (lv_at hl 1 rfl) ?_
                  rw [hQz]
                  exact W.iret (v := (sp_nz v701)) hx hb hr (fun t ht hW => ⟨⟨(sp_nz v701), (I836, J836), rfl, ⟨⟨hML.mono (by omega), hMD, hMU⟩, hR⟩, by rw [ht]; exact hP, va_K.moved hW.alike hK, hD⟩, hS.F ht⟩) hS.2.2 dX7_elect_148
                · have kc834 : ¬ (5 ≤ y833.toInt) := by have h9 := c834; rw [xk_le, xk_5] at h9; exact h9
                  refine lv_aload_n hx hb dX7_elect_106 rfl (lv_at hl 3 rfl) ?_
                  obtain ⟨j839, hj839⟩ := wG_7 (cy := cy) (N := N) (T := T) (I := Ia832) (Q := Q) (J := Ja832) (hM.at 0 (by decide)) (hM.k 0 (by decide) rfl)
                  refine va_get (D := (dC, dI)) (ci := 7) (v := .ref (T (w 0) 0)) (C := RX7) (T := TX7) (N := 18) hx hb hts hi7 hown hK hP j839 hj839 rfl 0 (by decide) (hts (.fieldLink RX7 11 "TallyLogsModel" "log" "[[LTallyLogsModel$Log;") (by decide +kernel)) (fun _ h9 => h9) rfl dX7_elect_107 ?_
                  refine W.eq (g2 := F0 m 110 ls [.ref (w 1)]) (by rw [hM.t 0 (by decide)]) ?_
                  refine lv_iload_n hx hb dX7_elect_110 rfl (lv_at hl 4 rfl) ?_
                  obtain ⟨j840, hj840⟩ := wG_22 (cy := cy) (N := N) (T := T) (I := Ia832) (Q := Q) (J := Ja832) (hM.at 1 (by decide)) (hM.k 1 (by decide) rfl)
                  refine xg_aldg hx hb hK hP j840 2 hj840 rfl hth695.1 dX7_elect_111 ?_
                  refine W.eq (g2 := F0 m 112 ls [.ref (w (17 + xp.toNatClampNeg))]) (by rw [hM.qo (vp_lt (n := 4) hth695.1)]; rfl) ?_
                  refine lv_iload hx hb dX7_elect_112 (lv_at hl 0 rfl) ?_
                  obtain ⟨j841, hj841⟩ := wG_23 (cy := cy) (N := N) (T := T) (I := Ia832) (Q := Q) (J := Ja832) (hM.row (vp_lt (n := 4) hth695.1)).1 (hM.row (vp_lt (n := 4) hth695.1)).2
                  refine va_aldq hx hb hK hP j841 3 hj841 rfl (xin_of hnn832 (by have kc := c834; simp only [xk_lt, xk_le, xk_0, xk_1, xk_2, xk_3, xk_4, xk_5, xk_6, xk_7, xk_8, xk_50] at kc; omega)) dX7_elect_114 ?_
                  have hjl842 : (5 * xp.toNatClampNeg + y833.toNatClampNeg) < 20 := by have h1 := (vp_lt (n := 4) hth695.1); have h2 := (vp_lt (n := 5) (xin_of hnn832 (by have kc := c834; simp only [xk_lt, xk_le, xk_0, xk_1, xk_2, xk_3, xk_4, xk_5, xk_6, xk_7, xk_8, xk_50] at kc; omega))); omega
                  refine W.eq (g2 := F0 m 115 ls [.ref (w (21 + (5 * xp.toNatClampNeg + y833.toNatClampNeg)))]) (by rw [hM.qr (vp_lt (n := 4) hth695.1) (vp_lt (n := 5) (xin_of hnn832 (by have kc := c834; simp only [xk_lt, xk_le, xk_0, xk_1, xk_2, xk_3, xk_4, xk_5, xk_6, xk_7, xk_8, xk_50] at kc; omega)))]; rfl) ?_
                  refine lv_iconst (v := (-1)) hx hb dX7_elect_115 (by decide) ?_
                  obtain ⟨j843, hj843⟩ := wG_6 (cy := cy) (N := N) (T := T) (I := Ia832) (Q := Q) (J := Ja832) (hM.lg hjl842).1 (hM.lg hjl842).2
                  have hDo := hD
                  refine va_put (D := (dC, dI)) (ci := 6) (v := .int (-1)) (ty := .int) (C := RX6) (T := TX6) (N := 7) hx hb hts hi6 tyX6 tyX6_ok nmX6 hown hK hP hD hS j843 hj843 rfl 5 (by decide) (hts (.fieldLink RX7 92 "TallyLogsModel$Log" "known" "I") (by decide +kernel)) (fun _ h9 => h9) rfl (by decide +kernel) rfl rfl (Nat.le_of_ble_eq_true rfl) dX7_elect_116 (fun H locs hP hD hS => ?_)
                  have hP := Eq.mp (congrArg (fun w => va_P (dC, dI) vwCl w H) (wP_6_5 (x := (-1)) hDo (hM.lg hjl842).1 (hM.lg hjl842).2 hj843)) hP
                  obtain ⟨I844, eI844⟩ : ∃ z, z = p2 Ia832 (w (21 + (5 * xp.toNatClampNeg + y833.toNatClampNeg))) 5 (-1) := ⟨_, rfl⟩
                  rw [← eI844] at hP
                  have hD : va_D A (va_pl L (wF cy K N T I844 Q Ja832)) := pD hDo
                  have hR : RM w [] I J I844 Ja832 := by rw [eI844]; exact hR.pl hM hjl842
                  have hMU : MU w I844 := by rw [eI844]; exact hMU.pl hM hjl842
                  have hML : ML w E I844 := by rw [eI844]; exact hML.p56 hM hjl842 (by decide)
                  refine lv_aload_n hx hb dX7_elect_119 rfl (lv_at hl 3 rfl) ?_
                  obtain ⟨j845, hj845⟩ := wG_7 (cy := cy) (N := N) (T := T) (I := I844) (Q := Q) (J := Ja832) (hM.at 0 (by decide)) (hM.k 0 (by decide) rfl)
                  refine va_get (D := (dC, dI)) (ci := 7) (v := .ref (T (w 0) 0)) (C := RX7) (T := TX7) (N := 18) hx hb hts hi7 hown hK hP j845 hj845 rfl 0 (by decide) (hts (.fieldLink RX7 11 "TallyLogsModel" "log" "[[LTallyLogsModel$Log;") (by decide +kernel)) (fun _ h9 => h9) rfl dX7_elect_120 ?_
                  refine W.eq (g2 := F0 m 123 ls [.ref (w 1)]) (by rw [hM.t 0 (by decide)]) ?_
                  refine lv_iload_n hx hb dX7_elect_123 rfl (lv_at hl 4 rfl) ?_
                  obtain ⟨j846, hj846⟩ := wG_22 (cy := cy) (N := N) (T := T) (I := I844) (Q := Q) (J := Ja832) (hM.at 1 (by decide)) (hM.k 1 (by decide) rfl)
                  refine xg_aldg hx hb hK hP j846 2 hj846 rfl hth695.1 dX7_elect_124 ?_
                  refine W.eq (g2 := F0 m 125 ls [.ref (w (17 + xp.toNatClampNeg))]) (by rw [hM.qo (vp_lt (n := 4) hth695.1)]; rfl) ?_
                  refine lv_iload hx hb dX7_elect_125 (lv_at hl 0 rfl) ?_
                  obtain ⟨j847, hj847⟩ := wG_23 (cy := cy) (N := N) (T := T) (I := I844) (Q := Q) (J := Ja832) (hM.row (vp_lt (n := 4) hth695.1)).1 (hM.row (vp_lt (n := 4) hth695.1)).2
                  refine va_aldq hx hb hK hP j847 3 hj847 rfl (xin_of hnn832 (by have kc := c834; simp only [xk_lt, xk_le, xk_0, xk_1, xk_2, xk_3, xk_4, xk_5, xk_6, xk_7, xk_8, xk_50] at kc; omega)) dX7_elect_127 ?_
                  have hjl848 : (5 * xp.toNatClampNeg + y833.toNatClampNeg) < 20 := by have h1 := (vp_lt (n := 4) hth695.1); have h2 := (vp_lt (n := 5) (xin_of hnn832 (by have kc := c834; simp only [xk_lt, xk_le, xk_0, xk_1, xk_2, xk_3, xk_4, xk_5, xk_6, xk_7, xk_8, xk_50] at kc; omega))); omega
                  refine W.eq (g2 := F0 m 128 ls [.ref (w (21 + (5 * xp.toNatClampNeg + y833.toNatClampNeg)))]) (by rw [hM.qr (vp_lt (n := 4) hth695.1) (vp_lt (n := 5) (xin_of hnn832 (by have kc := c834; simp only [xk_lt, xk_le, xk_0, xk_1, xk_2, xk_3, xk_4, xk_5, xk_6, xk_7, xk_8, xk_50] at kc; omega)))]; rfl) ?_
                  refine lv_aload_n hx hb dX7_elect_128 rfl (lv_at hl 3 rfl) ?_
                  obtain ⟨j849, hj849⟩ := wG_7 (cy := cy) (N := N) (T := T) (I := I844) (Q := Q) (J := Ja832) (hM.at 0 (by decide)) (hM.k 0 (by decide) rfl)
                  refine va_get (D := (dC, dI)) (ci := 7) (v := .int (I844 (w 0) 17)) (C := RX7) (T := TX7) (N := 18) hx hb hts hi7 hown hK hP j849 hj849 rfl 17 (by decide) (hts (.fieldLink RX7 119 "TallyLogsModel" "now" "I") (by decide +kernel)) (fun _ h9 => h9) rfl dX7_elect_129 ?_
                  refine lv_topi (fun x850 ex850 => ?_)
                  have ex850 : x850 = Ia832 (w 0) 17 := by rw [ex850, eI844, p2_na _ _ (hM.ne (by omega) (by omega) (by omega))]
                  have tx850 : x850.toInt = (Ia832 (w 0) 17).toInt := congrArg Int32.toInt ex850
                  obtain ⟨j851, hj851⟩ := wG_6 (cy := cy) (N := N) (T := T) (I := I844) (Q := Q) (J := Ja832) (hM.lg hjl848).1 (hM.lg hjl848).2
                  have hDo := hD
                  refine va_put (D := (dC, dI)) (ci := 6) (v := .int x850) (ty := .int) (C := RX6) (T := TX6) (N := 7) hx hb hts hi6 tyX6 tyX6_ok nmX6 hown hK hP hD hS j851 hj851 rfl 6 (by decide) (hts (.fieldLink RX7 122 "TallyLogsModel$Log" "caught" "I") (by decide +kernel)) (fun _ h9 => h9) rfl (by decide +kernel) rfl rfl (Nat.le_of_ble_eq_true rfl) dX7_elect_132 (fun H locs hP hD hS => ?_)
                  have hP := Eq.mp (congrArg (fun w => va_P (dC, dI) vwCl w H) (wP_6_6 (x := x850) hDo (hM.lg hjl848).1 (hM.lg hjl848).2 hj851)) hP
                  obtain ⟨I852, eI852⟩ : ∃ z, z = p2 I844 (w (21 + (5 * xp.toNatClampNeg + y833.toNatClampNeg))) 6 x850 := ⟨_, rfl⟩
                  rw [← eI852] at hP
                  have hD : va_D A (va_pl L (wF cy K N T I852 Q Ja832)) := pD hDo
                  have hR : RM w [] I J I852 Ja832 := by rw [eI852]; exact hR.pl hM hjl848
                  have hMU : MU w I852 := by rw [eI852]; exact hMU.pl hM hjl848
                  have hML : ML w E I852 := by rw [eI852]; exact hML.p56 hM hjl848 (by decide)
                  obtain ⟨v853, ev853⟩ : ∃ y : Int32, y = y833 + Int32.ofInt 1 := ⟨_, rfl⟩
                  refine lv_iinc (v := v853) (lv' := [(5, .int v853), (4, .int (sp_nz v701)), (3, .int v701), (0, .ref (w 0)), (1, .int xp), (2, .int un)]) hx hb dX7_elect_135 hl (k := 0) rfl ev853.symm (by decide) rfl (fun ls hl => ?_)
                  refine lv_goto (tgt := 100) hx hb dX7_elect_138 (by decide) ?_
                  have tv853 : v853.toInt = y833.toInt + 1 := by rw [ev853, show y833 + Int32.ofInt 1 = y833 + 1 from rfl]; exact xinc (y := (5 : Int32)) (by rw [xk_lt, xk_5]; omega)
                  exact ih832 _ _ _ _ _ _ (by omega) (by omega) (trivial) hR (hML.mono (by omega)) hMD hMU hP hD hS (lv_sub hl [0, 1, 2, 3, 4, 5] rfl)
            exact hLP832 _ _ _ _ _ _ _ (Nat.lt_succ_self _) (by decide) (trivial) hR (hML.mono (by omega)) hMD hMU hP hD hS (lv_sub hl [0, 1, 2, 3, 4, 5] rfl)
        · have kc779 : v701.toInt = 0 := by have h9 := c779; rw [xk_eq, xk_0] at h9; exact h9
          refine lv_bipush (v := (-2)) hx hb dX7_elect_46 (by decide) ?_
          exact W.iret (v := (-2)) hx hb hr (fun t ht hW => ⟨⟨(-2), (I, J), rfl, ⟨⟨hML.mono (by omega), hMD, hMU⟩, hR⟩, by rw [ht]; exact hP, va_K.moved hW.alike hK, hD⟩, hS.F ht⟩) hS.2.2 dX7_elect_48
      · have kc778 : ¬ (un.toInt = 0) := by have h9 := c778; rw [xk_eq, xk_0] at h9; exact h9
        refine lv_aload_n hx hb dX7_elect_30 rfl (lv_at hl 1 rfl) ?_
        obtain ⟨j854, hj854⟩ := wG_7 (cy := cy) (N := N) (T := T) (I := I) (Q := Q) (J := J) (hM.at 0 (by decide)) (hM.k 0 (by decide) rfl)
        refine va_get (D := (dC, dI)) (ci := 7) (v := .ref (T (w 0) 2)) (C := RX7) (T := TX7) (N := 18) hx hb hts hi7 hown hK hP j854 hj854 rfl 2 (by decide) (hts (.fieldLink RX7 18 "TallyLogsModel" "replicas" "[I") (by decide +kernel)) (fun _ h9 => h9) rfl dX7_elect_31 ?_
        refine W.eq (g2 := F0 m 34 ls [.ref (w 3)]) (by rw [hM.t 2 (by decide)]) ?_
        refine lv_iload_n hx hb dX7_elect_34 rfl (lv_at hl 2 rfl) ?_
        obtain ⟨j855, hj855⟩ := wG_20 (cy := cy) (N := N) (T := T) (I := I) (Q := Q) (J := J) (hM.at 3 (by decide)) (hM.k 3 (by decide) rfl)
        refine va_iald hx hb hK hP j855 1 hj855 rfl (hM.inN (n := 4) 3 (by decide) rfl rfl hth695.1) dX7_elect_35 ?_
        refine lv_topi (fun x856 ex856 => ?_)
        refine lv_aload_n hx hb dX7_elect_36 rfl (lv_at hl 1 rfl) ?_
        obtain ⟨j857, hj857⟩ := wG_7 (cy := cy) (N := N) (T := T) (I := I) (Q := Q) (J := J) (hM.at 0 (by decide)) (hM.k 0 (by decide) rfl)
        refine va_get (D := (dC, dI)) (ci := 7) (v := .int (I (w 0) 16)) (C := RX7) (T := TX7) (N := 18) hx hb hts hi7 hown hK hP j857 hj857 rfl 16 (by decide) (hts (.fieldLink RX7 61 "TallyLogsModel" "up" "I") (by decide +kernel)) (fun _ h9 => h9) rfl dX7_elect_37 ?_
        refine lv_topi (fun x858 ex858 => ?_)
        have tx858 : x858.toInt = (I (w 0) 16).toInt := congrArg Int32.toInt ex858
        refine lv_iand hx hb dX7_elect_40 ?_
        refine lv_topi (fun v859 ev859 => ?_)
        refine lv_istore_n (lv' := [(3, .int v859), (0, .ref (w 0)), (1, .int xp), (2, .int un)]) hx hb dX7_elect_41 rfl hl (by decide) rfl (fun ls hl => ?_)
        refine lv_iload_n hx hb dX7_elect_42 rfl (lv_at hl 0 rfl) ?_
        refine lv_if_ne (tgt := 49) hx hb dX7_elect_43 (by decide) (fun c860 => ?_) (fun c860 => ?_)
        · have kc860 : ¬ (v859.toInt = 0) := by have h9 := c860; rw [xk_eq, xk_0] at h9; exact h9
          have hmy861 := xntz (a := v859) (show ∃ u : Nat, u < 32 ∧ v859 = nI u by rw [ev859, ex858]; exact xu_and' hMU) c860
          refine lv_iload_n hx hb dX7_elect_49 rfl (lv_at hl 0 rfl) ?_
          refine vp_callSi (W.runS (As := [.int v859]) (rest := []) ⟨hx, hb, hml, hown, hts⟩ (c_J6_numberOfTrailingZeros_0f7a4 l v859) (va_cwS 1 hts gX7_elect_J6_numberOfTrailingZeros_0f7a4 rfl rfl rfl (by decide +kernel) ⟨Nat.le_of_ble_eq_true rfl, Nat.le_of_ble_eq_true rfl⟩) preEq rfl rfl hl.1 rfl (lv_room (Nat.le_of_ble_eq_true rfl)) dX7_elect_50 ⟨Nat.le_of_ble_eq_true rfl, Nat.le_of_ble_eq_true rfl⟩) (fun r862 hr862 => ?_)
          subst hr862
          refine lv_istore (lv' := [(4, .int (sp_nz v859)), (3, .int v859), (0, .ref (w 0)), (1, .int xp), (2, .int un)]) hx hb dX7_elect_53 hl (by decide) rfl (fun ls hl => ?_)
          refine lv_aload_n hx hb dX7_elect_55 rfl (lv_at hl 2 rfl) ?_
          obtain ⟨j863, hj863⟩ := wG_7 (cy := cy) (N := N) (T := T) (I := I) (Q := Q) (J := J) (hM.at 0 (by decide)) (hM.k 0 (by decide) rfl)
          refine va_get (D := (dC, dI)) (ci := 7) (v := .ref (T (w 0) 6)) (C := RX7) (T := TX7) (N := 18) hx hb hts hi7 hown hK hP j863 hj863 rfl 6 (by decide) (hts (.fieldLink RX7 31 "TallyLogsModel" "step" "[I") (by decide +kernel)) (fun _ h9 => h9) rfl dX7_elect_56 ?_
          refine W.eq (g2 := F0 m 59 ls [.ref (w 7)]) (by rw [hM.t 6 (by decide)]) ?_
          refine lv_iload_n hx hb dX7_elect_59 rfl (lv_at hl 3 rfl) ?_
          obtain ⟨j864, hj864⟩ := wG_20 (cy := cy) (N := N) (T := T) (I := I) (Q := Q) (J := J) (hM.at 7 (by decide)) (hM.k 7 (by decide) rfl)
          refine va_iald hx hb hK hP j864 1 hj864 rfl (hM.inN (n := 4) 7 (by decide) rfl rfl hth695.1) dX7_elect_60 ?_
          refine lv_topi (fun x865 ex865 => ?_)
          refine lv_iload hx hb dX7_elect_61 (lv_at hl 0 rfl) ?_
          refine lv_ishr hx hb dX7_elect_63 ?_
          refine lv_topi (fun v866 ev866 => ?_)
          refine lv_iconst (v := 1) hx hb dX7_elect_64 (by decide) ?_
          refine lv_iand hx hb dX7_elect_65 ?_
          refine lv_topi (fun v867 ev867 => ?_)
          refine lv_if_ne (tgt := 79) hx hb dX7_elect_66 (by decide) (fun c868 => ?_) (fun c868 => ?_)
          · have kc868 : ¬ (v867.toInt = 0) := by have h9 := c868; rw [xk_eq, xk_0] at h9; exact h9
            refine lv_aload_n hx hb dX7_elect_79 rfl (lv_at hl 2 rfl) ?_
            obtain ⟨j869, hj869⟩ := wG_7 (cy := cy) (N := N) (T := T) (I := I) (Q := Q) (J := J) (hM.at 0 (by decide)) (hM.k 0 (by decide) rfl)
            refine va_get (D := (dC, dI)) (ci := 7) (v := .ref (T (w 0) 3)) (C := RX7) (T := TX7) (N := 18) hx hb hts hi7 hown hK hP j869 hj869 rfl 3 (by decide) (hts (.fieldLink RX7 22 "TallyLogsModel" "leader" "[I") (by decide +kernel)) (fun _ h9 => h9) rfl dX7_elect_80 ?_
            refine W.eq (g2 := F0 m 83 ls [.ref (w 4)]) (by rw [hM.t 3 (by decide)]) ?_
            refine lv_iload_n hx hb dX7_elect_83 rfl (lv_at hl 3 rfl) ?_
            refine lv_iload hx hb dX7_elect_84 (lv_at hl 0 rfl) ?_
            obtain ⟨j870, hj870⟩ := wG_20 (cy := cy) (N := N) (T := T) (I := I) (Q := Q) (J := J) (hM.at 4 (by decide)) (hM.k 4 (by decide) rfl)
            have hDo := hD
            refine va_iast (x := (sp_nz v859)) hx hb hK hP hD hS j870 1 hj870 rfl (hM.inN (n := 4) 4 (by decide) rfl rfl hth695.1) dX7_elect_86 (fun H locs hP hD hS => ?_)
            have hP := Eq.mp (congrArg (fun w => va_P (dC, dI) vwCl w H) (wS_20 hDo (hM.at 4 (by decide)) (hM.k 4 (by decide) rfl) hj870)) hP
            obtain ⟨J871, eJ871⟩ : ∃ z, z = va_up J (w 4) (upd (J (w 4)) xp.toNatClampNeg (sp_nz v859)) := ⟨_, rfl⟩
            rw [← eJ871] at hP
            have hR : RM w [] I J I J871 := by rw [eJ871]; exact hR.pj hM (by decide) (by decide)
            have hMD : MD w J871 := by
              rw [eJ871]
              refine MD.p4 hM (fun p hp _ => hMD p hp) (Or.inr ⟨hmy861.1, ?_⟩)
              have h9 := xbit _ (fun q => c868 ((ev867).trans q))
              rw [ev866, ex865] at h9
              exact h9
            have hD : va_D A (va_pl L (wF cy K N T I Q J871)) := pD hDo
            refine lv_aload_n hx hb dX7_elect_87 rfl (lv_at hl 2 rfl) ?_
            obtain ⟨j872, hj872⟩ := wG_7 (cy := cy) (N := N) (T := T) (I := I) (Q := Q) (J := J871) (hM.at 0 (by decide)) (hM.k 0 (by decide) rfl)
            refine va_get (D := (dC, dI)) (ci := 7) (v := .ref (T (w 0) 4)) (C := RX7) (T := TX7) (N := 18) hx hb hts hi7 hown hK hP j872 hj872 rfl 4 (by decide) (hts (.fieldLink RX7 25 "TallyLogsModel" "epoch" "[I") (by decide +kernel)) (fun _ h9 => h9) rfl dX7_elect_88 ?_
            refine W.eq (g2 := F0 m 91 ls [.ref (w 5)]) (by rw [hM.t 4 (by decide)]) ?_
            refine lv_iload_n hx hb dX7_elect_91 rfl (lv_at hl 3 rfl) ?_
            refine lv_dup2_11 hx hb dX7_elect_92 rfl rfl ?_
            obtain ⟨j873, hj873⟩ := wG_20 (cy := cy) (N := N) (T := T) (I := I) (Q := Q) (J := J871) (hM.at 5 (by decide)) (hM.k 5 (by decide) rfl)
            refine va_iald hx hb hK hP j873 1 hj873 rfl (hM.inN (n := 4) 5 (by decide) rfl rfl hth695.1) dX7_elect_93 ?_
            refine lv_topi (fun x874 ex874 => ?_)
            refine lv_iconst (v := 1) hx hb dX7_elect_94 (by decide) ?_
            refine lv_iadd hx hb dX7_elect_95 ?_
            refine lv_topi (fun v875 ev875 => ?_)
            obtain ⟨j876, hj876⟩ := wG_20 (cy := cy) (N := N) (T := T) (I := I) (Q := Q) (J := J871) (hM.at 5 (by decide)) (hM.k 5 (by decide) rfl)
            have hDo := hD
            refine va_iast (x := v875) hx hb hK hP hD hS j876 1 hj876 rfl (hM.inN (n := 4) 5 (by decide) rfl rfl hth695.1) dX7_elect_96 (fun H locs hP hD hS => ?_)
            have hP := Eq.mp (congrArg (fun w => va_P (dC, dI) vwCl w H) (wS_20 hDo (hM.at 5 (by decide)) (hM.k 5 (by decide) rfl) hj876)) hP
            obtain ⟨J877, eJ877⟩ : ∃ z, z = va_up J871 (w 5) (upd (J871 (w 5)) xp.toNatClampNeg v875) := ⟨_, rfl⟩
            rw [← eJ877] at hP
            have hR : RM w [] I J I J877 := by rw [eJ877]; exact hR.pj hM (by decide) (by decide)
            have hMD : MD w J877 := by rw [eJ877]; exact hMD.pj hM (by decide) (by decide)
            have hD : va_D A (va_pl L (wF cy K N T I Q J877)) := pD hDo
            refine lv_iconst (v := 0) hx hb dX7_elect_97 (by decide) ?_
            refine lv_istore (lv' := [(5, .int 0), (4, .int (sp_nz v859)), (3, .int v859), (0, .ref (w 0)), (1, .int xp), (2, .int un)]) hx hb dX7_elect_98 hl (by decide) rfl (fun ls hl => ?_)
            refine wq_gen (fun Qz hQz => ?_)
            have hLP878 : ∀ (n : Nat) (y879 : Int32) (Ia878 Ja878 : Nat → Nat → Int32) (H : Heap) (locs : List Loc) (ls : Array Slot), (5 - y879.toInt).toNat < n → 0 ≤ y879.toInt → (True) → RM w [] I J Ia878 Ja878 → ML w E Ia878 → MD w Ja878 → MU w Ia878 →  va_P (dC, dI) vwCl (va_pl L (wF cy K N T Ia878 Q Ja878)) H → va_D A (va_pl L (wF cy K N T Ia878 Q Ja878)) → va_S A s.heap H locs → lv_has ls 6 [(5, .int y879), (4, .int (sp_nz v859)), (3, .int v859), (0, .ref (w 0)), (1, .int xp), (2, .int un)] → W p l e (headSpec wsX7_elect ({ frames := 4, cells := 0, slots := 0, locals := 99 })).room s m ([.ref (w 0), .int xp, .int un] : List Value).toArray below meth c H locs 0 0 Qz (F0 m 100 ls []) := by
              intro n
              induction n with
              | zero => intro y879 Ia878 Ja878 H locs ls hms; exact absurd hms (Nat.not_lt_zero _)
              | succ n ih878 =>
                intro y879 Ia878 Ja878 H locs ls hms hnn878 hiv878 hR hML hMD hMU hP hD hS hl
                refine lv_iload hx hb dX7_elect_100 (lv_at hl 0 rfl) ?_
                refine lv_iconst (v := 5) hx hb dX7_elect_102 (by decide) ?_
                refine lv_icmp_ge (tgt := 141) hx hb dX7_elect_103 (by decide) (fun c880 => ?_) (fun c880 => ?_)
                · have kc880 : 5 ≤ y879.toInt := by have h9 := c880; rw [xk_le, xk_5] at h9; exact h9
                  refine lv_aload_n hx hb dX7_elect_141 rfl (lv_at hl 3 rfl) ?_
                  refine lv_iload_n hx hb dX7_elect_142 rfl (lv_at hl 4 rfl) ?_
                  obtain ⟨j881, hj881⟩ := wG_7 (cy := cy) (N := N) (T := T) (I := Ia878) (Q := Q) (J := Ja878) (hM.at 0 (by decide)) (hM.k 0 (by decide) rfl)
                  have hFc := pfree hD hS hA
                  refine va_callv (va_runV (As := [.int xp]) (rest := []) ⟨hx, hb, hml, hown, hts⟩ (c_X7_rise l dC dI cy w L K N T Q Ia878 Ja878 H.size xp hM hth695.1 (hMD _ (vp_lt (n := 4) hth695.1))) (cwV 1 hts gX7_elect_X7_rise rfl rfl rfl (by decide +kernel) ⟨Nat.le_of_ble_eq_true rfl, Nat.le_of_ble_eq_true rfl⟩) ⟨mw_blind, va_recv hK hP (ci := 7) (q0 := j881) rfl hj881, fun U hU hW => ⟨rfl, mw_pre hP hK hD hU hW⟩⟩ rfl rfl hl.1 rfl (lv_room (Nat.le_of_ble_eq_true rfl)) dX7_elect_143 ⟨Nat.le_of_ble_eq_true rfl, Nat.le_of_ble_eq_true rfl⟩) hS (fun q _ h => hFc q h) hFc (fun d9 t H1 locs ht hvm hw hB hz1 hk1 hS => ?_)
                  obtain ⟨I882, J882⟩ := d9
                  obtain ⟨hP, hK1, hD1⟩ := hB
                  rw [ht] at hP
                  have hD := hD1.weaken (fun _ _ _ h => hFc _ h)
                  generalize H1 = H at hP hS ⊢
                  have hP : va_P (dC, dI) vwCl (va_pl L (wF cy K N T I882 Q J882)) H := hP
                  have hD : va_D A (va_pl L (wF cy K N T I882 Q J882)) := hD
                  have hw884 : RZ w Ia878 Ja878 I882 J882 xp.toNatClampNeg := hw
                  have hR : RM w [] I J I882 J882 := hR.rz hM (vp_lt (n := 4) hth695.1) hw884
                  have hMD : MD w J882 := hMD.rz hw884
                  have hMU : MU w I882 := hMU.rz hM (vp_lt (n := 4) hth695.1) hw884
                  have hML : ML w E I882 := hML.rz hM (vp_lt (n := 4) hth695.1) hw884
                  refine lv_iload hx hb dX7_elect_146 (lv_at hl 1 rfl) ?_
                  rw [hQz]
                  exact W.iret (v := (sp_nz v859)) hx hb hr (fun t ht hW => ⟨⟨(sp_nz v859), (I882, J882), rfl, ⟨⟨hML.mono (by omega), hMD, hMU⟩, hR⟩, by rw [ht]; exact hP, va_K.moved hW.alike hK, hD⟩, hS.F ht⟩) hS.2.2 dX7_elect_148
                · have kc880 : ¬ (5 ≤ y879.toInt) := by have h9 := c880; rw [xk_le, xk_5] at h9; exact h9
                  refine lv_aload_n hx hb dX7_elect_106 rfl (lv_at hl 3 rfl) ?_
                  obtain ⟨j885, hj885⟩ := wG_7 (cy := cy) (N := N) (T := T) (I := Ia878) (Q := Q) (J := Ja878) (hM.at 0 (by decide)) (hM.k 0 (by decide) rfl)
                  refine va_get (D := (dC, dI)) (ci := 7) (v := .ref (T (w 0) 0)) (C := RX7) (T := TX7) (N := 18) hx hb hts hi7 hown hK hP j885 hj885 rfl 0 (by decide) (hts (.fieldLink RX7 11 "TallyLogsModel" "log" "[[LTallyLogsModel$Log;") (by decide +kernel)) (fun _ h9 => h9) rfl dX7_elect_107 ?_
                  refine W.eq (g2 := F0 m 110 ls [.ref (w 1)]) (by rw [hM.t 0 (by decide)]) ?_
                  refine lv_iload_n hx hb dX7_elect_110 rfl (lv_at hl 4 rfl) ?_
                  obtain ⟨j886, hj886⟩ := wG_22 (cy := cy) (N := N) (T := T) (I := Ia878) (Q := Q) (J := Ja878) (hM.at 1 (by decide)) (hM.k 1 (by decide) rfl)
                  refine xg_aldg hx hb hK hP j886 2 hj886 rfl hth695.1 dX7_elect_111 ?_
                  refine W.eq (g2 := F0 m 112 ls [.ref (w (17 + xp.toNatClampNeg))]) (by rw [hM.qo (vp_lt (n := 4) hth695.1)]; rfl) ?_
                  refine lv_iload hx hb dX7_elect_112 (lv_at hl 0 rfl) ?_
                  obtain ⟨j887, hj887⟩ := wG_23 (cy := cy) (N := N) (T := T) (I := Ia878) (Q := Q) (J := Ja878) (hM.row (vp_lt (n := 4) hth695.1)).1 (hM.row (vp_lt (n := 4) hth695.1)).2
                  refine va_aldq hx hb hK hP j887 3 hj887 rfl (xin_of hnn878 (by have kc := c880; simp only [xk_lt, xk_le, xk_0, xk_1, xk_2, xk_3, xk_4, xk_5, xk_6, xk_7, xk_8, xk_50] at kc; omega)) dX7_elect_114 ?_
                  have hjl888 : (5 * xp.toNatClampNeg + y879.toNatClampNeg) < 20 := by have h1 := (vp_lt (n := 4) hth695.1); have h2 := (vp_lt (n := 5) (xin_of hnn878 (by have kc := c880; simp only [xk_lt, xk_le, xk_0, xk_1, xk_2, xk_3, xk_4, xk_5, xk_6, xk_7, xk_8, xk_50] at kc; omega))); omega
                  refine W.eq (g2 := F0 m 115 ls [.ref (w (21 + (5 * xp.toNatClampNeg + y879.toNatClampNeg)))]) (by rw [hM.qr (vp_lt (n := 4) hth695.1) (vp_lt (n := 5) (xin_of hnn878 (by have kc := c880; simp only [xk_lt, xk_le, xk_0, xk_1, xk_2, xk_3, xk_4, xk_5, xk_6, xk_7, xk_8, xk_50] at kc; omega)))]; rfl) ?_
                  refine lv_iconst (v := (-1)) hx hb dX7_elect_115 (by decide) ?_
                  obtain ⟨j889, hj889⟩ := wG_6 (cy := cy) (N := N) (T := T) (I := Ia878) (Q := Q) (J := Ja878) (hM.lg hjl888).1 (hM.lg hjl888).2
                  have hDo := hD
                  refine va_put (D := (dC, dI)) (ci := 6) (v := .int (-1)) (ty := .int) (C := RX6) (T := TX6) (N := 7) hx hb hts hi6 tyX6 tyX6_ok nmX6 hown hK hP hD hS j889 hj889 rfl 5 (by decide) (hts (.fieldLink RX7 92 "TallyLogsModel$Log" "known" "I") (by decide +kernel)) (fun _ h9 => h9) rfl (by decide +kernel) rfl rfl (Nat.le_of_ble_eq_true rfl) dX7_elect_116 (fun H locs hP hD hS => ?_)
                  have hP := Eq.mp (congrArg (fun w => va_P (dC, dI) vwCl w H) (wP_6_5 (x := (-1)) hDo (hM.lg hjl888).1 (hM.lg hjl888).2 hj889)) hP
                  obtain ⟨I890, eI890⟩ : ∃ z, z = p2 Ia878 (w (21 + (5 * xp.toNatClampNeg + y879.toNatClampNeg))) 5 (-1) := ⟨_, rfl⟩
                  rw [← eI890] at hP
                  have hD : va_D A (va_pl L (wF cy K N T I890 Q Ja878)) := pD hDo
                  have hR : RM w [] I J I890 Ja878 := by rw [eI890]; exact hR.pl hM hjl888
                  have hMU : MU w I890 := by rw [eI890]; exact hMU.pl hM hjl888
                  have hML : ML w E I890 := by rw [eI890]; exact hML.p56 hM hjl888 (by decide)
                  refine lv_aload_n hx hb dX7_elect_119 rfl (lv_at hl 3 rfl) ?_
                  obtain ⟨j891, hj891⟩ := wG_7 (cy := cy) (N := N) (T := T) (I := I890) (Q := Q) (J := Ja878) (hM.at 0 (by decide)) (hM.k 0 (by decide) rfl)
                  refine va_get (D := (dC, dI)) (ci := 7) (v := .ref (T (w 0) 0)) (C := RX7) (T := TX7) (N := 18) hx hb hts hi7 hown hK hP j891 hj891 rfl 0 (by decide) (hts (.fieldLink RX7 11 "TallyLogsModel" "log" "[[LTallyLogsModel$Log;") (by decide +kernel)) (fun _ h9 => h9) rfl dX7_elect_120 ?_
                  refine W.eq (g2 := F0 m 123 ls [.ref (w 1)]) (by rw [hM.t 0 (by decide)]) ?_
                  refine lv_iload_n hx hb dX7_elect_123 rfl (lv_at hl 4 rfl) ?_
                  obtain ⟨j892, hj892⟩ := wG_22 (cy := cy) (N := N) (T := T) (I := I890) (Q := Q) (J := Ja878) (hM.at 1 (by decide)) (hM.k 1 (by decide) rfl)
                  refine xg_aldg hx hb hK hP j892 2 hj892 rfl hth695.1 dX7_elect_124 ?_
                  refine W.eq (g2 := F0 m 125 ls [.ref (w (17 + xp.toNatClampNeg))]) (by rw [hM.qo (vp_lt (n := 4) hth695.1)]; rfl) ?_
                  refine lv_iload hx hb dX7_elect_125 (lv_at hl 0 rfl) ?_
                  obtain ⟨j893, hj893⟩ := wG_23 (cy := cy) (N := N) (T := T) (I := I890) (Q := Q) (J := Ja878) (hM.row (vp_lt (n := 4) hth695.1)).1 (hM.row (vp_lt (n := 4) hth695.1)).2
                  refine va_aldq hx hb hK hP j893 3 hj893 rfl (xin_of hnn878 (by have kc := c880; simp only [xk_lt, xk_le, xk_0, xk_1, xk_2, xk_3, xk_4, xk_5, xk_6, xk_7, xk_8, xk_50] at kc; omega)) dX7_elect_127 ?_
                  have hjl894 : (5 * xp.toNatClampNeg + y879.toNatClampNeg) < 20 := by have h1 := (vp_lt (n := 4) hth695.1); have h2 := (vp_lt (n := 5) (xin_of hnn878 (by have kc := c880; simp only [xk_lt, xk_le, xk_0, xk_1, xk_2, xk_3, xk_4, xk_5, xk_6, xk_7, xk_8, xk_50] at kc; omega))); omega
                  refine W.eq (g2 := F0 m 128 ls [.ref (w (21 + (5 * xp.toNatClampNeg + y879.toNatClampNeg)))]) (by rw [hM.qr (vp_lt (n := 4) hth695.1) (vp_lt (n := 5) (xin_of hnn878 (by have kc := c880; simp only [xk_lt, xk_le, xk_0, xk_1, xk_2, xk_3, xk_4, xk_5, xk_6, xk_7, xk_8, xk_50] at kc; omega)))]; rfl) ?_
                  refine lv_aload_n hx hb dX7_elect_128 rfl (lv_at hl 3 rfl) ?_
                  obtain ⟨j895, hj895⟩ := wG_7 (cy := cy) (N := N) (T := T) (I := I890) (Q := Q) (J := Ja878) (hM.at 0 (by decide)) (hM.k 0 (by decide) rfl)
                  refine va_get (D := (dC, dI)) (ci := 7) (v := .int (I890 (w 0) 17)) (C := RX7) (T := TX7) (N := 18) hx hb hts hi7 hown hK hP j895 hj895 rfl 17 (by decide) (hts (.fieldLink RX7 119 "TallyLogsModel" "now" "I") (by decide +kernel)) (fun _ h9 => h9) rfl dX7_elect_129 ?_
                  refine lv_topi (fun x896 ex896 => ?_)
                  have ex896 : x896 = Ia878 (w 0) 17 := by rw [ex896, eI890, p2_na _ _ (hM.ne (by omega) (by omega) (by omega))]
                  have tx896 : x896.toInt = (Ia878 (w 0) 17).toInt := congrArg Int32.toInt ex896
                  obtain ⟨j897, hj897⟩ := wG_6 (cy := cy) (N := N) (T := T) (I := I890) (Q := Q) (J := Ja878) (hM.lg hjl894).1 (hM.lg hjl894).2
                  have hDo := hD
                  refine va_put (D := (dC, dI)) (ci := 6) (v := .int x896) (ty := .int) (C := RX6) (T := TX6) (N := 7) hx hb hts hi6 tyX6 tyX6_ok nmX6 hown hK hP hD hS j897 hj897 rfl 6 (by decide) (hts (.fieldLink RX7 122 "TallyLogsModel$Log" "caught" "I") (by decide +kernel)) (fun _ h9 => h9) rfl (by decide +kernel) rfl rfl (Nat.le_of_ble_eq_true rfl) dX7_elect_132 (fun H locs hP hD hS => ?_)
                  have hP := Eq.mp (congrArg (fun w => va_P (dC, dI) vwCl w H) (wP_6_6 (x := x896) hDo (hM.lg hjl894).1 (hM.lg hjl894).2 hj897)) hP
                  obtain ⟨I898, eI898⟩ : ∃ z, z = p2 I890 (w (21 + (5 * xp.toNatClampNeg + y879.toNatClampNeg))) 6 x896 := ⟨_, rfl⟩
                  rw [← eI898] at hP
                  have hD : va_D A (va_pl L (wF cy K N T I898 Q Ja878)) := pD hDo
                  have hR : RM w [] I J I898 Ja878 := by rw [eI898]; exact hR.pl hM hjl894
                  have hMU : MU w I898 := by rw [eI898]; exact hMU.pl hM hjl894
                  have hML : ML w E I898 := by rw [eI898]; exact hML.p56 hM hjl894 (by decide)
                  obtain ⟨v899, ev899⟩ : ∃ y : Int32, y = y879 + Int32.ofInt 1 := ⟨_, rfl⟩
                  refine lv_iinc (v := v899) (lv' := [(5, .int v899), (4, .int (sp_nz v859)), (3, .int v859), (0, .ref (w 0)), (1, .int xp), (2, .int un)]) hx hb dX7_elect_135 hl (k := 0) rfl ev899.symm (by decide) rfl (fun ls hl => ?_)
                  refine lv_goto (tgt := 100) hx hb dX7_elect_138 (by decide) ?_
                  have tv899 : v899.toInt = y879.toInt + 1 := by rw [ev899, show y879 + Int32.ofInt 1 = y879 + 1 from rfl]; exact xinc (y := (5 : Int32)) (by rw [xk_lt, xk_5]; omega)
                  exact ih878 _ _ _ _ _ _ (by omega) (by omega) (trivial) hR (hML.mono (by omega)) hMD hMU hP hD hS (lv_sub hl [0, 1, 2, 3, 4, 5] rfl)
            exact hLP878 _ _ _ _ _ _ _ (Nat.lt_succ_self _) (by decide) (trivial) hR (hML.mono (by omega)) hMD hMU hP hD hS (lv_sub hl [0, 1, 2, 3, 4, 5] rfl)
          · have kc868 : v867.toInt = 0 := by have h9 := c868; rw [xk_eq, xk_0] at h9; exact h9
            refine lv_aload_n hx hb dX7_elect_69 rfl (lv_at hl 2 rfl) ?_
            obtain ⟨j900, hj900⟩ := wG_7 (cy := cy) (N := N) (T := T) (I := I) (Q := Q) (J := J) (hM.at 0 (by decide)) (hM.k 0 (by decide) rfl)
            refine va_get (D := (dC, dI)) (ci := 7) (v := .ref (T (w 0) 6)) (C := RX7) (T := TX7) (N := 18) hx hb hts hi7 hown hK hP j900 hj900 rfl 6 (by decide) (hts (.fieldLink RX7 31 "TallyLogsModel" "step" "[I") (by decide +kernel)) (fun _ h9 => h9) rfl dX7_elect_70 ?_
            refine W.eq (g2 := F0 m 73 ls [.ref (w 7)]) (by rw [hM.t 6 (by decide)]) ?_
            refine lv_iload_n hx hb dX7_elect_73 rfl (lv_at hl 3 rfl) ?_
            refine lv_iconst (v := 1) hx hb dX7_elect_74 (by decide) ?_
            refine lv_iload hx hb dX7_elect_75 (lv_at hl 0 rfl) ?_
            refine lv_ishl hx hb dX7_elect_77 ?_
            refine lv_topi (fun v901 ev901 => ?_)
            obtain ⟨j902, hj902⟩ := wG_20 (cy := cy) (N := N) (T := T) (I := I) (Q := Q) (J := J) (hM.at 7 (by decide)) (hM.k 7 (by decide) rfl)
            have hDo := hD
            refine va_iast (x := v901) hx hb hK hP hD hS j902 1 hj902 rfl (hM.inN (n := 4) 7 (by decide) rfl rfl hth695.1) dX7_elect_78 (fun H locs hP hD hS => ?_)
            have hP := Eq.mp (congrArg (fun w => va_P (dC, dI) vwCl w H) (wS_20 hDo (hM.at 7 (by decide)) (hM.k 7 (by decide) rfl) hj902)) hP
            obtain ⟨J903, eJ903⟩ : ∃ z, z = va_up J (w 7) (upd (J (w 7)) xp.toNatClampNeg v901) := ⟨_, rfl⟩
            rw [← eJ903] at hP
            have hR : RM w [] I J I J903 := by rw [eJ903]; exact hR.pj hM (by decide) (by decide)
            have hD : va_D A (va_pl L (wF cy K N T I Q J903)) := pD hDo
            refine lv_aload_n hx hb dX7_elect_79 rfl (lv_at hl 2 rfl) ?_
            obtain ⟨j904, hj904⟩ := wG_7 (cy := cy) (N := N) (T := T) (I := I) (Q := Q) (J := J903) (hM.at 0 (by decide)) (hM.k 0 (by decide) rfl)
            refine va_get (D := (dC, dI)) (ci := 7) (v := .ref (T (w 0) 3)) (C := RX7) (T := TX7) (N := 18) hx hb hts hi7 hown hK hP j904 hj904 rfl 3 (by decide) (hts (.fieldLink RX7 22 "TallyLogsModel" "leader" "[I") (by decide +kernel)) (fun _ h9 => h9) rfl dX7_elect_80 ?_
            refine W.eq (g2 := F0 m 83 ls [.ref (w 4)]) (by rw [hM.t 3 (by decide)]) ?_
            refine lv_iload_n hx hb dX7_elect_83 rfl (lv_at hl 3 rfl) ?_
            refine lv_iload hx hb dX7_elect_84 (lv_at hl 0 rfl) ?_
            obtain ⟨j905, hj905⟩ := wG_20 (cy := cy) (N := N) (T := T) (I := I) (Q := Q) (J := J903) (hM.at 4 (by decide)) (hM.k 4 (by decide) rfl)
            have hDo := hD
            refine va_iast (x := (sp_nz v859)) hx hb hK hP hD hS j905 1 hj905 rfl (hM.inN (n := 4) 4 (by decide) rfl rfl hth695.1) dX7_elect_86 (fun H locs hP hD hS => ?_)
            have hP := Eq.mp (congrArg (fun w => va_P (dC, dI) vwCl w H) (wS_20 hDo (hM.at 4 (by decide)) (hM.k 4 (by decide) rfl) hj905)) hP
            obtain ⟨J906, eJ906⟩ : ∃ z, z = va_up J903 (w 4) (upd (J903 (w 4)) xp.toNatClampNeg (sp_nz v859)) := ⟨_, rfl⟩
            rw [← eJ906] at hP
            have hR : RM w [] I J I J906 := by rw [eJ906]; exact hR.pj hM (by decide) (by decide)
            have hMD : MD w J906 := by
              rw [eJ906, eJ903]
              refine MD.p4 hM (hMD.p7' hM) (Or.inr ⟨hmy861.1, ?_⟩)
              rw [va_up_self]
              simp only [upd, if_true]
              rw [ev901]
              exact xsh1 _
            have hD : va_D A (va_pl L (wF cy K N T I Q J906)) := pD hDo
            refine lv_aload_n hx hb dX7_elect_87 rfl (lv_at hl 2 rfl) ?_
            obtain ⟨j907, hj907⟩ := wG_7 (cy := cy) (N := N) (T := T) (I := I) (Q := Q) (J := J906) (hM.at 0 (by decide)) (hM.k 0 (by decide) rfl)
            refine va_get (D := (dC, dI)) (ci := 7) (v := .ref (T (w 0) 4)) (C := RX7) (T := TX7) (N := 18) hx hb hts hi7 hown hK hP j907 hj907 rfl 4 (by decide) (hts (.fieldLink RX7 25 "TallyLogsModel" "epoch" "[I") (by decide +kernel)) (fun _ h9 => h9) rfl dX7_elect_88 ?_
            refine W.eq (g2 := F0 m 91 ls [.ref (w 5)]) (by rw [hM.t 4 (by decide)]) ?_
            refine lv_iload_n hx hb dX7_elect_91 rfl (lv_at hl 3 rfl) ?_
            refine lv_dup2_11 hx hb dX7_elect_92 rfl rfl ?_
            obtain ⟨j908, hj908⟩ := wG_20 (cy := cy) (N := N) (T := T) (I := I) (Q := Q) (J := J906) (hM.at 5 (by decide)) (hM.k 5 (by decide) rfl)
            refine va_iald hx hb hK hP j908 1 hj908 rfl (hM.inN (n := 4) 5 (by decide) rfl rfl hth695.1) dX7_elect_93 ?_
            refine lv_topi (fun x909 ex909 => ?_)
            refine lv_iconst (v := 1) hx hb dX7_elect_94 (by decide) ?_
            refine lv_iadd hx hb dX7_elect_95 ?_
            refine lv_topi (fun v910 ev910 => ?_)
            obtain ⟨j911, hj911⟩ := wG_20 (cy := cy) (N := N) (T := T) (I := I) (Q := Q) (J := J906) (hM.at 5 (by decide)) (hM.k 5 (by decide) rfl)
            have hDo := hD
            refine va_iast (x := v910) hx hb hK hP hD hS j911 1 hj911 rfl (hM.inN (n := 4) 5 (by decide) rfl rfl hth695.1) dX7_elect_96 (fun H locs hP hD hS => ?_)
            have hP := Eq.mp (congrArg (fun w => va_P (dC, dI) vwCl w H) (wS_20 hDo (hM.at 5 (by decide)) (hM.k 5 (by decide) rfl) hj911)) hP
            obtain ⟨J912, eJ912⟩ : ∃ z, z = va_up J906 (w 5) (upd (J906 (w 5)) xp.toNatClampNeg v910) := ⟨_, rfl⟩
            rw [← eJ912] at hP
            have hR : RM w [] I J I J912 := by rw [eJ912]; exact hR.pj hM (by decide) (by decide)
            have hMD : MD w J912 := by rw [eJ912]; exact hMD.pj hM (by decide) (by decide)
            have hD : va_D A (va_pl L (wF cy K N T I Q J912)) := pD hDo
            refine lv_iconst (v := 0) hx hb dX7_elect_97 (by decide) ?_
            refine lv_istore (lv' := [(5, .int 0), (4, .int (sp_nz v859)), (3, .int v859), (0, .ref (w 0)), (1, .int xp), (2, .int un)]) hx hb dX7_elect_98 hl (by decide) rfl (fun ls hl => ?_)
            refine wq_gen (fun Qz hQz => ?_)
            have hLP913 : ∀ (n : Nat) (y914 : Int32) (Ia913 Ja913 : Nat → Nat → Int32) (H : Heap) (locs : List Loc) (ls : Array Slot), (5 - y914.toInt).toNat < n → 0 ≤ y914.toInt → (True) → RM w [] I J Ia913 Ja913 → ML w E Ia913 → MD w Ja913 → MU w Ia913 →  va_P (dC, dI) vwCl (va_pl L (wF cy K N T Ia913 Q Ja913)) H → va_D A (va_pl L (wF cy K N T Ia913 Q Ja913)) → va_S A s.heap H locs → lv_has ls 6 [(5, .int y914), (4, .int (sp_nz v859)), (3, .int v859), (0, .ref (w 0)), (1, .int xp), (2, .int un)] → W p l e (headSpec wsX7_elect ({ frames := 4, cells := 0, slots := 0, locals := 99 })).room s m ([.ref (w 0), .int xp, .int un] : List Value).toArray below meth c H locs 0 0 Qz (F0 m 100 ls []) := by
              intro n
              induction n with
              | zero => intro y914 Ia913 Ja913 H locs ls hms; exact absurd hms (Nat.not_lt_zero _)
              | succ n ih913 =>
                intro y914 Ia913 Ja913 H locs ls hms hnn913 hiv913 hR hML hMD hMU hP hD hS hl
                refine lv_iload hx hb dX7_elect_100 (lv_at hl 0 rfl) ?_
                refine lv_iconst (v := 5) hx hb dX7_elect_102 (by decide) ?_
                refine lv_icmp_ge (tgt := 141) hx hb dX7_elect_103 (by decide) (fun c915 => ?_) (fun c915 => ?_)
                · have kc915 : 5 ≤ y914.toInt := by have h9 := c915; rw [xk_le, xk_5] at h9; exact h9
                  refine lv_aload_n hx hb dX7_elect_141 rfl (lv_at hl 3 rfl) ?_
                  refine lv_iload_n hx hb dX7_elect_142 rfl (lv_at hl 4 rfl) ?_
                  obtain ⟨j916, hj916⟩ := wG_7 (cy := cy) (N := N) (T := T) (I := Ia913) (Q := Q) (J := Ja913) (hM.at 0 (by decide)) (hM.k 0 (by decide) rfl)
                  have hFc := pfree hD hS hA
                  refine va_callv (va_runV (As := [.int xp]) (rest := []) ⟨hx, hb, hml, hown, hts⟩ (c_X7_rise l dC dI cy w L K N T Q Ia913 Ja913 H.size xp hM hth695.1 (hMD _ (vp_lt (n := 4) hth695.1))) (cwV 1 hts gX7_elect_X7_rise rfl rfl rfl (by decide +kernel) ⟨Nat.le_of_ble_eq_true rfl, Nat.le_of_ble_eq_true rfl⟩) ⟨mw_blind, va_recv hK hP (ci := 7) (q0 := j916) rfl hj916, fun U hU hW => ⟨rfl, mw_pre hP hK hD hU hW⟩⟩ rfl rfl hl.1 rfl (lv_room (Nat.le_of_ble_eq_true rfl)) dX7_elect_143 ⟨Nat.le_of_ble_eq_true rfl, Nat.le_of_ble_eq_true rfl⟩) hS (fun q _ h => hFc q h) hFc (fun d9 t H1 locs ht hvm hw hB hz1 hk1 hS => ?_)
                  obtain ⟨I917, J917⟩ := d9
                  obtain ⟨hP, hK1, hD1⟩ := hB
                  rw [ht] at hP
                  have hD := hD1.weaken (fun _ _ _ h => hFc _ h)
                  generalize H1 = H at hP hS ⊢
                  have hP : va_P (dC, dI) vwCl (va_pl L (wF cy K N T I917 Q J917)) H := hP
                  have hD : va_D A (va_pl L (wF cy K N T I917 Q J917)) := hD
                  have hw919 : RZ w Ia913 Ja913 I917 J917 xp.toNatClampNeg := hw
                  have hR : RM w [] I J I917 J917 := hR.rz hM (vp_lt (n := 4) hth695.1) hw919
                  have hMD : MD w J917 := hMD.rz hw919
                  have hMU : MU w I917 := hMU.rz hM (vp_lt (n := 4) hth695.1) hw919
                  have hML : ML w E I917 := hML.rz hM (vp_lt (n := 4) hth695.1) hw919
                  refine lv_iload hx hb dX7_elect_146 (lv_at hl 1 rfl) ?_
                  rw [hQz]
                  exact W.iret (v := (sp_nz v859)) hx hb hr (fun t ht hW => ⟨⟨(sp_nz v859), (I917, J917), rfl, ⟨⟨hML.mono (by omega), hMD, hMU⟩, hR⟩, by rw [ht]; exact hP, va_K.moved hW.alike hK, hD⟩, hS.F ht⟩) hS.2.2 dX7_elect_148
                · have kc915 : ¬ (5 ≤ y914.toInt) := by have h9 := c915; rw [xk_le, xk_5] at h9; exact h9
                  refine lv_aload_n hx hb dX7_elect_106 rfl (lv_at hl 3 rfl) ?_
                  obtain ⟨j920, hj920⟩ := wG_7 (cy := cy) (N := N) (T := T) (I := Ia913) (Q := Q) (J := Ja913) (hM.at 0 (by decide)) (hM.k 0 (by decide) rfl)
                  refine va_get (D := (dC, dI)) (ci := 7) (v := .ref (T (w 0) 0)) (C := RX7) (T := TX7) (N := 18) hx hb hts hi7 hown hK hP j920 hj920 rfl 0 (by decide) (hts (.fieldLink RX7 11 "TallyLogsModel" "log" "[[LTallyLogsModel$Log;") (by decide +kernel)) (fun _ h9 => h9) rfl dX7_elect_107 ?_
                  refine W.eq (g2 := F0 m 110 ls [.ref (w 1)]) (by rw [hM.t 0 (by decide)]) ?_
                  refine lv_iload_n hx hb dX7_elect_110 rfl (lv_at hl 4 rfl) ?_
                  obtain ⟨j921, hj921⟩ := wG_22 (cy := cy) (N := N) (T := T) (I := Ia913) (Q := Q) (J := Ja913) (hM.at 1 (by decide)) (hM.k 1 (by decide) rfl)
                  refine xg_aldg hx hb hK hP j921 2 hj921 rfl hth695.1 dX7_elect_111 ?_
                  refine W.eq (g2 := F0 m 112 ls [.ref (w (17 + xp.toNatClampNeg))]) (by rw [hM.qo (vp_lt (n := 4) hth695.1)]; rfl) ?_
                  refine lv_iload hx hb dX7_elect_112 (lv_at hl 0 rfl) ?_
                  obtain ⟨j922, hj922⟩ := wG_23 (cy := cy) (N := N) (T := T) (I := Ia913) (Q := Q) (J := Ja913) (hM.row (vp_lt (n := 4) hth695.1)).1 (hM.row (vp_lt (n := 4) hth695.1)).2
                  refine va_aldq hx hb hK hP j922 3 hj922 rfl (xin_of hnn913 (by have kc := c915; simp only [xk_lt, xk_le, xk_0, xk_1, xk_2, xk_3, xk_4, xk_5, xk_6, xk_7, xk_8, xk_50] at kc; omega)) dX7_elect_114 ?_
                  have hjl923 : (5 * xp.toNatClampNeg + y914.toNatClampNeg) < 20 := by have h1 := (vp_lt (n := 4) hth695.1); have h2 := (vp_lt (n := 5) (xin_of hnn913 (by have kc := c915; simp only [xk_lt, xk_le, xk_0, xk_1, xk_2, xk_3, xk_4, xk_5, xk_6, xk_7, xk_8, xk_50] at kc; omega))); omega
                  refine W.eq (g2 := F0 m 115 ls [.ref (w (21 + (5 * xp.toNatClampNeg + y914.toNatClampNeg)))]) (by rw [hM.qr (vp_lt (n := 4) hth695.1) (vp_lt (n := 5) (xin_of hnn913 (by have kc := c915; simp only [xk_lt, xk_le, xk_0, xk_1, xk_2, xk_3, xk_4, xk_5, xk_6, xk_7, xk_8, xk_50] at kc; omega)))]; rfl) ?_
                  refine lv_iconst (v := (-1)) hx hb dX7_elect_115 (by decide) ?_
                  obtain ⟨j924, hj924⟩ := wG_6 (cy := cy) (N := N) (T := T) (I := Ia913) (Q := Q) (J := Ja913) (hM.lg hjl923).1 (hM.lg hjl923).2
                  have hDo := hD
                  refine va_put (D := (dC, dI)) (ci := 6) (v := .int (-1)) (ty := .int) (C := RX6) (T := TX6) (N := 7) hx hb hts hi6 tyX6 tyX6_ok nmX6 hown hK hP hD hS j924 hj924 rfl 5 (by decide) (hts (.fieldLink RX7 92 "TallyLogsModel$Log" "known" "I") (by decide +kernel)) (fun _ h9 => h9) rfl (by decide +kernel) rfl rfl (Nat.le_of_ble_eq_true rfl) dX7_elect_116 (fun H locs hP hD hS => ?_)
                  have hP := Eq.mp (congrArg (fun w => va_P (dC, dI) vwCl w H) (wP_6_5 (x := (-1)) hDo (hM.lg hjl923).1 (hM.lg hjl923).2 hj924)) hP
                  obtain ⟨I925, eI925⟩ : ∃ z, z = p2 Ia913 (w (21 + (5 * xp.toNatClampNeg + y914.toNatClampNeg))) 5 (-1) := ⟨_, rfl⟩
                  rw [← eI925] at hP
                  have hD : va_D A (va_pl L (wF cy K N T I925 Q Ja913)) := pD hDo
                  have hR : RM w [] I J I925 Ja913 := by rw [eI925]; exact hR.pl hM hjl923
                  have hMU : MU w I925 := by rw [eI925]; exact hMU.pl hM hjl923
                  have hML : ML w E I925 := by rw [eI925]; exact hML.p56 hM hjl923 (by decide)
                  refine lv_aload_n hx hb dX7_elect_119 rfl (lv_at hl 3 rfl) ?_
                  obtain ⟨j926, hj926⟩ := wG_7 (cy := cy) (N := N) (T := T) (I := I925) (Q := Q) (J := Ja913) (hM.at 0 (by decide)) (hM.k 0 (by decide) rfl)
                  refine va_get (D := (dC, dI)) (ci := 7) (v := .ref (T (w 0) 0)) (C := RX7) (T := TX7) (N := 18) hx hb hts hi7 hown hK hP j926 hj926 rfl 0 (by decide) (hts (.fieldLink RX7 11 "TallyLogsModel" "log" "[[LTallyLogsModel$Log;") (by decide +kernel)) (fun _ h9 => h9) rfl dX7_elect_120 ?_
                  refine W.eq (g2 := F0 m 123 ls [.ref (w 1)]) (by rw [hM.t 0 (by decide)]) ?_
                  refine lv_iload_n hx hb dX7_elect_123 rfl (lv_at hl 4 rfl) ?_
                  obtain ⟨j927, hj927⟩ := wG_22 (cy := cy) (N := N) (T := T) (I := I925) (Q := Q) (J := Ja913) (hM.at 1 (by decide)) (hM.k 1 (by decide) rfl)
                  refine xg_aldg hx hb hK hP j927 2 hj927 rfl hth695.1 dX7_elect_124 ?_
                  refine W.eq (g2 := F0 m 125 ls [.ref (w (17 + xp.toNatClampNeg))]) (by rw [hM.qo (vp_lt (n := 4) hth695.1)]; rfl) ?_
                  refine lv_iload hx hb dX7_elect_125 (lv_at hl 0 rfl) ?_
                  obtain ⟨j928, hj928⟩ := wG_23 (cy := cy) (N := N) (T := T) (I := I925) (Q := Q) (J := Ja913) (hM.row (vp_lt (n := 4) hth695.1)).1 (hM.row (vp_lt (n := 4) hth695.1)).2
                  refine va_aldq hx hb hK hP j928 3 hj928 rfl (xin_of hnn913 (by have kc := c915; simp only [xk_lt, xk_le, xk_0, xk_1, xk_2, xk_3, xk_4, xk_5, xk_6, xk_7, xk_8, xk_50] at kc; omega)) dX7_elect_127 ?_
                  have hjl929 : (5 * xp.toNatClampNeg + y914.toNatClampNeg) < 20 := by have h1 := (vp_lt (n := 4) hth695.1); have h2 := (vp_lt (n := 5) (xin_of hnn913 (by have kc := c915; simp only [xk_lt, xk_le, xk_0, xk_1, xk_2, xk_3, xk_4, xk_5, xk_6, xk_7, xk_8, xk_50] at kc; omega))); omega
                  refine W.eq (g2 := F0 m 128 ls [.ref (w (21 + (5 * xp.toNatClampNeg + y914.toNatClampNeg)))]) (by rw [hM.qr (vp_lt (n := 4) hth695.1) (vp_lt (n := 5) (xin_of hnn913 (by have kc := c915; simp only [xk_lt, xk_le, xk_0, xk_1, xk_2, xk_3, xk_4, xk_5, xk_6, xk_7, xk_8, xk_50] at kc; omega)))]; rfl) ?_
                  refine lv_aload_n hx hb dX7_elect_128 rfl (lv_at hl 3 rfl) ?_
                  obtain ⟨j930, hj930⟩ := wG_7 (cy := cy) (N := N) (T := T) (I := I925) (Q := Q) (J := Ja913) (hM.at 0 (by decide)) (hM.k 0 (by decide) rfl)
                  refine va_get (D := (dC, dI)) (ci := 7) (v := .int (I925 (w 0) 17)) (C := RX7) (T := TX7) (N := 18) hx hb hts hi7 hown hK hP j930 hj930 rfl 17 (by decide) (hts (.fieldLink RX7 119 "TallyLogsModel" "now" "I") (by decide +kernel)) (fun _ h9 => h9) rfl dX7_elect_129 ?_
                  refine lv_topi (fun x931 ex931 => ?_)
                  have ex931 : x931 = Ia913 (w 0) 17 := by rw [ex931, eI925, p2_na _ _ (hM.ne (by omega) (by omega) (by omega))]
                  have tx931 : x931.toInt = (Ia913 (w 0) 17).toInt := congrArg Int32.toInt ex931
                  obtain ⟨j932, hj932⟩ := wG_6 (cy := cy) (N := N) (T := T) (I := I925) (Q := Q) (J := Ja913) (hM.lg hjl929).1 (hM.lg hjl929).2
                  have hDo := hD
                  refine va_put (D := (dC, dI)) (ci := 6) (v := .int x931) (ty := .int) (C := RX6) (T := TX6) (N := 7) hx hb hts hi6 tyX6 tyX6_ok nmX6 hown hK hP hD hS j932 hj932 rfl 6 (by decide) (hts (.fieldLink RX7 122 "TallyLogsModel$Log" "caught" "I") (by decide +kernel)) (fun _ h9 => h9) rfl (by decide +kernel) rfl rfl (Nat.le_of_ble_eq_true rfl) dX7_elect_132 (fun H locs hP hD hS => ?_)
                  have hP := Eq.mp (congrArg (fun w => va_P (dC, dI) vwCl w H) (wP_6_6 (x := x931) hDo (hM.lg hjl929).1 (hM.lg hjl929).2 hj932)) hP
                  obtain ⟨I933, eI933⟩ : ∃ z, z = p2 I925 (w (21 + (5 * xp.toNatClampNeg + y914.toNatClampNeg))) 6 x931 := ⟨_, rfl⟩
                  rw [← eI933] at hP
                  have hD : va_D A (va_pl L (wF cy K N T I933 Q Ja913)) := pD hDo
                  have hR : RM w [] I J I933 Ja913 := by rw [eI933]; exact hR.pl hM hjl929
                  have hMU : MU w I933 := by rw [eI933]; exact hMU.pl hM hjl929
                  have hML : ML w E I933 := by rw [eI933]; exact hML.p56 hM hjl929 (by decide)
                  obtain ⟨v934, ev934⟩ : ∃ y : Int32, y = y914 + Int32.ofInt 1 := ⟨_, rfl⟩
                  refine lv_iinc (v := v934) (lv' := [(5, .int v934), (4, .int (sp_nz v859)), (3, .int v859), (0, .ref (w 0)), (1, .int xp), (2, .int un)]) hx hb dX7_elect_135 hl (k := 0) rfl ev934.symm (by decide) rfl (fun ls hl => ?_)
                  refine lv_goto (tgt := 100) hx hb dX7_elect_138 (by decide) ?_
                  have tv934 : v934.toInt = y914.toInt + 1 := by rw [ev934, show y914 + Int32.ofInt 1 = y914 + 1 from rfl]; exact xinc (y := (5 : Int32)) (by rw [xk_lt, xk_5]; omega)
                  exact ih913 _ _ _ _ _ _ (by omega) (by omega) (trivial) hR (hML.mono (by omega)) hMD hMU hP hD hS (lv_sub hl [0, 1, 2, 3, 4, 5] rfl)
            exact hLP913 _ _ _ _ _ _ _ (Nat.lt_succ_self _) (by decide) (trivial) hR (hML.mono (by omega)) hMD hMU hP hD hS (lv_sub hl [0, 1, 2, 3, 4, 5] rfl)
        · have kc860 : v859.toInt = 0 := by have h9 := c860; rw [xk_eq, xk_0] at h9; exact h9
          refine lv_bipush (v := (-2)) hx hb dX7_elect_46 (by decide) ?_
          exact W.iret (v := (-2)) hx hb hr (fun t ht hW => ⟨⟨(-2), (I, J), rfl, ⟨⟨hML.mono (by omega), hMD, hMU⟩, hR⟩, by rw [ht]; exact hP, va_K.moved hW.alike hK, hD⟩, hS.F ht⟩) hS.2.2 dX7_elect_48
  · have kc694 : r692.toInt = 0 := by have h9 := c694; rw [xk_eq, xk_0] at h9; exact h9
    refine lv_iconst (v := (-1)) hx hb dX7_elect_8 (by decide) ?_
    exact W.iret (v := (-1)) hx hb hr (fun t ht hW => ⟨⟨(-1), (I, J), rfl, ⟨⟨hML.mono (by omega), hMD, hMU⟩, hR⟩, by rw [ht]; exact hP, va_K.moved hW.alike hK, hD⟩, hS.F ht⟩) hS.2.2 dX7_elect_9
