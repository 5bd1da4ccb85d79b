set_option maxHeartbeats 4000000 in
set_option maxRecDepth 100000 in
/-- create: what is there -/
theorem e_X7_create (l : Launch) (dC : Nat → ClassId) (dI : Nat → Nat → Nat) (cy : Nat → ClassId) (w : Nat → Nat) (L : List Nat) (K N : Nat → Nat) (T : Nat → Nat → Nat) (Q : Nat → Nat → Option Nat) (I J : Nat → Nat → Int32) (sz : Nat) (E : Int) (xp : Int32) (xr : Int32) (xl : Int32) (hM : MS w L K N T Q) (hI : MI w E I J) (hE : E ≤ 1000) : Met l yX7_create wsX7_create ({ frames := 1, cells := 0, slots := 0, locals := 27 }) (va_Pc [.ref (w 0), .int xp, .int xr, .int xl] (mW dC dI cy L (wF cy K N T I Q J) sz)) (va_Qi (fun (r : Int32) (d : (Nat → Nat → Int32) × (Nat → Nat → Int32)) => MI w (E + 5) d.1 d.2 ∧ RM w [] I (if sp_ck (I (w 0) 16) (zN (J (w 2) xp.toNatClampNeg)) xp xr xl then va_up J (w 2) (upd (J (w 2)) xp.toNatClampNeg 1) else J) d.1 d.2) (fun (d : (Nat → Nat → Int32) × (Nat → Nat → Int32)) t => va_P (dC, dI) vwCl (va_pl L (wF cy K N T d.1 Q d.2)) t.heap ∧ va_K (dC, dI) vwCl (mTy cy) t ∧ va_D (va_A (va_pl L (wF cy K N T I Q J)) sz) (va_pl L (wF cy K N T d.1 Q d.2))) (va_A (va_pl L (wF cy K N T I Q J)) sz)) 0 0 (va_A (va_pl L (wF cy K N T I Q J)) sz) := by
  refine Met.ofW (cc := cX7_create) (maxL := 6) (ret := (some .int)) (by decide) rfl ?_
  intro p e s m args below meth c s₁ B hml hv
  obtain ⟨rfl, hsz, ⟨hP, hK⟩, hD0⟩ := hv
  have hx := B.exec
  have hb := B.bytes
  have hr := B.returns
  have hts := atoms_spec (ws := wsX7_create) B.pre
  have hown : s.vm.findClass RX7 = some m.cls := findClass_of_methodNamed B.named
  have hlocks := B.notSynchronized
  have hi7 : ∀ w ∈ wsX70, w ∈ wsX7_create := by decide +kernel
  have hi6 : ∀ w ∈ wsX60, w ∈ wsX7_create := by decide +kernel
  have hl := lv_entry ([.ref (w 0), .int xp, .int xr, .int xl]) (n := 6) (Nat.le_of_ble_eq_true rfl)
  rw [lg_entry_eq]
  generalize (lg_sl ([.ref (w 0), .int xp, .int xr, .int xl]) ++ List.replicate (6 - (lg_sl ([.ref (w 0), .int xp, .int xr, .int xl])).length) Slot.unset).toArray = ls at hl ⊢
  have hl : lv_has ls 6 [(0, .ref (w 0)), (1, .int xp), (2, .int xr), (3, .int xl)] := hl
  subst hsz
  have hD := hD0.self (sz := s.heap.size)
  generalize hAe : va_A (va_pl L (wF cy K N T I Q J)) s.heap.size = A at hD ⊢
  have hA : ∀ q : Nat, s.heap.size ≤ q → A q := fun q h => by rw [← hAe]; exact Or.inr h
  have hS : va_S A s.heap s.heap [] := va_S.rf
  have hR : RM w [2] I J I J := RM.rf
  obtain ⟨hML, hMD, hMU⟩ := hI
  refine lv_iload_n hx hb dX7_create_0 rfl (lv_at hl 2 rfl) ?_
  refine lv_bipush (v := 31) hx hb dX7_create_1 (by decide) ?_
  refine lv_iand hx hb dX7_create_3 ?_
  refine lv_topi (fun v200134 ev200134 => ?_)
  refine lv_istore (lv' := [(4, .int v200134), (0, .ref (w 0)), (1, .int xp), (2, .int xr), (3, .int xl)]) hx hb dX7_create_4 hl (by decide) rfl (fun ls hl => ?_)
  refine lv_iload_n hx hb dX7_create_6 rfl (lv_at hl 2 rfl) ?_
  refine lv_i2l (v := xp.toInt64) hx hb dX7_create_7 rfl ?_
  refine lv_lconst (v := 0) hx hb dX7_create_8 (by decide) ?_
  refine lv_ldc2 hx hb hown (hts (.constantLong RX7 80 3) (by decide +kernel)) dX7_create_9 ?_
  refine vp_callSi (W.runS (As := [.long xp.toInt64, .long 0, .long 3]) (rest := []) ⟨hx, hb, hml, hown, hts⟩ (c_X7_in l xp.toInt64 0 3) (va_cwS 3 hts gX7_create_X7_in rfl rfl rfl (by decide +kernel) ⟨Nat.le_of_ble_eq_true rfl, Nat.le_of_ble_eq_true rfl⟩) preEq rfl rfl hl.1 rfl (lv_room (Nat.le_of_ble_eq_true rfl)) dX7_create_12 ⟨Nat.le_of_ble_eq_true rfl, Nat.le_of_ble_eq_true rfl⟩) (fun r200135 hr200135 => ?_)
  subst hr200135
  refine lv_if_eq (tgt := 42) hx hb dX7_create_15 (by decide) (fun c200136 => ?_) (fun c200136 => ?_)
  · refine lv_iconst (v := (-1)) hx hb dX7_create_42 (by decide) ?_
    exact W.iret (v := (-1)) hx hb hr (fun t ht hW => ⟨⟨(-1), (I, J), rfl, ⟨⟨hML.mono (by omega), hMD, hMU⟩, by show RM w [] I (if sp_ck (I (w 0) 16) (zN (J (w 2) xp.toNatClampNeg)) xp xr xl then va_up J (w 2) (upd (J (w 2)) xp.toNatClampNeg 1) else J) _ _; rw [if_neg (fun q => by have q0 := q.1; have kc200136 := (sp_in_0 xp 0 3).mp c200136; simp only [xk_eq, Int32.toInt_toInt64, xk_lt, xk_le, xk_0, xk_1, xk_2, xk_3, xk_4, xk_5, xk_6, xk_7, xk_8, xk_50, xl_0, xl_1, xl_3, xl_4, xl_5, xl_6, xl_7, xl_50] at kc200136; omega)]; exact hR.no (fun k hk he => rfl)⟩, by rw [ht]; exact hP, va_K.moved hW.alike hK, hD⟩, hS.F ht⟩) hS.2.2 dX7_create_43
  · have hin200138 : vp_in xp 4 := xin_sp c200136 (by decide)
    refine lv_aload_n hx hb dX7_create_18 rfl (lv_at hl 1 rfl) ?_
    obtain ⟨j200139, hj200139⟩ := wG_7 (cy := cy) (N := N) (T := T) (I := I) (Q := Q) (J := J) (hM.at 0 (by decide)) (hM.k 0 (by decide) rfl)
    refine va_get (D := (dC, dI)) (ci := 7) (v := .ref (T (w 0) 1)) (C := RX7) (T := TX7) (N := 18) hx hb hts hi7 hown hK hP j200139 hj200139 rfl 1 (by decide) (hts (.fieldLink RX7 14 "TallyLogsModel" "there" "[Z") (by decide +kernel)) (fun _ h9 => h9) rfl dX7_create_19 ?_
    refine W.eq (g2 := F0 m 22 ls [.ref (w 2)]) (by rw [hM.t 1 (by decide)]) ?_
    refine lv_iload_n hx hb dX7_create_22 rfl (lv_at hl 2 rfl) ?_
    obtain ⟨j200140, hj200140⟩ := wG_21 (cy := cy) (N := N) (T := T) (I := I) (Q := Q) (J := J) (hM.at 2 (by decide)) (hM.k 2 (by decide) rfl)
    refine va_zald hx hb hK hP j200140 0 hj200140 rfl hin200138 dX7_create_23 ?_
    refine lv_topi (fun x200141 ex200141 => ?_)
    refine lv_if_ne (tgt := 42) hx hb dX7_create_24 (by decide) (fun c200142 => ?_) (fun c200142 => ?_)
    · have kc200142 : ¬ (x200141.toInt = 0) := by have h9 := c200142; rw [xk_eq, xk_0] at h9; exact h9
      refine lv_iconst (v := (-1)) hx hb dX7_create_42 (by decide) ?_
      exact W.iret (v := (-1)) hx hb hr (fun t ht hW => ⟨⟨(-1), (I, J), rfl, ⟨⟨hML.mono (by omega), hMD, hMU⟩, by show RM w [] I (if sp_ck (I (w 0) 16) (zN (J (w 2) xp.toNatClampNeg)) xp xr xl then va_up J (w 2) (upd (J (w 2)) xp.toNatClampNeg 1) else J) _ _; rw [if_neg (fun q => c200142 (by rw [ex200141]; exact zN_0.mp q.2.1))]; exact hR.no (fun k hk he => rfl)⟩, by rw [ht]; exact hP, va_K.moved hW.alike hK, hD⟩, hS.F ht⟩) hS.2.2 dX7_create_43
    · have kc200142 : x200141.toInt = 0 := by have h9 := c200142; rw [xk_eq, xk_0] at h9; exact h9
      refine lv_iload_n hx hb dX7_create_27 rfl (lv_at hl 4 rfl) ?_
      refine lv_i2l (v := xl.toInt64) hx hb dX7_create_28 rfl ?_
      refine lv_lconst (v := 1) hx hb dX7_create_29 (by decide) ?_
      refine lv_iload hx hb dX7_create_30 (lv_at hl 0 rfl) ?_
      refine vp_callSi (W.runS (As := [.int v200134]) (rest := [.long 1, .long xl.toInt64]) ⟨hx, hb, hml, hown, hts⟩ (c_J6_bitCount_0f7a4 l v200134) (va_cwS 1 hts gX7_create_J6_bitCount_0f7a4 rfl rfl rfl (by decide +kernel) ⟨Nat.le_of_ble_eq_true rfl, Nat.le_of_ble_eq_true rfl⟩) preEq rfl rfl hl.1 rfl (lv_room (Nat.le_of_ble_eq_true rfl)) dX7_create_32 ⟨Nat.le_of_ble_eq_true rfl, Nat.le_of_ble_eq_true rfl⟩) (fun r200144 hr200144 => ?_)
      subst hr200144
      refine lv_i2l (v := (sp_bc v200134).toInt64) hx hb dX7_create_35 rfl ?_
      refine vp_callSi (W.runS (As := [.long xl.toInt64, .long 1, .long ((sp_bc v200134).toInt64)]) (rest := []) ⟨hx, hb, hml, hown, hts⟩ (c_X7_in l xl.toInt64 1 ((sp_bc v200134).toInt64)) (va_cwS 3 hts gX7_create_X7_in rfl rfl rfl (by decide +kernel) ⟨Nat.le_of_ble_eq_true rfl, Nat.le_of_ble_eq_true rfl⟩) preEq rfl rfl hl.1 rfl (lv_room (Nat.le_of_ble_eq_true rfl)) dX7_create_36 ⟨Nat.le_of_ble_eq_true rfl, Nat.le_of_ble_eq_true rfl⟩) (fun r200145 hr200145 => ?_)
      subst hr200145
      refine lv_if_ne (tgt := 44) hx hb dX7_create_39 (by decide) (fun c200146 => ?_) (fun c200146 => ?_)
      · have hbt200147 : 1 ≤ xl.toInt ∧ xl.toInt ≤ (sp_bc (xr &&& 31)).toInt := by have k9 := (not_congr (sp_in_0 xl 1 (sp_bc v200134).toInt64)).mp c200146; rw [xl_1, Int32.toInt_toInt64, ev200134] at k9; omega
        refine lv_iload hx hb dX7_create_44 (lv_at hl 0 rfl) ?_
        refine lv_aload_n hx hb dX7_create_46 rfl (lv_at hl 1 rfl) ?_
        obtain ⟨j200148, hj200148⟩ := wG_7 (cy := cy) (N := N) (T := T) (I := I) (Q := Q) (J := J) (hM.at 0 (by decide)) (hM.k 0 (by decide) rfl)
        refine va_get (D := (dC, dI)) (ci := 7) (v := .int (I (w 0) 16)) (C := RX7) (T := TX7) (N := 18) hx hb hts hi7 hown hK hP j200148 hj200148 rfl 16 (by decide) (hts (.fieldLink RX7 61 "TallyLogsModel" "up" "I") (by decide +kernel)) (fun _ h9 => h9) rfl dX7_create_47 ?_
        refine lv_topi (fun x200149 ex200149 => ?_)
        have tx200149 : x200149.toInt = (I (w 0) 16).toInt := congrArg Int32.toInt ex200149
        refine lv_iand hx hb dX7_create_50 ?_
        refine lv_topi (fun v200150 ev200150 => ?_)
        refine lv_if_ne (tgt := 57) hx hb dX7_create_51 (by decide) (fun c200151 => ?_) (fun c200151 => ?_)
        · have kc200151 : ¬ (v200150.toInt = 0) := by have h9 := c200151; rw [xk_eq, xk_0] at h9; exact h9
          refine lv_aload_n hx hb dX7_create_57 rfl (lv_at hl 1 rfl) ?_
          obtain ⟨j200152, hj200152⟩ := wG_7 (cy := cy) (N := N) (T := T) (I := I) (Q := Q) (J := J) (hM.at 0 (by decide)) (hM.k 0 (by decide) rfl)
          refine va_get (D := (dC, dI)) (ci := 7) (v := .ref (T (w 0) 1)) (C := RX7) (T := TX7) (N := 18) hx hb hts hi7 hown hK hP j200152 hj200152 rfl 1 (by decide) (hts (.fieldLink RX7 14 "TallyLogsModel" "there" "[Z") (by decide +kernel)) (fun _ h9 => h9) rfl dX7_create_58 ?_
          refine W.eq (g2 := F0 m 61 ls [.ref (w 2)]) (by rw [hM.t 1 (by decide)]) ?_
          refine lv_iload_n hx hb dX7_create_61 rfl (lv_at hl 2 rfl) ?_
          refine lv_iconst (v := 1) hx hb dX7_create_62 (by decide) ?_
          obtain ⟨j200153, hj200153⟩ := wG_21 (cy := cy) (N := N) (T := T) (I := I) (Q := Q) (J := J) (hM.at 2 (by decide)) (hM.k 2 (by decide) rfl)
          have hDo := hD
          refine va_zast (x := 1) hx hb hK hP hD hS j200153 0 hj200153 rfl hin200138 dX7_create_63 (fun H locs hP hD hS => ?_)
          have hP := Eq.mp (congrArg (fun w => va_P (dC, dI) vwCl w H) (wS_21 hDo (hM.at 2 (by decide)) (hM.k 2 (by decide) rfl) hj200153)) hP
          obtain ⟨J200154, eJ200154⟩ : ∃ z, z = va_up J (w 2) (upd (J (w 2)) xp.toNatClampNeg (vp_nar .boolean 1)) := ⟨_, rfl⟩
          rw [← eJ200154] at hP
          have hR : RM w [2] I J I J200154 := by rw [eJ200154]; exact hR.pj hM (by decide) (by decide)
          have hMD : MD w J200154 := by rw [eJ200154]; exact hMD.pj hM (by decide) (by decide)
          have hD : va_D A (va_pl L (wF cy K N T I Q J200154)) := pD hDo
          refine lv_aload_n hx hb dX7_create_64 rfl (lv_at hl 1 rfl) ?_
          obtain ⟨j200155, hj200155⟩ := wG_7 (cy := cy) (N := N) (T := T) (I := I) (Q := Q) (J := J200154) (hM.at 0 (by decide)) (hM.k 0 (by decide) rfl)
          refine va_get (D := (dC, dI)) (ci := 7) (v := .ref (T (w 0) 2)) (C := RX7) (T := TX7) (N := 18) hx hb hts hi7 hown hK hP j200155 hj200155 rfl 2 (by decide) (hts (.fieldLink RX7 18 "TallyLogsModel" "replicas" "[I") (by decide +kernel)) (fun _ h9 => h9) rfl dX7_create_65 ?_
          refine W.eq (g2 := F0 m 68 ls [.ref (w 3)]) (by rw [hM.t 2 (by decide)]) ?_
          refine lv_iload_n hx hb dX7_create_68 rfl (lv_at hl 2 rfl) ?_
          refine lv_iload hx hb dX7_create_69 (lv_at hl 0 rfl) ?_
          obtain ⟨j200156, hj200156⟩ := wG_20 (cy := cy) (N := N) (T := T) (I := I) (Q := Q) (J := J200154) (hM.at 3 (by decide)) (hM.k 3 (by decide) rfl)
          have hDo := hD
          refine va_iast (x := v200134) hx hb hK hP hD hS j200156 1 hj200156 rfl (hM.inN (n := 4) 3 (by decide) rfl rfl hin200138) dX7_create_71 (fun H locs hP hD hS => ?_)
          have hP := Eq.mp (congrArg (fun w => va_P (dC, dI) vwCl w H) (wS_20 hDo (hM.at 3 (by decide)) (hM.k 3 (by decide) rfl) hj200156)) hP
          obtain ⟨J200157, eJ200157⟩ : ∃ z, z = va_up J200154 (w 3) (upd (J200154 (w 3)) xp.toNatClampNeg v200134) := ⟨_, rfl⟩
          rw [← eJ200157] at hP
          have hR : RM w [2] I J I J200157 := by rw [eJ200157]; exact hR.pj hM (by decide) (by decide)
          have hMD : MD w J200157 := by rw [eJ200157]; exact hMD.pj hM (by decide) (by decide)
          have hD : va_D A (va_pl L (wF cy K N T I Q J200157)) := pD hDo
          refine lv_aload_n hx hb dX7_create_72 rfl (lv_at hl 1 rfl) ?_
          obtain ⟨j200158, hj200158⟩ := wG_7 (cy := cy) (N := N) (T := T) (I := I) (Q := Q) (J := J200157) (hM.at 0 (by decide)) (hM.k 0 (by decide) rfl)
          refine va_get (D := (dC, dI)) (ci := 7) (v := .ref (T (w 0) 5)) (C := RX7) (T := TX7) (N := 18) hx hb hts hi7 hown hK hP j200158 hj200158 rfl 5 (by decide) (hts (.fieldLink RX7 28 "TallyLogsModel" "min" "[I") (by decide +kernel)) (fun _ h9 => h9) rfl dX7_create_73 ?_
          refine W.eq (g2 := F0 m 76 ls [.ref (w 6)]) (by rw [hM.t 5 (by decide)]) ?_
          refine lv_iload_n hx hb dX7_create_76 rfl (lv_at hl 2 rfl) ?_
          refine lv_iload_n hx hb dX7_create_77 rfl (lv_at hl 4 rfl) ?_
          obtain ⟨j200159, hj200159⟩ := wG_20 (cy := cy) (N := N) (T := T) (I := I) (Q := Q) (J := J200157) (hM.at 6 (by decide)) (hM.k 6 (by decide) rfl)
          have hDo := hD
          refine va_iast (x := xl) hx hb hK hP hD hS j200159 1 hj200159 rfl (hM.inN (n := 4) 6 (by decide) rfl rfl hin200138) dX7_create_78 (fun H locs hP hD hS => ?_)
          have hP := Eq.mp (congrArg (fun w => va_P (dC, dI) vwCl w H) (wS_20 hDo (hM.at 6 (by decide)) (hM.k 6 (by decide) rfl) hj200159)) hP
          obtain ⟨J200160, eJ200160⟩ : ∃ z, z = va_up J200157 (w 6) (upd (J200157 (w 6)) xp.toNatClampNeg xl) := ⟨_, rfl⟩
          rw [← eJ200160] at hP
          have hR : RM w [2] I J I J200160 := by rw [eJ200160]; exact hR.pj hM (by decide) (by decide)
          have hMD : MD w J200160 := by rw [eJ200160]; exact hMD.pj hM (by decide) (by decide)
          have hD : va_D A (va_pl L (wF cy K N T I Q J200160)) := pD hDo
          refine lv_aload_n hx hb dX7_create_79 rfl (lv_at hl 1 rfl) ?_
          obtain ⟨j200161, hj200161⟩ := wG_7 (cy := cy) (N := N) (T := T) (I := I) (Q := Q) (J := J200160) (hM.at 0 (by decide)) (hM.k 0 (by decide) rfl)
          refine va_get (D := (dC, dI)) (ci := 7) (v := .ref (T (w 0) 4)) (C := RX7) (T := TX7) (N := 18) hx hb hts hi7 hown hK hP j200161 hj200161 rfl 4 (by decide) (hts (.fieldLink RX7 25 "TallyLogsModel" "epoch" "[I") (by decide +kernel)) (fun _ h9 => h9) rfl dX7_create_80 ?_
          refine W.eq (g2 := F0 m 83 ls [.ref (w 5)]) (by rw [hM.t 4 (by decide)]) ?_
          refine lv_iload_n hx hb dX7_create_83 rfl (lv_at hl 2 rfl) ?_
          refine lv_iconst (v := 0) hx hb dX7_create_84 (by decide) ?_
          obtain ⟨j200162, hj200162⟩ := wG_20 (cy := cy) (N := N) (T := T) (I := I) (Q := Q) (J := J200160) (hM.at 5 (by decide)) (hM.k 5 (by decide) rfl)
          have hDo := hD
          refine va_iast (x := 0) hx hb hK hP hD hS j200162 1 hj200162 rfl (hM.inN (n := 4) 5 (by decide) rfl rfl hin200138) dX7_create_85 (fun H locs hP hD hS => ?_)
          have hP := Eq.mp (congrArg (fun w => va_P (dC, dI) vwCl w H) (wS_20 hDo (hM.at 5 (by decide)) (hM.k 5 (by decide) rfl) hj200162)) hP
          obtain ⟨J200163, eJ200163⟩ : ∃ z, z = va_up J200160 (w 5) (upd (J200160 (w 5)) xp.toNatClampNeg 0) := ⟨_, rfl⟩
          rw [← eJ200163] at hP
          have hR : RM w [2] I J I J200163 := by rw [eJ200163]; exact hR.pj hM (by decide) (by decide)
          have hMD : MD w J200163 := by rw [eJ200163]; exact hMD.pj hM (by decide) (by decide)
          have hD : va_D A (va_pl L (wF cy K N T I Q J200163)) := pD hDo
          refine lv_aload_n hx hb dX7_create_86 rfl (lv_at hl 1 rfl) ?_
          obtain ⟨j200164, hj200164⟩ := wG_7 (cy := cy) (N := N) (T := T) (I := I) (Q := Q) (J := J200163) (hM.at 0 (by decide)) (hM.k 0 (by decide) rfl)
          refine va_get (D := (dC, dI)) (ci := 7) (v := .ref (T (w 0) 6)) (C := RX7) (T := TX7) (N := 18) hx hb hts hi7 hown hK hP j200164 hj200164 rfl 6 (by decide) (hts (.fieldLink RX7 31 "TallyLogsModel" "step" "[I") (by decide +kernel)) (fun _ h9 => h9) rfl dX7_create_87 ?_
          refine W.eq (g2 := F0 m 90 ls [.ref (w 7)]) (by rw [hM.t 6 (by decide)]) ?_
          refine lv_iload_n hx hb dX7_create_90 rfl (lv_at hl 2 rfl) ?_
          refine lv_iload hx hb dX7_create_91 (lv_at hl 0 rfl) ?_
          refine lv_aload_n hx hb dX7_create_93 rfl (lv_at hl 1 rfl) ?_
          obtain ⟨j200165, hj200165⟩ := wG_7 (cy := cy) (N := N) (T := T) (I := I) (Q := Q) (J := J200163) (hM.at 0 (by decide)) (hM.k 0 (by decide) rfl)
          refine va_get (D := (dC, dI)) (ci := 7) (v := .int (I (w 0) 16)) (C := RX7) (T := TX7) (N := 18) hx hb hts hi7 hown hK hP j200165 hj200165 rfl 16 (by decide) (hts (.fieldLink RX7 61 "TallyLogsModel" "up" "I") (by decide +kernel)) (fun _ h9 => h9) rfl dX7_create_94 ?_
          refine lv_topi (fun x200166 ex200166 => ?_)
          have tx200166 : x200166.toInt = (I (w 0) 16).toInt := congrArg Int32.toInt ex200166
          refine lv_iand hx hb dX7_create_97 ?_
          refine lv_topi (fun v200167 ev200167 => ?_)
          obtain ⟨j200168, hj200168⟩ := wG_20 (cy := cy) (N := N) (T := T) (I := I) (Q := Q) (J := J200163) (hM.at 7 (by decide)) (hM.k 7 (by decide) rfl)
          have hDo := hD
          refine va_iast (x := v200167) hx hb hK hP hD hS j200168 1 hj200168 rfl (hM.inN (n := 4) 7 (by decide) rfl rfl hin200138) dX7_create_98 (fun H locs hP hD hS => ?_)
          have hP := Eq.mp (congrArg (fun w => va_P (dC, dI) vwCl w H) (wS_20 hDo (hM.at 7 (by decide)) (hM.k 7 (by decide) rfl) hj200168)) hP
          obtain ⟨J200169, eJ200169⟩ : ∃ z, z = va_up J200163 (w 7) (upd (J200163 (w 7)) xp.toNatClampNeg v200167) := ⟨_, rfl⟩
          rw [← eJ200169] at hP
          have hR : RM w [2] I J I J200169 := by rw [eJ200169]; exact hR.pj hM (by decide) (by decide)
          have hD : va_D A (va_pl L (wF cy K N T I Q J200169)) := pD hDo
          refine lv_aload_n hx hb dX7_create_99 rfl (lv_at hl 1 rfl) ?_
          obtain ⟨j200170, hj200170⟩ := wG_7 (cy := cy) (N := N) (T := T) (I := I) (Q := Q) (J := J200169) (hM.at 0 (by decide)) (hM.k 0 (by decide) rfl)
          refine va_get (D := (dC, dI)) (ci := 7) (v := .ref (T (w 0) 3)) (C := RX7) (T := TX7) (N := 18) hx hb hts hi7 hown hK hP j200170 hj200170 rfl 3 (by decide) (hts (.fieldLink RX7 22 "TallyLogsModel" "leader" "[I") (by decide +kernel)) (fun _ h9 => h9) rfl dX7_create_100 ?_
          refine W.eq (g2 := F0 m 103 ls [.ref (w 4)]) (by rw [hM.t 3 (by decide)]) ?_
          refine lv_iload_n hx hb dX7_create_103 rfl (lv_at hl 2 rfl) ?_
          refine lv_aload_n hx hb dX7_create_104 rfl (lv_at hl 1 rfl) ?_
          obtain ⟨j200171, hj200171⟩ := wG_7 (cy := cy) (N := N) (T := T) (I := I) (Q := Q) (J := J200169) (hM.at 0 (by decide)) (hM.k 0 (by decide) rfl)
          refine va_get (D := (dC, dI)) (ci := 7) (v := .ref (T (w 0) 6)) (C := RX7) (T := TX7) (N := 18) hx hb hts hi7 hown hK hP j200171 hj200171 rfl 6 (by decide) (hts (.fieldLink RX7 31 "TallyLogsModel" "step" "[I") (by decide +kernel)) (fun _ h9 => h9) rfl dX7_create_105 ?_
          refine W.eq (g2 := F0 m 108 ls [.ref (w 7), .int xp, .ref (w 4)]) (by rw [hM.t 6 (by decide)]) ?_
          refine lv_iload_n hx hb dX7_create_108 rfl (lv_at hl 2 rfl) ?_
          obtain ⟨j200172, hj200172⟩ := wG_20 (cy := cy) (N := N) (T := T) (I := I) (Q := Q) (J := J200169) (hM.at 7 (by decide)) (hM.k 7 (by decide) rfl)
          refine va_iald hx hb hK hP j200172 1 hj200172 rfl (hM.inN (n := 4) 7 (by decide) rfl rfl hin200138) dX7_create_109 ?_
          refine lv_topi (fun x200173 ex200173 => ?_)
          refine vp_callSi (W.runS (As := [.int x200173]) (rest := [.int xp, .ref (w 4)]) ⟨hx, hb, hml, hown, hts⟩ (c_J6_numberOfTrailingZeros_0f7a4 l x200173) (va_cwS 1 hts gX7_create_J6_numberOfTrailingZeros_0f7a4 rfl rfl rfl (by decide +kernel) ⟨Nat.le_of_ble_eq_true rfl, Nat.le_of_ble_eq_true rfl⟩) preEq rfl rfl hl.1 rfl (lv_room (Nat.le_of_ble_eq_true rfl)) dX7_create_110 ⟨Nat.le_of_ble_eq_true rfl, Nat.le_of_ble_eq_true rfl⟩) (fun r200174 hr200174 => ?_)
          subst hr200174
          obtain ⟨j200175, hj200175⟩ := wG_20 (cy := cy) (N := N) (T := T) (I := I) (Q := Q) (J := J200169) (hM.at 4 (by decide)) (hM.k 4 (by decide) rfl)
          have hDo := hD
          refine va_iast (x := (sp_nz x200173)) hx hb hK hP hD hS j200175 1 hj200175 rfl (hM.inN (n := 4) 4 (by decide) rfl rfl hin200138) dX7_create_113 (fun H locs hP hD hS => ?_)
          have hP := Eq.mp (congrArg (fun w => va_P (dC, dI) vwCl w H) (wS_20 hDo (hM.at 4 (by decide)) (hM.k 4 (by decide) rfl) hj200175)) hP
          obtain ⟨J200176, eJ200176⟩ : ∃ z, z = va_up J200169 (w 4) (upd (J200169 (w 4)) xp.toNatClampNeg (sp_nz x200173)) := ⟨_, rfl⟩
          rw [← eJ200176] at hP
          have hR : RM w [2] I J I J200176 := by rw [eJ200176]; exact hR.pj hM (by decide) (by decide)
          have esx200173 : x200173 = v200167 := by rw [ex200173, eJ200169, va_up_self]; simp only [upd, if_true]
          have hMD : MD w J200176 := by
            rw [eJ200176, eJ200169]
            refine MD.p4 hM (hMD.p7' hM) ?_
            rw [va_up_self]
            simp only [upd, if_true]
            rw [esx200173]
            have hu9 : ∃ u : Nat, u < 32 ∧ v200167 = nI u := by rw [ev200167, ex200166]; exact xu_and' hMU
            have h9 := xntz hu9 (fun q => c200151 (by rw [← q, ev200150, ev200134, ex200149, ev200167, ev200134, ex200166]))
            exact Or.inr ⟨h9.1, h9.2.2⟩
          have hD : va_D A (va_pl L (wF cy K N T I Q J200176)) := pD hDo
          refine lv_iconst (v := 0) hx hb dX7_create_114 (by decide) ?_
          refine lv_istore (lv' := [(5, .int 0), (4, .int v200134), (0, .ref (w 0)), (1, .int xp), (2, .int xr), (3, .int xl)]) hx hb dX7_create_115 hl (by decide) rfl (fun ls hl => ?_)
          refine wq_gen (fun Qz hQz => ?_)
          have hLP200177 : ∀ (n : Nat) (y200178 : Int32) (Ia200177 Ja200177 : Nat → Nat → Int32) (H : Heap) (locs : List Loc) (ls : Array Slot), (5 - y200178.toInt).toNat < n → 0 ≤ y200178.toInt → (Ja200177 (w 2) = J200176 (w 2)) → RM w [2] I J Ia200177 Ja200177 → ML w E Ia200177 → MD w Ja200177 → MU w Ia200177 →  va_P (dC, dI) vwCl (va_pl L (wF cy K N T Ia200177 Q Ja200177)) H → va_D A (va_pl L (wF cy K N T Ia200177 Q Ja200177)) → va_S A s.heap H locs → lv_has ls 6 [(5, .int y200178), (4, .int v200134), (0, .ref (w 0)), (1, .int xp), (2, .int xr), (3, .int xl)] → W p l e (headSpec wsX7_create ({ frames := 1, cells := 0, slots := 0, locals := 27 })).room s m ([.ref (w 0), .int xp, .int xr, .int xl] : List Value).toArray below meth c H locs 0 0 Qz (F0 m 117 ls []) := by
            intro n
            induction n with
            | zero => intro y200178 Ia200177 Ja200177 H locs ls hms; exact absurd hms (Nat.not_lt_zero _)
            | succ n ih200177 =>
              intro y200178 Ia200177 Ja200177 H locs ls hms hnn200177 hiv200177 hR hML hMD hMU hP hD hS hl
              refine lv_iload hx hb dX7_create_117 (lv_at hl 0 rfl) ?_
              refine lv_iconst (v := 5) hx hb dX7_create_119 (by decide) ?_
              refine lv_icmp_ge (tgt := 158) hx hb dX7_create_120 (by decide) (fun c200179 => ?_) (fun c200179 => ?_)
              · have kc200179 : 5 ≤ y200178.toInt := by have h9 := c200179; rw [xk_le, xk_5] at h9; exact h9
                refine lv_aload_n hx hb dX7_create_158 rfl (lv_at hl 2 rfl) ?_
                obtain ⟨j200180, hj200180⟩ := wG_7 (cy := cy) (N := N) (T := T) (I := Ia200177) (Q := Q) (J := Ja200177) (hM.at 0 (by decide)) (hM.k 0 (by decide) rfl)
                refine va_get (D := (dC, dI)) (ci := 7) (v := .ref (T (w 0) 3)) (C := RX7) (T := TX7) (N := 18) hx hb hts hi7 hown hK hP j200180 hj200180 rfl 3 (by decide) (hts (.fieldLink RX7 22 "TallyLogsModel" "leader" "[I") (by decide +kernel)) (fun _ h9 => h9) rfl dX7_create_159 ?_
                refine W.eq (g2 := F0 m 162 ls [.ref (w 4)]) (by rw [hM.t 3 (by decide)]) ?_
                refine lv_iload_n hx hb dX7_create_162 rfl (lv_at hl 3 rfl) ?_
                obtain ⟨j200181, hj200181⟩ := wG_20 (cy := cy) (N := N) (T := T) (I := Ia200177) (Q := Q) (J := Ja200177) (hM.at 4 (by decide)) (hM.k 4 (by decide) rfl)
                refine va_iald hx hb hK hP j200181 1 hj200181 rfl (hM.inN (n := 4) 4 (by decide) rfl rfl hin200138) dX7_create_163 ?_
                refine lv_topi (fun x200182 ex200182 => ?_)
                rw [hQz]
                exact W.iret (v := x200182) hx hb hr (fun t ht hW => ⟨⟨x200182, (Ia200177, Ja200177), rfl, ⟨⟨hML.mono (by omega), hMD, hMU⟩, by show RM w [] I (if sp_ck (I (w 0) 16) (zN (J (w 2) xp.toNatClampNeg)) xp xr xl then va_up J (w 2) (upd (J (w 2)) xp.toNatClampNeg 1) else J) _ _; have h9 := vp_in_iff.mp hin200138; rw [if_pos ⟨by omega, zN_0.mpr (by rw [← ex200141]; exact c200142), hbt200147, fun q => c200151 (by rw [ev200150, ev200134, ex200149]; exact q)⟩]; exact hR.re (fun k hk hx => va_up_ne _ _ (hM.ne (by omega) (by decide) (fun q => hx (List.mem_singleton.mpr q)))) (fun k hk he => by obtain rfl := List.mem_singleton.mp he; rw [hiv200177, va_up_self, eJ200176, va_up_ne _ _ (hM.ne (i := 2) (j := 4) (by decide) (by decide) (by decide)), eJ200169, va_up_ne _ _ (hM.ne (i := 2) (j := 7) (by decide) (by decide) (by decide)), eJ200163, va_up_ne _ _ (hM.ne (i := 2) (j := 5) (by decide) (by decide) (by decide)), eJ200160, va_up_ne _ _ (hM.ne (i := 2) (j := 6) (by decide) (by decide) (by decide)), eJ200157, va_up_ne _ _ (hM.ne (i := 2) (j := 3) (by decide) (by decide) (by decide)), eJ200154, va_up_self]; rfl)⟩, by rw [ht]; exact hP, va_K.moved hW.alike hK, hD⟩, hS.F ht⟩) hS.2.2 dX7_create_164
              · have kc200179 : ¬ (5 ≤ y200178.toInt) := by have h9 := c200179; rw [xk_le, xk_5] at h9; exact h9
                refine lv_aload_n hx hb dX7_create_123 rfl (lv_at hl 2 rfl) ?_
                obtain ⟨j200183, hj200183⟩ := wG_7 (cy := cy) (N := N) (T := T) (I := Ia200177) (Q := Q) (J := Ja200177) (hM.at 0 (by decide)) (hM.k 0 (by decide) rfl)
                refine va_get (D := (dC, dI)) (ci := 7) (v := .ref (T (w 0) 0)) (C := RX7) (T := TX7) (N := 18) hx hb hts hi7 hown hK hP j200183 hj200183 rfl 0 (by decide) (hts (.fieldLink RX7 11 "TallyLogsModel" "log" "[[LTallyLogsModel$Log;") (by decide +kernel)) (fun _ h9 => h9) rfl dX7_create_124 ?_
                refine W.eq (g2 := F0 m 127 ls [.ref (w 1)]) (by rw [hM.t 0 (by decide)]) ?_
                refine lv_iload_n hx hb dX7_create_127 rfl (lv_at hl 3 rfl) ?_
                obtain ⟨j200184, hj200184⟩ := wG_22 (cy := cy) (N := N) (T := T) (I := Ia200177) (Q := Q) (J := Ja200177) (hM.at 1 (by decide)) (hM.k 1 (by decide) rfl)
                refine xg_aldg hx hb hK hP j200184 2 hj200184 rfl hin200138 dX7_create_128 ?_
                refine W.eq (g2 := F0 m 129 ls [.ref (w (17 + xp.toNatClampNeg))]) (by rw [hM.qo (vp_lt (n := 4) hin200138)]; rfl) ?_
                refine lv_iload hx hb dX7_create_129 (lv_at hl 0 rfl) ?_
                obtain ⟨j200185, hj200185⟩ := wG_23 (cy := cy) (N := N) (T := T) (I := Ia200177) (Q := Q) (J := Ja200177) (hM.row (vp_lt (n := 4) hin200138)).1 (hM.row (vp_lt (n := 4) hin200138)).2
                refine va_aldq hx hb hK hP j200185 3 hj200185 rfl (xin_of hnn200177 (by have kc := c200179; simp only [xk_lt, xk_le, xk_0, xk_1, xk_2, xk_3, xk_4, xk_5, xk_6, xk_7, xk_8, xk_50] at kc; omega)) dX7_create_131 ?_
                have hjl200186 : (5 * xp.toNatClampNeg + y200178.toNatClampNeg) < 20 := by have h1 := (vp_lt (n := 4) hin200138); have h2 := (vp_lt (n := 5) (xin_of hnn200177 (by have kc := c200179; simp only [xk_lt, xk_le, xk_0, xk_1, xk_2, xk_3, xk_4, xk_5, xk_6, xk_7, xk_8, xk_50] at kc; omega))); omega
                refine W.eq (g2 := F0 m 132 ls [.ref (w (21 + (5 * xp.toNatClampNeg + y200178.toNatClampNeg)))]) (by rw [hM.qr (vp_lt (n := 4) hin200138) (vp_lt (n := 5) (xin_of hnn200177 (by have kc := c200179; simp only [xk_lt, xk_le, xk_0, xk_1, xk_2, xk_3, xk_4, xk_5, xk_6, xk_7, xk_8, xk_50] at kc; omega)))]; rfl) ?_
                refine lv_aload_n hx hb dX7_create_132 rfl (lv_at hl 2 rfl) ?_
                obtain ⟨j200187, hj200187⟩ := wG_7 (cy := cy) (N := N) (T := T) (I := Ia200177) (Q := Q) (J := Ja200177) (hM.at 0 (by decide)) (hM.k 0 (by decide) rfl)
                refine va_get (D := (dC, dI)) (ci := 7) (v := .int (Ia200177 (w 0) 17)) (C := RX7) (T := TX7) (N := 18) hx hb hts hi7 hown hK hP j200187 hj200187 rfl 17 (by decide) (hts (.fieldLink RX7 119 "TallyLogsModel" "now" "I") (by decide +kernel)) (fun _ h9 => h9) rfl dX7_create_133 ?_
                refine lv_topi (fun x200188 ex200188 => ?_)
                have tx200188 : x200188.toInt = (Ia200177 (w 0) 17).toInt := congrArg Int32.toInt ex200188
                obtain ⟨j200189, hj200189⟩ := wG_6 (cy := cy) (N := N) (T := T) (I := Ia200177) (Q := Q) (J := Ja200177) (hM.lg hjl200186).1 (hM.lg hjl200186).2
                have hDo := hD
                refine va_put (D := (dC, dI)) (ci := 6) (v := .int x200188) (ty := .int) (C := RX6) (T := TX6) (N := 7) hx hb hts hi6 tyX6 tyX6_ok nmX6 hown hK hP hD hS j200189 hj200189 rfl 6 (by decide) (hts (.fieldLink RX7 122 "TallyLogsModel$Log" "caught" "I") (by decide +kernel)) (fun _ h9 => h9) rfl (by decide +kernel) rfl rfl (Nat.le_of_ble_eq_true rfl) dX7_create_136 (fun H locs hP hD hS => ?_)
                have hP := Eq.mp (congrArg (fun w => va_P (dC, dI) vwCl w H) (wP_6_6 (x := x200188) hDo (hM.lg hjl200186).1 (hM.lg hjl200186).2 hj200189)) hP
                obtain ⟨I200190, eI200190⟩ : ∃ z, z = p2 Ia200177 (w (21 + (5 * xp.toNatClampNeg + y200178.toNatClampNeg))) 6 x200188 := ⟨_, rfl⟩
                rw [← eI200190] at hP
                have hD : va_D A (va_pl L (wF cy K N T I200190 Q Ja200177)) := pD hDo
                have hR : RM w [2] I J I200190 Ja200177 := by rw [eI200190]; exact hR.pl hM hjl200186
                have hMU : MU w I200190 := by rw [eI200190]; exact hMU.pl hM hjl200186
                have hML : ML w E I200190 := by rw [eI200190]; exact hML.p56 hM hjl200186 (by decide)
                refine lv_aload_n hx hb dX7_create_139 rfl (lv_at hl 2 rfl) ?_
                obtain ⟨j200191, hj200191⟩ := wG_7 (cy := cy) (N := N) (T := T) (I := I200190) (Q := Q) (J := Ja200177) (hM.at 0 (by decide)) (hM.k 0 (by decide) rfl)
                refine va_get (D := (dC, dI)) (ci := 7) (v := .ref (T (w 0) 0)) (C := RX7) (T := TX7) (N := 18) hx hb hts hi7 hown hK hP j200191 hj200191 rfl 0 (by decide) (hts (.fieldLink RX7 11 "TallyLogsModel" "log" "[[LTallyLogsModel$Log;") (by decide +kernel)) (fun _ h9 => h9) rfl dX7_create_140 ?_
                refine W.eq (g2 := F0 m 143 ls [.ref (w 1)]) (by rw [hM.t 0 (by decide)]) ?_
                refine lv_iload_n hx hb dX7_create_143 rfl (lv_at hl 3 rfl) ?_
                obtain ⟨j200192, hj200192⟩ := wG_22 (cy := cy) (N := N) (T := T) (I := I200190) (Q := Q) (J := Ja200177) (hM.at 1 (by decide)) (hM.k 1 (by decide) rfl)
                refine xg_aldg hx hb hK hP j200192 2 hj200192 rfl hin200138 dX7_create_144 ?_
                refine W.eq (g2 := F0 m 145 ls [.ref (w (17 + xp.toNatClampNeg))]) (by rw [hM.qo (vp_lt (n := 4) hin200138)]; rfl) ?_
                refine lv_iload hx hb dX7_create_145 (lv_at hl 0 rfl) ?_
                obtain ⟨j200193, hj200193⟩ := wG_23 (cy := cy) (N := N) (T := T) (I := I200190) (Q := Q) (J := Ja200177) (hM.row (vp_lt (n := 4) hin200138)).1 (hM.row (vp_lt (n := 4) hin200138)).2
                refine va_aldq hx hb hK hP j200193 3 hj200193 rfl (xin_of hnn200177 (by have kc := c200179; simp only [xk_lt, xk_le, xk_0, xk_1, xk_2, xk_3, xk_4, xk_5, xk_6, xk_7, xk_8, xk_50] at kc; omega)) dX7_create_147 ?_
                have hjl200194 : (5 * xp.toNatClampNeg + y200178.toNatClampNeg) < 20 := by have h1 := (vp_lt (n := 4) hin200138); have h2 := (vp_lt (n := 5) (xin_of hnn200177 (by have kc := c200179; simp only [xk_lt, xk_le, xk_0, xk_1, xk_2, xk_3, xk_4, xk_5, xk_6, xk_7, xk_8, xk_50] at kc; omega))); omega
                refine W.eq (g2 := F0 m 148 ls [.ref (w (21 + (5 * xp.toNatClampNeg + y200178.toNatClampNeg)))]) (by rw [hM.qr (vp_lt (n := 4) hin200138) (vp_lt (n := 5) (xin_of hnn200177 (by have kc := c200179; simp only [xk_lt, xk_le, xk_0, xk_1, xk_2, xk_3, xk_4, xk_5, xk_6, xk_7, xk_8, xk_50] at kc; omega)))]; rfl) ?_
                refine lv_iconst (v := 0) hx hb dX7_create_148 (by decide) ?_
                obtain ⟨j200195, hj200195⟩ := wG_6 (cy := cy) (N := N) (T := T) (I := I200190) (Q := Q) (J := Ja200177) (hM.lg hjl200194).1 (hM.lg hjl200194).2
                have hDo := hD
                refine va_put (D := (dC, dI)) (ci := 6) (v := .int 0) (ty := .int) (C := RX6) (T := TX6) (N := 7) hx hb hts hi6 tyX6 tyX6_ok nmX6 hown hK hP hD hS j200195 hj200195 rfl 5 (by decide) (hts (.fieldLink RX7 92 "TallyLogsModel$Log" "known" "I") (by decide +kernel)) (fun _ h9 => h9) rfl (by decide +kernel) rfl rfl (Nat.le_of_ble_eq_true rfl) dX7_create_149 (fun H locs hP hD hS => ?_)
                have hP := Eq.mp (congrArg (fun w => va_P (dC, dI) vwCl w H) (wP_6_5 (x := 0) hDo (hM.lg hjl200194).1 (hM.lg hjl200194).2 hj200195)) hP
                obtain ⟨I200196, eI200196⟩ : ∃ z, z = p2 I200190 (w (21 + (5 * xp.toNatClampNeg + y200178.toNatClampNeg))) 5 0 := ⟨_, rfl⟩
                rw [← eI200196] at hP
                have hD : va_D A (va_pl L (wF cy K N T I200196 Q Ja200177)) := pD hDo
                have hR : RM w [2] I J I200196 Ja200177 := by rw [eI200196]; exact hR.pl hM hjl200194
                have hMU : MU w I200196 := by rw [eI200196]; exact hMU.pl hM hjl200194
                have hML : ML w E I200196 := by rw [eI200196]; exact hML.p56 hM hjl200194 (by decide)
                obtain ⟨v200197, ev200197⟩ : ∃ y : Int32, y = y200178 + Int32.ofInt 1 := ⟨_, rfl⟩
                refine lv_iinc (v := v200197) (lv' := [(5, .int v200197), (4, .int v200134), (0, .ref (w 0)), (1, .int xp), (2, .int xr), (3, .int xl)]) hx hb dX7_create_152 hl (k := 0) rfl ev200197.symm (by decide) rfl (fun ls hl => ?_)
                refine lv_goto (tgt := 117) hx hb dX7_create_155 (by decide) ?_
                have tv200197 : v200197.toInt = y200178.toInt + 1 := by rw [ev200197, show y200178 + Int32.ofInt 1 = y200178 + 1 from rfl]; exact xinc (y := (5 : Int32)) (by rw [xk_lt, xk_5]; omega)
                exact ih200177 _ _ _ _ _ _ (by omega) (by omega) (hiv200177) hR (hML.mono (by omega)) hMD hMU hP hD hS (lv_sub hl [0, 1, 2, 3, 4, 5] rfl)
          exact hLP200177 _ _ _ _ _ _ _ (Nat.lt_succ_self _) (by decide) (rfl) hR (hML.mono (by omega)) hMD hMU hP hD hS (lv_sub hl [0, 1, 2, 3, 4, 5] rfl)
        · have kc200151 : v200150.toInt = 0 := by have h9 := c200151; rw [xk_eq, xk_0] at h9; exact h9
          refine lv_bipush (v := (-2)) hx hb dX7_create_54 (by decide) ?_
          exact W.iret (v := (-2)) hx hb hr (fun t ht hW => ⟨⟨(-2), (I, J), rfl, ⟨⟨hML.mono (by omega), hMD, hMU⟩, by show RM w [] I (if sp_ck (I (w 0) 16) (zN (J (w 2) xp.toNatClampNeg)) xp xr xl then va_up J (w 2) (upd (J (w 2)) xp.toNatClampNeg 1) else J) _ _; rw [if_neg (fun q => q.2.2.2 (by have k9 := c200151; rw [ev200150, ev200134, ex200149] at k9; exact k9))]; exact hR.no (fun k hk he => rfl)⟩, by rw [ht]; exact hP, va_K.moved hW.alike hK, hD⟩, hS.F ht⟩) hS.2.2 dX7_create_56
      · have hbt200198 : ¬ (1 ≤ xl.toInt ∧ xl.toInt ≤ (sp_bc (xr &&& 31)).toInt) := by have k9 := (sp_in_0 xl 1 (sp_bc v200134).toInt64).mp c200146; rw [xl_1, Int32.toInt_toInt64, ev200134] at k9; omega
        refine lv_iconst (v := (-1)) hx hb dX7_create_42 (by decide) ?_
        exact W.iret (v := (-1)) hx hb hr (fun t ht hW => ⟨⟨(-1), (I, J), rfl, ⟨⟨hML.mono (by omega), hMD, hMU⟩, by show RM w [] I (if sp_ck (I (w 0) 16) (zN (J (w 2) xp.toNatClampNeg)) xp xr xl then va_up J (w 2) (upd (J (w 2)) xp.toNatClampNeg 1) else J) _ _; rw [if_neg (fun q => hbt200198 q.2.2.1)]; exact hR.no (fun k hk he => rfl)⟩, by rw [ht]; exact hP, va_K.moved hW.alike hK, hD⟩, hS.F ht⟩) hS.2.2 dX7_create_43
