set_option maxHeartbeats 4000000 in
set_option maxRecDepth 100000 in
/-- Log.get, exactly -/
theorem f_X6_get (l : Launch) (dC : Nat → ClassId) (dI : Nat → Nat → Nat) (cy : Nat → ClassId) (w : Nat → Nat) (L : List Nat) (K N : Nat → Nat) (T : Nat → Nat → Nat) (Q : Nat → Nat → Option Nat) (I J : Nat → Nat → Int32) (ja : Nat) (xo : Int32) (xf : Int32) (σ : SG) (hM : MS w L K N T Q) (hja : ja < 20) (h0 : 0 ≤ (I (w (21 + ja)) 1).toInt) (h1 : (I (w (21 + ja)) 1).toInt ≤ xo.toInt) (h2 : xo.toInt < (I (w (21 + ja)) 2).toInt) (h4 : (I (w (21 + ja)) 2).toInt ≤ (I (w (21 + ja)) 1).toInt + 80) (h3 : vp_in xf 8) (hMR : MR w I J σ) : Met l yX6_get wsX6_get ({ frames := 0, cells := 0, slots := 0, locals := 0 }) (va_Pc [.ref (w (21 + ja)), .int xo, .int xf] (mB dC dI cy L (wF cy K N T I Q J))) (vp_Si (fun r => r = σ.2.2 ja xo.toNatClampNeg xf.toNatClampNeg)) 0 0 (fun _ => False) := by
  refine Met.ofW (cc := cX6_get) (maxL := 3) (ret := (some .int)) (by decide) rfl ?_
  intro p e s m args below meth c s₁ B hml hv
  obtain ⟨rfl, hP, hK⟩ := hv
  have hx := B.exec
  have hb := B.bytes
  have hr := B.returns
  have hts := atoms_spec (ws := wsX6_get) B.pre
  have hown : s.vm.findClass RX6 = some m.cls := findClass_of_methodNamed B.named
  have hlocks := B.notSynchronized
  have hi6 : ∀ w ∈ wsX60, w ∈ wsX6_get := by decide +kernel
  have hl := lv_entry ([.ref (w (21 + ja)), .int xo, .int xf]) (n := 3) (Nat.le_of_ble_eq_true rfl)
  rw [lg_entry_eq]
  generalize (lg_sl ([.ref (w (21 + ja)), .int xo, .int xf]) ++ List.replicate (3 - (lg_sl ([.ref (w (21 + ja)), .int xo, .int xf])).length) Slot.unset).toArray = ls at hl ⊢
  have hl : lv_has ls 3 [(0, .ref (w (21 + ja))), (1, .int xo), (2, .int xf)] := hl
  refine lv_aload_n hx hb dX6_get_0 rfl (lv_at hl 0 rfl) ?_
  obtain ⟨j300001, hj300001⟩ := wG_6 (cy := cy) (N := N) (T := T) (I := I) (Q := Q) (J := J) (hM.lg hja).1 (hM.lg hja).2
  refine va_get (D := (dC, dI)) (ci := 6) (v := .ref (T (w (21 + ja)) 0)) (C := RX6) (T := TX6) (N := 7) hx hb hts hi6 hown hK hP j300001 hj300001 rfl 0 (by decide) (hts (.fieldLink RX6 9 "TallyLogsModel$Log" "cell" "[I") (by decide +kernel)) (fun _ h9 => h9) rfl dX6_get_1 ?_
  refine W.eq (g2 := F0 m 4 ls [.ref (w (41 + ja))]) (by rw [hM.tl hja]) ?_
  refine lv_bipush (v := 8) hx hb dX6_get_4 (by decide) ?_
  refine lv_iload_n hx hb dX6_get_6 rfl (lv_at hl 1 rfl) ?_
  refine lv_aload_n hx hb dX6_get_7 rfl (lv_at hl 0 rfl) ?_
  obtain ⟨j300002, hj300002⟩ := wG_6 (cy := cy) (N := N) (T := T) (I := I) (Q := Q) (J := J) (hM.lg hja).1 (hM.lg hja).2
  refine va_get (D := (dC, dI)) (ci := 6) (v := .int (I (w (21 + ja)) 1)) (C := RX6) (T := TX6) (N := 7) hx hb hts hi6 hown hK hP j300002 hj300002 rfl 1 (by decide) (hts (.fieldLink RX6 15 "TallyLogsModel$Log" "start" "I") (by decide +kernel)) (fun _ h9 => h9) rfl dX6_get_8 ?_
  refine lv_topi (fun x300003 ex300003 => ?_)
  have sx300003 : x300003 = σ.2.1 ja 1 := ex300003.trans (hMR.g hja (by decide) (by decide))
  have tx300003 : x300003.toInt = (I (w (21 + ja)) 1).toInt := congrArg Int32.toInt ex300003
  refine lv_isub hx hb dX6_get_11 ?_
  refine lv_topi (fun v300004 ev300004 => ?_)
  refine lv_imul hx hb dX6_get_12 ?_
  refine lv_topi (fun v300005 ev300005 => ?_)
  refine lv_iload_n hx hb dX6_get_13 rfl (lv_at hl 2 rfl) ?_
  refine lv_iadd hx hb dX6_get_14 ?_
  refine lv_topi (fun v300006 ev300006 => ?_)
  have hin300007 : vp_in v300006 640 := by rw [ev300006, ev300005, ev300004, ex300003]; exact xix h1 (by omega) h3
  obtain ⟨j300008, hj300008⟩ := wG_20 (cy := cy) (N := N) (T := T) (I := I) (Q := Q) (J := J) (hM.ce hja).1 (hM.ce hja).2
  refine va_iald hx hb hK hP j300008 1 hj300008 rfl (hM.inC hja hin300007) dX6_get_15 ?_
  refine lv_topi (fun x300009 ex300009 => ?_)
  exact W.iret (v := x300009) hx hb hr (fun t ht hW => ⟨x300009, rfl, by show _ = _; rw [ex300009, ev300006, ev300005, ev300004, ex300003, xixn h0 h1 (by omega) h3, ← hMR.vb hja]; exact hMR.z hja (by rw [hMR.vb hja, clT, clT]; omega) (by rw [hMR.ve hja, clT, clT]; omega) (vp_lt h3), ht⟩) (fun _ h => by cases h) dX6_get_16
set_option maxHeartbeats 4000000 in
set_option maxRecDepth 100000 in
/-- Log.add, exactly -/
theorem f_X6_add (l : Launch) (dC : Nat → ClassId) (dI : Nat → Nat → Nat) (cy : Nat → ClassId) (w : Nat → Nat) (L : List Nat) (K N : Nat → Nat) (T : Nat → Nat → Nat) (Q : Nat → Nat → Option Nat) (I J : Nat → Nat → Int32) (sz : Nat) (ja : Nat) (x1 : Int32) (x2 : Int32) (x3 : Int32) (x4 : Int32) (x5 : Int32) (x6 : Int32) (x7 : Int32) (x8 : Int32) (σ : SG) (hM : MS w L K N T Q) (hja : ja < 20) (h1 : (I (w (21 + ja)) 1).toInt ≤ (I (w (21 + ja)) 2).toInt) (h2 : (I (w (21 + ja)) 2).toInt < (I (w (21 + ja)) 1).toInt + 80) (h3 : (I (w (21 + ja)) 2).toInt < 2000) (h0 : 0 ≤ (I (w (21 + ja)) 1).toInt) (hMR : MR w I J σ) : Met l yX6_add wsX6_add ({ frames := 1, cells := 0, slots := 0, locals := 22 }) (va_Pc [.ref (w (21 + ja)), .int x1, .int x2, .int x3, .int x4, .int x5, .int x6, .int x7, .int x8] (mW dC dI cy L (wF cy K N T I Q J) sz)) (va_Qv (fun d : (Nat → Nat → Int32) × (Nat → Nat → Int32) => MR w d.1 d.2 (oAd σ ja (r8 x1 x2 x3 x4 x5 x6 x7 x8)) ∧ LW w I J d.1 d.2 ja (I (w (21 + ja)) 1).toInt ((I (w (21 + ja)) 2).toInt + 1)) (fun (d : (Nat → Nat → Int32) × (Nat → Nat → Int32)) t => va_P (dC, dI) vwCl (va_pl L (wF cy K N T d.1 Q d.2)) t.heap ∧ va_K (dC, dI) vwCl (mTy cy) t ∧ va_D (va_A (va_pl L (wF cy K N T I Q J)) sz) (va_pl L (wF cy K N T d.1 Q d.2))) (va_A (va_pl L (wF cy K N T I Q J)) sz)) 0 0 (va_A (va_pl L (wF cy K N T I Q J)) sz) := by
  refine Met.ofW (cc := cX6_add) (maxL := 10) (ret := none) (by decide) rfl ?_
  intro p e s m args below meth c s₁ B hml hv
  obtain ⟨rfl, hsz, ⟨hP, hK⟩, hD0⟩ := hv
  have hx := B.exec
  have hb := B.bytes
  have hr := B.returns
  have hts := atoms_spec (ws := wsX6_add) B.pre
  have hown : s.vm.findClass RX6 = some m.cls := findClass_of_methodNamed B.named
  have hlocks := B.notSynchronized
  have hi6 : ∀ w ∈ wsX60, w ∈ wsX6_add := by decide +kernel
  have hl := lv_entry ([.ref (w (21 + ja)), .int x1, .int x2, .int x3, .int x4, .int x5, .int x6, .int x7, .int x8]) (n := 10) (Nat.le_of_ble_eq_true rfl)
  rw [lg_entry_eq]
  generalize (lg_sl ([.ref (w (21 + ja)), .int x1, .int x2, .int x3, .int x4, .int x5, .int x6, .int x7, .int x8]) ++ List.replicate (10 - (lg_sl ([.ref (w (21 + ja)), .int x1, .int x2, .int x3, .int x4, .int x5, .int x6, .int x7, .int x8])).length) Slot.unset).toArray = ls at hl ⊢
  have hl : lv_has ls 10 [(0, .ref (w (21 + ja))), (1, .int x1), (2, .int x2), (3, .int x3), (4, .int x4), (5, .int x5), (6, .int x6), (7, .int x7), (8, .int x8)] := hl
  subst hsz
  have hD := hD0.self (sz := s.heap.size)
  generalize hAe : va_A (va_pl L (wF cy K N T I Q J)) s.heap.size = A at hD ⊢
  have hA : ∀ q : Nat, s.heap.size ≤ q → A q := fun q h => by rw [← hAe]; exact Or.inr h
  have hS : va_S A s.heap s.heap [] := va_S.rf
  refine lv_bipush (v := 8) hx hb dX6_add_0 (by decide) ?_
  refine lv_aload_n hx hb dX6_add_2 rfl (lv_at hl 0 rfl) ?_
  obtain ⟨j300011, hj300011⟩ := wG_6 (cy := cy) (N := N) (T := T) (I := I) (Q := Q) (J := J) (hM.lg hja).1 (hM.lg hja).2
  refine vp_callSi (W.runV (As := []) (rest := [.int 8]) ⟨hx, hb, hml, hown, hts⟩ (c_X6_many l dC dI cy w L K N T Q I J ja hM hja) (cwV 0 hts gX6_add_X6_many rfl rfl rfl (by decide +kernel) ⟨Nat.le_of_ble_eq_true rfl, Nat.le_of_ble_eq_true rfl⟩) ⟨mb_blind, va_recv hK hP (ci := 6) (q0 := j300011) rfl hj300011, fun U hU hW => ⟨rfl, mb_pre hP hK hU hW⟩⟩ rfl rfl hl.1 rfl (lv_room (Nat.le_of_ble_eq_true rfl)) dX6_add_3 ⟨Nat.le_of_ble_eq_true rfl, Nat.le_of_ble_eq_true rfl⟩) (fun r300010 hr300010 => ?_)
  refine lv_imul hx hb dX6_add_6 ?_
  refine lv_topi (fun v300012 ev300012 => ?_)
  have tr300010 : r300010.toInt = (I (w (21 + ja)) 2).toInt - (I (w (21 + ja)) 1).toInt := by rw [hr300010]; exact xsub (by omega) (by omega)
  have tv300012 : v300012.toInt = 8 * r300010.toInt := by rw [ev300012]; exact xmul8 (by omega) (by omega)
  refine lv_istore (lv' := [(9, .int v300012), (0, .ref (w (21 + ja))), (1, .int x1), (2, .int x2), (3, .int x3), (4, .int x4), (5, .int x5), (6, .int x6), (7, .int x7), (8, .int x8)]) hx hb dX6_add_7 hl (by decide) rfl (fun ls hl => ?_)
  refine lv_aload_n hx hb dX6_add_9 rfl (lv_at hl 1 rfl) ?_
  obtain ⟨j300013, hj300013⟩ := wG_6 (cy := cy) (N := N) (T := T) (I := I) (Q := Q) (J := J) (hM.lg hja).1 (hM.lg hja).2
  refine va_get (D := (dC, dI)) (ci := 6) (v := .ref (T (w (21 + ja)) 0)) (C := RX6) (T := TX6) (N := 7) hx hb hts hi6 hown hK hP j300013 hj300013 rfl 0 (by decide) (hts (.fieldLink RX6 9 "TallyLogsModel$Log" "cell" "[I") (by decide +kernel)) (fun _ h9 => h9) rfl dX6_add_10 ?_
  refine W.eq (g2 := F0 m 13 ls [.ref (w (41 + ja))]) (by rw [hM.tl hja]) ?_
  refine lv_iload hx hb dX6_add_13 (lv_at hl 0 rfl) ?_
  have hin300014 : vp_in v300012 640 := xin_of (by omega) (by omega)
  refine lv_iload_n hx hb dX6_add_15 rfl (lv_at hl 2 rfl) ?_
  obtain ⟨j300015, hj300015⟩ := wG_20 (cy := cy) (N := N) (T := T) (I := I) (Q := Q) (J := J) (hM.ce hja).1 (hM.ce hja).2
  have hDo := hD
  refine va_iast (x := x1) hx hb hK hP hD hS j300015 1 hj300015 rfl (hM.inC hja hin300014) dX6_add_16 (fun H locs hP hD hS => ?_)
  have hP := Eq.mp (congrArg (fun w => va_P (dC, dI) vwCl w H) (wS_20 hDo (hM.ce hja).1 (hM.ce hja).2 hj300015)) hP
  obtain ⟨J300016, eJ300016⟩ : ∃ z, z = va_up J (w (41 + ja)) (upd (J (w (41 + ja))) v300012.toNatClampNeg x1) := ⟨_, rfl⟩
  rw [← eJ300016] at hP
  have hD : va_D A (va_pl L (wF cy K N T I Q J300016)) := pD hDo
  refine lv_aload_n hx hb dX6_add_17 rfl (lv_at hl 1 rfl) ?_
  obtain ⟨j300017, hj300017⟩ := wG_6 (cy := cy) (N := N) (T := T) (I := I) (Q := Q) (J := J300016) (hM.lg hja).1 (hM.lg hja).2
  refine va_get (D := (dC, dI)) (ci := 6) (v := .ref (T (w (21 + ja)) 0)) (C := RX6) (T := TX6) (N := 7) hx hb hts hi6 hown hK hP j300017 hj300017 rfl 0 (by decide) (hts (.fieldLink RX6 9 "TallyLogsModel$Log" "cell" "[I") (by decide +kernel)) (fun _ h9 => h9) rfl dX6_add_18 ?_
  refine W.eq (g2 := F0 m 21 ls [.ref (w (41 + ja))]) (by rw [hM.tl hja]) ?_
  refine lv_iload hx hb dX6_add_21 (lv_at hl 0 rfl) ?_
  refine lv_iconst (v := 1) hx hb dX6_add_23 (by decide) ?_
  refine lv_iadd hx hb dX6_add_24 ?_
  refine lv_topi (fun v300018 ev300018 => ?_)
  have tv300018 : v300018.toInt = v300012.toInt + 1 := by rw [ev300018]; exact xaddk (by decide) (by omega) (by omega)
  have hin300019 : vp_in v300018 640 := xin_of (by omega) (by omega)
  refine lv_iload_n hx hb dX6_add_25 rfl (lv_at hl 3 rfl) ?_
  obtain ⟨j300020, hj300020⟩ := wG_20 (cy := cy) (N := N) (T := T) (I := I) (Q := Q) (J := J300016) (hM.ce hja).1 (hM.ce hja).2
  have hDo := hD
  refine va_iast (x := x2) hx hb hK hP hD hS j300020 1 hj300020 rfl (hM.inC hja hin300019) dX6_add_26 (fun H locs hP hD hS => ?_)
  have hP := Eq.mp (congrArg (fun w => va_P (dC, dI) vwCl w H) (wS_20 hDo (hM.ce hja).1 (hM.ce hja).2 hj300020)) hP
  obtain ⟨J300021, eJ300021⟩ : ∃ z, z = va_up J300016 (w (41 + ja)) (upd (J300016 (w (41 + ja))) v300018.toNatClampNeg x2) := ⟨_, rfl⟩
  rw [← eJ300021] at hP
  have hD : va_D A (va_pl L (wF cy K N T I Q J300021)) := pD hDo
  refine lv_aload_n hx hb dX6_add_27 rfl (lv_at hl 1 rfl) ?_
  obtain ⟨j300022, hj300022⟩ := wG_6 (cy := cy) (N := N) (T := T) (I := I) (Q := Q) (J := J300021) (hM.lg hja).1 (hM.lg hja).2
  refine va_get (D := (dC, dI)) (ci := 6) (v := .ref (T (w (21 + ja)) 0)) (C := RX6) (T := TX6) (N := 7) hx hb hts hi6 hown hK hP j300022 hj300022 rfl 0 (by decide) (hts (.fieldLink RX6 9 "TallyLogsModel$Log" "cell" "[I") (by decide +kernel)) (fun _ h9 => h9) rfl dX6_add_28 ?_
  refine W.eq (g2 := F0 m 31 ls [.ref (w (41 + ja))]) (by rw [hM.tl hja]) ?_
  refine lv_iload hx hb dX6_add_31 (lv_at hl 0 rfl) ?_
  refine lv_iconst (v := 2) hx hb dX6_add_33 (by decide) ?_
  refine lv_iadd hx hb dX6_add_34 ?_
  refine lv_topi (fun v300023 ev300023 => ?_)
  have tv300023 : v300023.toInt = v300012.toInt + 2 := by rw [ev300023]; exact xaddk (by decide) (by omega) (by omega)
  have hin300024 : vp_in v300023 640 := xin_of (by omega) (by omega)
  refine lv_iload_n hx hb dX6_add_35 rfl (lv_at hl 4 rfl) ?_
  obtain ⟨j300025, hj300025⟩ := wG_20 (cy := cy) (N := N) (T := T) (I := I) (Q := Q) (J := J300021) (hM.ce hja).1 (hM.ce hja).2
  have hDo := hD
  refine va_iast (x := x3) hx hb hK hP hD hS j300025 1 hj300025 rfl (hM.inC hja hin300024) dX6_add_36 (fun H locs hP hD hS => ?_)
  have hP := Eq.mp (congrArg (fun w => va_P (dC, dI) vwCl w H) (wS_20 hDo (hM.ce hja).1 (hM.ce hja).2 hj300025)) hP
  obtain ⟨J300026, eJ300026⟩ : ∃ z, z = va_up J300021 (w (41 + ja)) (upd (J300021 (w (41 + ja))) v300023.toNatClampNeg x3) := ⟨_, rfl⟩
  rw [← eJ300026] at hP
  have hD : va_D A (va_pl L (wF cy K N T I Q J300026)) := pD hDo
  refine lv_aload_n hx hb dX6_add_37 rfl (lv_at hl 1 rfl) ?_
  obtain ⟨j300027, hj300027⟩ := wG_6 (cy := cy) (N := N) (T := T) (I := I) (Q := Q) (J := J300026) (hM.lg hja).1 (hM.lg hja).2
  refine va_get (D := (dC, dI)) (ci := 6) (v := .ref (T (w (21 + ja)) 0)) (C := RX6) (T := TX6) (N := 7) hx hb hts hi6 hown hK hP j300027 hj300027 rfl 0 (by decide) (hts (.fieldLink RX6 9 "TallyLogsModel$Log" "cell" "[I") (by decide +kernel)) (fun _ h9 => h9) rfl dX6_add_38 ?_
  refine W.eq (g2 := F0 m 41 ls [.ref (w (41 + ja))]) (by rw [hM.tl hja]) ?_
  refine lv_iload hx hb dX6_add_41 (lv_at hl 0 rfl) ?_
  refine lv_iconst (v := 3) hx hb dX6_add_43 (by decide) ?_
  refine lv_iadd hx hb dX6_add_44 ?_
  refine lv_topi (fun v300028 ev300028 => ?_)
  have tv300028 : v300028.toInt = v300012.toInt + 3 := by rw [ev300028]; exact xaddk (by decide) (by omega) (by omega)
  have hin300029 : vp_in v300028 640 := xin_of (by omega) (by omega)
  refine lv_iload hx hb dX6_add_45 (lv_at hl 5 rfl) ?_
  obtain ⟨j300030, hj300030⟩ := wG_20 (cy := cy) (N := N) (T := T) (I := I) (Q := Q) (J := J300026) (hM.ce hja).1 (hM.ce hja).2
  have hDo := hD
  refine va_iast (x := x4) hx hb hK hP hD hS j300030 1 hj300030 rfl (hM.inC hja hin300029) dX6_add_47 (fun H locs hP hD hS => ?_)
  have hP := Eq.mp (congrArg (fun w => va_P (dC, dI) vwCl w H) (wS_20 hDo (hM.ce hja).1 (hM.ce hja).2 hj300030)) hP
  obtain ⟨J300031, eJ300031⟩ : ∃ z, z = va_up J300026 (w (41 + ja)) (upd (J300026 (w (41 + ja))) v300028.toNatClampNeg x4) := ⟨_, rfl⟩
  rw [← eJ300031] at hP
  have hD : va_D A (va_pl L (wF cy K N T I Q J300031)) := pD hDo
  refine lv_aload_n hx hb dX6_add_48 rfl (lv_at hl 1 rfl) ?_
  obtain ⟨j300032, hj300032⟩ := wG_6 (cy := cy) (N := N) (T := T) (I := I) (Q := Q) (J := J300031) (hM.lg hja).1 (hM.lg hja).2
  refine va_get (D := (dC, dI)) (ci := 6) (v := .ref (T (w (21 + ja)) 0)) (C := RX6) (T := TX6) (N := 7) hx hb hts hi6 hown hK hP j300032 hj300032 rfl 0 (by decide) (hts (.fieldLink RX6 9 "TallyLogsModel$Log" "cell" "[I") (by decide +kernel)) (fun _ h9 => h9) rfl dX6_add_49 ?_
  refine W.eq (g2 := F0 m 52 ls [.ref (w (41 + ja))]) (by rw [hM.tl hja]) ?_
  refine lv_iload hx hb dX6_add_52 (lv_at hl 0 rfl) ?_
  refine lv_iconst (v := 4) hx hb dX6_add_54 (by decide) ?_
  refine lv_iadd hx hb dX6_add_55 ?_
  refine lv_topi (fun v300033 ev300033 => ?_)
  have tv300033 : v300033.toInt = v300012.toInt + 4 := by rw [ev300033]; exact xaddk (by decide) (by omega) (by omega)
  have hin300034 : vp_in v300033 640 := xin_of (by omega) (by omega)
  refine lv_iload hx hb dX6_add_56 (lv_at hl 6 rfl) ?_
  obtain ⟨j300035, hj300035⟩ := wG_20 (cy := cy) (N := N) (T := T) (I := I) (Q := Q) (J := J300031) (hM.ce hja).1 (hM.ce hja).2
  have hDo := hD
  refine va_iast (x := x5) hx hb hK hP hD hS j300035 1 hj300035 rfl (hM.inC hja hin300034) dX6_add_58 (fun H locs hP hD hS => ?_)
  have hP := Eq.mp (congrArg (fun w => va_P (dC, dI) vwCl w H) (wS_20 hDo (hM.ce hja).1 (hM.ce hja).2 hj300035)) hP
  obtain ⟨J300036, eJ300036⟩ : ∃ z, z = va_up J300031 (w (41 + ja)) (upd (J300031 (w (41 + ja))) v300033.toNatClampNeg x5) := ⟨_, rfl⟩
  rw [← eJ300036] at hP
  have hD : va_D A (va_pl L (wF cy K N T I Q J300036)) := pD hDo
  refine lv_aload_n hx hb dX6_add_59 rfl (lv_at hl 1 rfl) ?_
  obtain ⟨j300037, hj300037⟩ := wG_6 (cy := cy) (N := N) (T := T) (I := I) (Q := Q) (J := J300036) (hM.lg hja).1 (hM.lg hja).2
  refine va_get (D := (dC, dI)) (ci := 6) (v := .ref (T (w (21 + ja)) 0)) (C := RX6) (T := TX6) (N := 7) hx hb hts hi6 hown hK hP j300037 hj300037 rfl 0 (by decide) (hts (.fieldLink RX6 9 "TallyLogsModel$Log" "cell" "[I") (by decide +kernel)) (fun _ h9 => h9) rfl dX6_add_60 ?_
  refine W.eq (g2 := F0 m 63 ls [.ref (w (41 + ja))]) (by rw [hM.tl hja]) ?_
  refine lv_iload hx hb dX6_add_63 (lv_at hl 0 rfl) ?_
  refine lv_iconst (v := 5) hx hb dX6_add_65 (by decide) ?_
  refine lv_iadd hx hb dX6_add_66 ?_
  refine lv_topi (fun v300038 ev300038 => ?_)
  have tv300038 : v300038.toInt = v300012.toInt + 5 := by rw [ev300038]; exact xaddk (by decide) (by omega) (by omega)
  have hin300039 : vp_in v300038 640 := xin_of (by omega) (by omega)
  refine lv_iload hx hb dX6_add_67 (lv_at hl 7 rfl) ?_
  obtain ⟨j300040, hj300040⟩ := wG_20 (cy := cy) (N := N) (T := T) (I := I) (Q := Q) (J := J300036) (hM.ce hja).1 (hM.ce hja).2
  have hDo := hD
  refine va_iast (x := x6) hx hb hK hP hD hS j300040 1 hj300040 rfl (hM.inC hja hin300039) dX6_add_69 (fun H locs hP hD hS => ?_)
  have hP := Eq.mp (congrArg (fun w => va_P (dC, dI) vwCl w H) (wS_20 hDo (hM.ce hja).1 (hM.ce hja).2 hj300040)) hP
  obtain ⟨J300041, eJ300041⟩ : ∃ z, z = va_up J300036 (w (41 + ja)) (upd (J300036 (w (41 + ja))) v300038.toNatClampNeg x6) := ⟨_, rfl⟩
  rw [← eJ300041] at hP
  have hD : va_D A (va_pl L (wF cy K N T I Q J300041)) := pD hDo
  refine lv_aload_n hx hb dX6_add_70 rfl (lv_at hl 1 rfl) ?_
  obtain ⟨j300042, hj300042⟩ := wG_6 (cy := cy) (N := N) (T := T) (I := I) (Q := Q) (J := J300041) (hM.lg hja).1 (hM.lg hja).2
  refine va_get (D := (dC, dI)) (ci := 6) (v := .ref (T (w (21 + ja)) 0)) (C := RX6) (T := TX6) (N := 7) hx hb hts hi6 hown hK hP j300042 hj300042 rfl 0 (by decide) (hts (.fieldLink RX6 9 "TallyLogsModel$Log" "cell" "[I") (by decide +kernel)) (fun _ h9 => h9) rfl dX6_add_71 ?_
  refine W.eq (g2 := F0 m 74 ls [.ref (w (41 + ja))]) (by rw [hM.tl hja]) ?_
  refine lv_iload hx hb dX6_add_74 (lv_at hl 0 rfl) ?_
  refine lv_bipush (v := 6) hx hb dX6_add_76 (by decide) ?_
  refine lv_iadd hx hb dX6_add_78 ?_
  refine lv_topi (fun v300043 ev300043 => ?_)
  have tv300043 : v300043.toInt = v300012.toInt + 6 := by rw [ev300043]; exact xaddk (by decide) (by omega) (by omega)
  have hin300044 : vp_in v300043 640 := xin_of (by omega) (by omega)
  refine lv_iload hx hb dX6_add_79 (lv_at hl 8 rfl) ?_
  obtain ⟨j300045, hj300045⟩ := wG_20 (cy := cy) (N := N) (T := T) (I := I) (Q := Q) (J := J300041) (hM.ce hja).1 (hM.ce hja).2
  have hDo := hD
  refine va_iast (x := x7) hx hb hK hP hD hS j300045 1 hj300045 rfl (hM.inC hja hin300044) dX6_add_81 (fun H locs hP hD hS => ?_)
  have hP := Eq.mp (congrArg (fun w => va_P (dC, dI) vwCl w H) (wS_20 hDo (hM.ce hja).1 (hM.ce hja).2 hj300045)) hP
  obtain ⟨J300046, eJ300046⟩ : ∃ z, z = va_up J300041 (w (41 + ja)) (upd (J300041 (w (41 + ja))) v300043.toNatClampNeg x7) := ⟨_, rfl⟩
  rw [← eJ300046] at hP
  have hD : va_D A (va_pl L (wF cy K N T I Q J300046)) := pD hDo
  refine lv_aload_n hx hb dX6_add_82 rfl (lv_at hl 1 rfl) ?_
  obtain ⟨j300047, hj300047⟩ := wG_6 (cy := cy) (N := N) (T := T) (I := I) (Q := Q) (J := J300046) (hM.lg hja).1 (hM.lg hja).2
  refine va_get (D := (dC, dI)) (ci := 6) (v := .ref (T (w (21 + ja)) 0)) (C := RX6) (T := TX6) (N := 7) hx hb hts hi6 hown hK hP j300047 hj300047 rfl 0 (by decide) (hts (.fieldLink RX6 9 "TallyLogsModel$Log" "cell" "[I") (by decide +kernel)) (fun _ h9 => h9) rfl dX6_add_83 ?_
  refine W.eq (g2 := F0 m 86 ls [.ref (w (41 + ja))]) (by rw [hM.tl hja]) ?_
  refine lv_iload hx hb dX6_add_86 (lv_at hl 0 rfl) ?_
  refine lv_bipush (v := 7) hx hb dX6_add_88 (by decide) ?_
  refine lv_iadd hx hb dX6_add_90 ?_
  refine lv_topi (fun v300048 ev300048 => ?_)
  have tv300048 : v300048.toInt = v300012.toInt + 7 := by rw [ev300048]; exact xaddk (by decide) (by omega) (by omega)
  have hin300049 : vp_in v300048 640 := xin_of (by omega) (by omega)
  refine lv_iload hx hb dX6_add_91 (lv_at hl 9 rfl) ?_
  obtain ⟨j300050, hj300050⟩ := wG_20 (cy := cy) (N := N) (T := T) (I := I) (Q := Q) (J := J300046) (hM.ce hja).1 (hM.ce hja).2
  have hDo := hD
  refine va_iast (x := x8) hx hb hK hP hD hS j300050 1 hj300050 rfl (hM.inC hja hin300049) dX6_add_93 (fun H locs hP hD hS => ?_)
  have hP := Eq.mp (congrArg (fun w => va_P (dC, dI) vwCl w H) (wS_20 hDo (hM.ce hja).1 (hM.ce hja).2 hj300050)) hP
  obtain ⟨J300051, eJ300051⟩ : ∃ z, z = va_up J300046 (w (41 + ja)) (upd (J300046 (w (41 + ja))) v300048.toNatClampNeg x8) := ⟨_, rfl⟩
  rw [← eJ300051] at hP
  have hD : va_D A (va_pl L (wF cy K N T I Q J300051)) := pD hDo
  refine lv_aload_n hx hb dX6_add_94 rfl (lv_at hl 1 rfl) ?_
  refine lv_dup hx hb dX6_add_95 rfl ?_
  obtain ⟨j300052, hj300052⟩ := wG_6 (cy := cy) (N := N) (T := T) (I := I) (Q := Q) (J := J300051) (hM.lg hja).1 (hM.lg hja).2
  refine va_get (D := (dC, dI)) (ci := 6) (v := .int (I (w (21 + ja)) 2)) (C := RX6) (T := TX6) (N := 7) hx hb hts hi6 hown hK hP j300052 hj300052 rfl 2 (by decide) (hts (.fieldLink RX6 19 "TallyLogsModel$Log" "end" "I") (by decide +kernel)) (fun _ h9 => h9) rfl dX6_add_96 ?_
  refine lv_topi (fun x300053 ex300053 => ?_)
  have tx300053 : x300053.toInt = (I (w (21 + ja)) 2).toInt := congrArg Int32.toInt ex300053
  refine lv_iconst (v := 1) hx hb dX6_add_99 (by decide) ?_
  refine lv_iadd hx hb dX6_add_100 ?_
  refine lv_topi (fun v300054 ev300054 => ?_)
  have tv300054 : v300054.toInt = x300053.toInt + 1 := by rw [ev300054]; exact xaddk (by decide) (by omega) (by omega)
  obtain ⟨j300055, hj300055⟩ := wG_6 (cy := cy) (N := N) (T := T) (I := I) (Q := Q) (J := J300051) (hM.lg hja).1 (hM.lg hja).2
  have hDo := hD
  refine va_put (D := (dC, dI)) (ci := 6) (v := .int v300054) (ty := .int) (C := RX6) (T := TX6) (N := 7) hx hb hts hi6 tyX6 tyX6_ok nmX6 hown hK hP hD hS j300055 hj300055 rfl 2 (by decide) (hts (.fieldLink RX6 19 "TallyLogsModel$Log" "end" "I") (by decide +kernel)) (fun _ h9 => h9) rfl (by decide +kernel) rfl rfl (Nat.le_of_ble_eq_true rfl) dX6_add_101 (fun H locs hP hD hS => ?_)
  have hP := Eq.mp (congrArg (fun w => va_P (dC, dI) vwCl w H) (wP_6_2 (x := v300054) hDo (hM.lg hja).1 (hM.lg hja).2 hj300055)) hP
  obtain ⟨I300056, eI300056⟩ : ∃ z, z = p2 I (w (21 + ja)) 2 v300054 := ⟨_, rfl⟩
  rw [← eI300056] at hP
  have hD : va_D A (va_pl L (wF cy K N T I300056 Q J300051)) := pD hDo
  have z1 := hMR.vb hja
  have z2 := hMR.ve hja
  have z0 : 8 * (ze σ ja - zb σ ja) = v300012.toInt.toNat := by rw [z1, z2, clT, clT]; omega
  have nv300048 : v300048.toNatClampNeg = 8 * (ze σ ja - zb σ ja) + 7 := by rw [z0, clT]; omega
  have nv300043 : v300043.toNatClampNeg = 8 * (ze σ ja - zb σ ja) + 6 := by rw [z0, clT]; omega
  have nv300038 : v300038.toNatClampNeg = 8 * (ze σ ja - zb σ ja) + 5 := by rw [z0, clT]; omega
  have nv300033 : v300033.toNatClampNeg = 8 * (ze σ ja - zb σ ja) + 4 := by rw [z0, clT]; omega
  have nv300028 : v300028.toNatClampNeg = 8 * (ze σ ja - zb σ ja) + 3 := by rw [z0, clT]; omega
  have nv300023 : v300023.toNatClampNeg = 8 * (ze σ ja - zb σ ja) + 2 := by rw [z0, clT]; omega
  have nv300018 : v300018.toNatClampNeg = 8 * (ze σ ja - zb σ ja) + 1 := by rw [z0, clT]; omega
  have nv300012 : v300012.toNatClampNeg = 8 * (ze σ ja - zb σ ja) + 0 := by rw [z0, clT]; omega
  have hlo : ∀ i, i < 8 * (ze σ ja - zb σ ja) → J300051 (w (41 + ja)) i = J (w (41 + ja)) i := by
    intro i hi
    rw [eJ300051, va_up_self]
    simp only [upd]
    rw [if_neg (by rw [nv300048]; omega)]
    rw [eJ300046, va_up_self]
    simp only [upd]
    rw [if_neg (by rw [nv300043]; omega)]
    rw [eJ300041, va_up_self]
    simp only [upd]
    rw [if_neg (by rw [nv300038]; omega)]
    rw [eJ300036, va_up_self]
    simp only [upd]
    rw [if_neg (by rw [nv300033]; omega)]
    rw [eJ300031, va_up_self]
    simp only [upd]
    rw [if_neg (by rw [nv300028]; omega)]
    rw [eJ300026, va_up_self]
    simp only [upd]
    rw [if_neg (by rw [nv300023]; omega)]
    rw [eJ300021, va_up_self]
    simp only [upd]
    rw [if_neg (by rw [nv300018]; omega)]
    rw [eJ300016, va_up_self]
    simp only [upd]
    rw [if_neg (by rw [nv300012]; omega)]
  have hhi : ∀ f, f < 8 → J300051 (w (41 + ja)) (8 * (ze σ ja - zb σ ja) + f) = (r8 x1 x2 x3 x4 x5 x6 x7 x8) f := by
    intro f hf
    rcases (show f = 0 ∨ f = 1 ∨ f = 2 ∨ f = 3 ∨ f = 4 ∨ f = 5 ∨ f = 6 ∨ f = 7 by omega) with rfl | rfl | rfl | rfl | rfl | rfl | rfl | rfl
    · rw [eJ300051, va_up_self]
      simp only [upd]
      rw [if_neg (by rw [nv300048]; omega)]
      rw [eJ300046, va_up_self]
      simp only [upd]
      rw [if_neg (by rw [nv300043]; omega)]
      rw [eJ300041, va_up_self]
      simp only [upd]
      rw [if_neg (by rw [nv300038]; omega)]
      rw [eJ300036, va_up_self]
      simp only [upd]
      rw [if_neg (by rw [nv300033]; omega)]
      rw [eJ300031, va_up_self]
      simp only [upd]
      rw [if_neg (by rw [nv300028]; omega)]
      rw [eJ300026, va_up_self]
      simp only [upd]
      rw [if_neg (by rw [nv300023]; omega)]
      rw [eJ300021, va_up_self]
      simp only [upd]
      rw [if_neg (by rw [nv300018]; omega)]
      rw [eJ300016, va_up_self]
      simp only [upd]
      rw [if_pos (by rw [nv300012])]
      rfl
    · rw [eJ300051, va_up_self]
      simp only [upd]
      rw [if_neg (by rw [nv300048]; omega)]
      rw [eJ300046, va_up_self]
      simp only [upd]
      rw [if_neg (by rw [nv300043]; omega)]
      rw [eJ300041, va_up_self]
      simp only [upd]
      rw [if_neg (by rw [nv300038]; omega)]
      rw [eJ300036, va_up_self]
      simp only [upd]
      rw [if_neg (by rw [nv300033]; omega)]
      rw [eJ300031, va_up_self]
      simp only [upd]
      rw [if_neg (by rw [nv300028]; omega)]
      rw [eJ300026, va_up_self]
      simp only [upd]
      rw [if_neg (by rw [nv300023]; omega)]
      rw [eJ300021, va_up_self]
      simp only [upd]
      rw [if_pos (by rw [nv300018])]
      rfl
    · rw [eJ300051, va_up_self]
      simp only [upd]
      rw [if_neg (by rw [nv300048]; omega)]
      rw [eJ300046, va_up_self]
      simp only [upd]
      rw [if_neg (by rw [nv300043]; omega)]
      rw [eJ300041, va_up_self]
      simp only [upd]
      rw [if_neg (by rw [nv300038]; omega)]
      rw [eJ300036, va_up_self]
      simp only [upd]
      rw [if_neg (by rw [nv300033]; omega)]
      rw [eJ300031, va_up_self]
      simp only [upd]
      rw [if_neg (by rw [nv300028]; omega)]
      rw [eJ300026, va_up_self]
      simp only [upd]
      rw [if_pos (by rw [nv300023])]
      rfl
    · rw [eJ300051, va_up_self]
      simp only [upd]
      rw [if_neg (by rw [nv300048]; omega)]
      rw [eJ300046, va_up_self]
      simp only [upd]
      rw [if_neg (by rw [nv300043]; omega)]
      rw [eJ300041, va_up_self]
      simp only [upd]
      rw [if_neg (by rw [nv300038]; omega)]
      rw [eJ300036, va_up_self]
      simp only [upd]
      rw [if_neg (by rw [nv300033]; omega)]
      rw [eJ300031, va_up_self]
      simp only [upd]
      rw [if_pos (by rw [nv300028])]
      rfl
    · rw [eJ300051, va_up_self]
      simp only [upd]
      rw [if_neg (by rw [nv300048]; omega)]
      rw [eJ300046, va_up_self]
      simp only [upd]
      rw [if_neg (by rw [nv300043]; omega)]
      rw [eJ300041, va_up_self]
      simp only [upd]
      rw [if_neg (by rw [nv300038]; omega)]
      rw [eJ300036, va_up_self]
      simp only [upd]
      rw [if_pos (by rw [nv300033])]
      rfl
    · rw [eJ300051, va_up_self]
      simp only [upd]
      rw [if_neg (by rw [nv300048]; omega)]
      rw [eJ300046, va_up_self]
      simp only [upd]
      rw [if_neg (by rw [nv300043]; omega)]
      rw [eJ300041, va_up_self]
      simp only [upd]
      rw [if_pos (by rw [nv300038])]
      rfl
    · rw [eJ300051, va_up_self]
      simp only [upd]
      rw [if_neg (by rw [nv300048]; omega)]
      rw [eJ300046, va_up_self]
      simp only [upd]
      rw [if_pos (by rw [nv300043])]
      rfl
    · rw [eJ300051, va_up_self]
      simp only [upd]
      rw [if_pos (by rw [nv300048])]
      rfl
  exact W.vret hx hb hr (fun t ht hW => ⟨⟨(I300056, J300051), rfl, ⟨hMR.ad hM hja (fun q f h => by show I300056 q f = I q f; rw [eI300056, p2_ne _ _ (fun z => h ⟨z.1, Or.inr z.2⟩)]) (fun q h => by show J300051 q = J q; rw [eJ300051, va_up_ne _ _ h, eJ300046, va_up_ne _ _ h, eJ300041, va_up_ne _ _ h, eJ300036, va_up_ne _ _ h, eJ300031, va_up_ne _ _ h, eJ300026, va_up_ne _ _ h, eJ300021, va_up_ne _ _ h, eJ300016, va_up_ne _ _ h]) (by show I300056 (w (21 + ja)) 1 = _; rw [eI300056, p2_ne _ _ (fun q => absurd q.2 (by decide))]) (by show I300056 (w (21 + ja)) 2 = _; rw [eI300056, p2_at, ev300054, ex300053]) h0 h1 h3 hlo hhi, ⟨(fun q f h => by show I300056 q f = I q f; rw [eI300056, p2_ne _ _ (fun z => h ⟨z.1, Or.inr z.2⟩)]), (fun q h => by show J300051 q = J q; rw [eJ300051, va_up_ne _ _ h, eJ300046, va_up_ne _ _ h, eJ300041, va_up_ne _ _ h, eJ300036, va_up_ne _ _ h, eJ300031, va_up_ne _ _ h, eJ300026, va_up_ne _ _ h, eJ300021, va_up_ne _ _ h, eJ300016, va_up_ne _ _ h]), (by show (I300056 (w (21 + ja)) 1).toInt = _; rw [eI300056, p2_ne _ _ (fun q => absurd q.2 (by decide))]; try omega), (by show (I300056 (w (21 + ja)) 2).toInt = _; rw [eI300056, p2_at]; try omega)⟩⟩, by rw [ht]; exact hP, va_K.moved hW.alike hK, hD⟩, hS.F ht⟩) hS.2.2 dX6_add_104
set_option maxHeartbeats 4000000 in
set_option maxRecDepth 100000 in
/-- Log.from, exactly -/
theorem f_X6_from (l : Launch) (dC : Nat → ClassId) (dI : Nat → Nat → Nat) (cy : Nat → ClassId) (w : Nat → Nat) (L : List Nat) (K N : Nat → Nat) (T : Nat → Nat → Nat) (Q : Nat → Nat → Option Nat) (I J : Nat → Nat → Int32) (sz : Nat) (ja : Nat) (xo : Int32) (σ : SG) (hM : MS w L K N T Q) (hja : ja < 20) (h0 : 0 ≤ (I (w (21 + ja)) 1).toInt) (h1 : (I (w (21 + ja)) 1).toInt ≤ (I (w (21 + ja)) 2).toInt) (h2 : (I (w (21 + ja)) 2).toInt ≤ (I (w (21 + ja)) 1).toInt + 80) (hMR : MR w I J σ) : Met l yX6_from wsX6_from ({ frames := 1, cells := 0, slots := 0, locals := 24 }) (va_Pc [.ref (w (21 + ja)), .int xo] (mW dC dI cy L (wF cy K N T I Q J) sz)) (va_Qv (fun d : (Nat → Nat → Int32) × (Nat → Nat → Int32) => MR w d.1 d.2 (oFr σ ja xo) ∧ LW w I J d.1 d.2 ja (max (I (w (21 + ja)) 1).toInt xo.toInt) (if xo.toInt ≤ (I (w (21 + ja)) 1).toInt then (I (w (21 + ja)) 2).toInt else max (I (w (21 + ja)) 2).toInt xo.toInt)) (fun (d : (Nat → Nat → Int32) × (Nat → Nat → Int32)) t => va_P (dC, dI) vwCl (va_pl L (wF cy K N T d.1 Q d.2)) t.heap ∧ va_K (dC, dI) vwCl (mTy cy) t ∧ va_D (va_A (va_pl L (wF cy K N T I Q J)) sz) (va_pl L (wF cy K N T d.1 Q d.2))) (va_A (va_pl L (wF cy K N T I Q J)) sz)) 0 0 (va_A (va_pl L (wF cy K N T I Q J)) sz) := by
  refine Met.ofW (cc := cX6_from) (maxL := 2) (ret := none) (by decide) rfl ?_
  intro p e s m args below meth c s₁ B hml hv
  obtain ⟨rfl, hsz, ⟨hP, hK⟩, hD0⟩ := hv
  have hx := B.exec
  have hb := B.bytes
  have hr := B.returns
  have hts := atoms_spec (ws := wsX6_from) B.pre
  have hown : s.vm.findClass RX6 = some m.cls := findClass_of_methodNamed B.named
  have hlocks := B.notSynchronized
  have hi6 : ∀ w ∈ wsX60, w ∈ wsX6_from := by decide +kernel
  have hl := lv_entry ([.ref (w (21 + ja)), .int xo]) (n := 2) (Nat.le_of_ble_eq_true rfl)
  rw [lg_entry_eq]
  generalize (lg_sl ([.ref (w (21 + ja)), .int xo]) ++ List.replicate (2 - (lg_sl ([.ref (w (21 + ja)), .int xo])).length) Slot.unset).toArray = ls at hl ⊢
  have hl : lv_has ls 2 [(0, .ref (w (21 + ja))), (1, .int xo)] := hl
  subst hsz
  have hD := hD0.self (sz := s.heap.size)
  generalize hAe : va_A (va_pl L (wF cy K N T I Q J)) s.heap.size = A at hD ⊢
  have hA : ∀ q : Nat, s.heap.size ≤ q → A q := fun q h => by rw [← hAe]; exact Or.inr h
  have hS : va_S A s.heap s.heap [] := va_S.rf
  refine lv_iload_n hx hb dX6_from_0 rfl (lv_at hl 1 rfl) ?_
  refine lv_aload_n hx hb dX6_from_1 rfl (lv_at hl 0 rfl) ?_
  obtain ⟨j300057, hj300057⟩ := wG_6 (cy := cy) (N := N) (T := T) (I := I) (Q := Q) (J := J) (hM.lg hja).1 (hM.lg hja).2
  refine va_get (D := (dC, dI)) (ci := 6) (v := .int (I (w (21 + ja)) 1)) (C := RX6) (T := TX6) (N := 7) hx hb hts hi6 hown hK hP j300057 hj300057 rfl 1 (by decide) (hts (.fieldLink RX6 15 "TallyLogsModel$Log" "start" "I") (by decide +kernel)) (fun _ h9 => h9) rfl dX6_from_2 ?_
  refine lv_topi (fun x300058 ex300058 => ?_)
  have tx300058 : x300058.toInt = (I (w (21 + ja)) 1).toInt := congrArg Int32.toInt ex300058
  refine lv_icmp_gt (tgt := 9) hx hb dX6_from_5 (by decide) (fun c300059 => ?_) (fun c300059 => ?_)
  · have kc300059 : x300058.toInt < xo.toInt := by have h9 := c300059; rw [xk_lt] at h9; exact h9
    refine lv_iload_n hx hb dX6_from_9 rfl (lv_at hl 1 rfl) ?_
    refine lv_aload_n hx hb dX6_from_10 rfl (lv_at hl 0 rfl) ?_
    obtain ⟨j300060, hj300060⟩ := wG_6 (cy := cy) (N := N) (T := T) (I := I) (Q := Q) (J := J) (hM.lg hja).1 (hM.lg hja).2
    refine va_get (D := (dC, dI)) (ci := 6) (v := .int (I (w (21 + ja)) 2)) (C := RX6) (T := TX6) (N := 7) hx hb hts hi6 hown hK hP j300060 hj300060 rfl 2 (by decide) (hts (.fieldLink RX6 19 "TallyLogsModel$Log" "end" "I") (by decide +kernel)) (fun _ h9 => h9) rfl dX6_from_11 ?_
    refine lv_topi (fun x300061 ex300061 => ?_)
    have tx300061 : x300061.toInt = (I (w (21 + ja)) 2).toInt := congrArg Int32.toInt ex300061
    refine lv_icmp_lt (tgt := 28) hx hb dX6_from_14 (by decide) (fun c300062 => ?_) (fun c300062 => ?_)
    · have kc300062 : xo.toInt < x300061.toInt := by have h9 := c300062; rw [xk_lt] at h9; exact h9
      refine lv_aload_n hx hb dX6_from_28 rfl (lv_at hl 0 rfl) ?_
      obtain ⟨j300063, hj300063⟩ := wG_6 (cy := cy) (N := N) (T := T) (I := I) (Q := Q) (J := J) (hM.lg hja).1 (hM.lg hja).2
      refine va_get (D := (dC, dI)) (ci := 6) (v := .ref (T (w (21 + ja)) 0)) (C := RX6) (T := TX6) (N := 7) hx hb hts hi6 hown hK hP j300063 hj300063 rfl 0 (by decide) (hts (.fieldLink RX6 9 "TallyLogsModel$Log" "cell" "[I") (by decide +kernel)) (fun _ h9 => h9) rfl dX6_from_29 ?_
      refine W.eq (g2 := F0 m 32 ls [.ref (w (41 + ja))]) (by rw [hM.tl hja]) ?_
      refine lv_bipush (v := 8) hx hb dX6_from_32 (by decide) ?_
      refine lv_iload_n hx hb dX6_from_34 rfl (lv_at hl 1 rfl) ?_
      refine lv_aload_n hx hb dX6_from_35 rfl (lv_at hl 0 rfl) ?_
      obtain ⟨j300064, hj300064⟩ := wG_6 (cy := cy) (N := N) (T := T) (I := I) (Q := Q) (J := J) (hM.lg hja).1 (hM.lg hja).2
      refine va_get (D := (dC, dI)) (ci := 6) (v := .int (I (w (21 + ja)) 1)) (C := RX6) (T := TX6) (N := 7) hx hb hts hi6 hown hK hP j300064 hj300064 rfl 1 (by decide) (hts (.fieldLink RX6 15 "TallyLogsModel$Log" "start" "I") (by decide +kernel)) (fun _ h9 => h9) rfl dX6_from_36 ?_
      refine lv_topi (fun x300065 ex300065 => ?_)
      have tx300065 : x300065.toInt = (I (w (21 + ja)) 1).toInt := congrArg Int32.toInt ex300065
      refine lv_isub hx hb dX6_from_39 ?_
      refine lv_topi (fun v300066 ev300066 => ?_)
      refine lv_imul hx hb dX6_from_40 ?_
      refine lv_topi (fun v300067 ev300067 => ?_)
      refine lv_aload_n hx hb dX6_from_41 rfl (lv_at hl 0 rfl) ?_
      obtain ⟨j300068, hj300068⟩ := wG_6 (cy := cy) (N := N) (T := T) (I := I) (Q := Q) (J := J) (hM.lg hja).1 (hM.lg hja).2
      refine va_get (D := (dC, dI)) (ci := 6) (v := .ref (T (w (21 + ja)) 0)) (C := RX6) (T := TX6) (N := 7) hx hb hts hi6 hown hK hP j300068 hj300068 rfl 0 (by decide) (hts (.fieldLink RX6 9 "TallyLogsModel$Log" "cell" "[I") (by decide +kernel)) (fun _ h9 => h9) rfl dX6_from_42 ?_
      refine W.eq (g2 := F0 m 45 ls [.ref (w (41 + ja)), .int v300067, .ref (w (41 + ja))]) (by rw [hM.tl hja]) ?_
      refine lv_iconst (v := 0) hx hb dX6_from_45 (by decide) ?_
      refine lv_bipush (v := 8) hx hb dX6_from_46 (by decide) ?_
      refine lv_aload_n hx hb dX6_from_48 rfl (lv_at hl 0 rfl) ?_
      obtain ⟨j300069, hj300069⟩ := wG_6 (cy := cy) (N := N) (T := T) (I := I) (Q := Q) (J := J) (hM.lg hja).1 (hM.lg hja).2
      refine va_get (D := (dC, dI)) (ci := 6) (v := .int (I (w (21 + ja)) 2)) (C := RX6) (T := TX6) (N := 7) hx hb hts hi6 hown hK hP j300069 hj300069 rfl 2 (by decide) (hts (.fieldLink RX6 19 "TallyLogsModel$Log" "end" "I") (by decide +kernel)) (fun _ h9 => h9) rfl dX6_from_49 ?_
      refine lv_topi (fun x300070 ex300070 => ?_)
      have tx300070 : x300070.toInt = (I (w (21 + ja)) 2).toInt := congrArg Int32.toInt ex300070
      refine lv_iload_n hx hb dX6_from_52 rfl (lv_at hl 1 rfl) ?_
      refine lv_isub hx hb dX6_from_53 ?_
      refine lv_topi (fun v300071 ev300071 => ?_)
      refine lv_imul hx hb dX6_from_54 ?_
      refine lv_topi (fun v300072 ev300072 => ?_)
      obtain ⟨j300073, hj300073⟩ := wG_20 (cy := cy) (N := N) (T := T) (I := I) (Q := Q) (J := J) (hM.ce hja).1 (hM.ce hja).2
      have tv300066 : v300066.toInt = xo.toInt - x300065.toInt := by rw [ev300066]; exact xsub (by omega) (by omega)
      have tv300067 : v300067.toInt = 8 * v300066.toInt := by rw [ev300067]; exact xmul8 (by omega) (by omega)
      have tv300071 : v300071.toInt = x300070.toInt - xo.toInt := by rw [ev300071]; exact xsub (by omega) (by omega)
      have tv300072 : v300072.toInt = 8 * v300071.toInt := by rw [ev300072]; exact xmul8 (by omega) (by omega)
      have hc300074 : v300067.toNatClampNeg = v300067.toInt.toNat := rfl
      have hc300075 : (0 : Int32).toNatClampNeg = 0 := by decide
      have hc300076 : v300072.toNatClampNeg = v300072.toInt.toNat := rfl
      have hDo := hD
      refine va_copyi (n := v300072) (dp := 0) (sp := v300067) hx hb (by rw [hml]; exact hl.1.symm) hown (hts (.methodLink RX6 22 arraycopyName) (by decide +kernel)) (hts (.native arraycopyName) (by decide +kernel)) (hts (.static arraycopyName) (by decide +kernel)) (hts (.initialized "java/lang/System") (by decide +kernel)) hK hP hD hS j300073 j300073 1 1 hj300073 hj300073 rfl rfl rfl (by rw [xk_lt, xk_0]; omega) (by decide) (by rw [xk_lt, xk_0]; omega) (by rw [hM.nc hja, hc300074, hc300076]; omega) (by rw [hM.nc hja, hc300075, hc300076]; omega) (fun _ _ => rfl) (Nat.le_of_ble_eq_true rfl) (Nat.le_of_ble_eq_true rfl) dX6_from_55 (fun H locs hP hD hS => ?_)
      have hP := Eq.mp (congrArg (fun w => va_P (dC, dI) vwCl w H) (wR_20 hDo (hM.ce hja).1 (hM.ce hja).2 hj300073)) hP
      obtain ⟨J300077, eJ300077⟩ : ∃ z, z = va_up J (w (41 + ja)) (va_cpy (J (w (41 + ja))) (J (w (41 + ja))) v300067.toNatClampNeg (0 : Int32).toNatClampNeg v300072.toNatClampNeg) := ⟨_, rfl⟩
      rw [← eJ300077] at hP
      have hD : va_D A (va_pl L (wF cy K N T I Q J300077)) := pD hDo
      refine lv_aload_n hx hb dX6_from_58 rfl (lv_at hl 0 rfl) ?_
      refine lv_iload_n hx hb dX6_from_59 rfl (lv_at hl 1 rfl) ?_
      obtain ⟨j300078, hj300078⟩ := wG_6 (cy := cy) (N := N) (T := T) (I := I) (Q := Q) (J := J300077) (hM.lg hja).1 (hM.lg hja).2
      have hDo := hD
      refine va_put (D := (dC, dI)) (ci := 6) (v := .int xo) (ty := .int) (C := RX6) (T := TX6) (N := 7) hx hb hts hi6 tyX6 tyX6_ok nmX6 hown hK hP hD hS j300078 hj300078 rfl 1 (by decide) (hts (.fieldLink RX6 15 "TallyLogsModel$Log" "start" "I") (by decide +kernel)) (fun _ h9 => h9) rfl (by decide +kernel) rfl rfl (Nat.le_of_ble_eq_true rfl) dX6_from_60 (fun H locs hP hD hS => ?_)
      have hP := Eq.mp (congrArg (fun w => va_P (dC, dI) vwCl w H) (wP_6_1 (x := xo) hDo (hM.lg hja).1 (hM.lg hja).2 hj300078)) hP
      obtain ⟨I300079, eI300079⟩ : ∃ z, z = p2 I (w (21 + ja)) 1 xo := ⟨_, rfl⟩
      rw [← eI300079] at hP
      have hD : va_D A (va_pl L (wF cy K N T I300079 Q J300077)) := pD hDo
      exact W.vret hx hb hr (fun t ht hW => ⟨⟨(I300079, J300077), rfl, ⟨by show MR w I300079 J300077 _; rw [oFr, if_neg (by rw [xk_le, ← hMR.g hja (f := 1) (by decide) (by decide)]; omega), if_neg (by rw [xk_le, ← hMR.g hja (f := 2) (by decide) (by decide)]; omega), eI300079]; exact hMR.fr2 hM hja (fun q h => by show J300077 q = J q; rw [eJ300077, va_up_ne _ _ h]) (by rw [hMR.vb hja, clT, clT]; omega) (fun i hi => by rw [eJ300077, va_up_self]; show (if _ ∧ _ then _ else _) = _; rw [if_pos (by rw [cl_0, clT]; rw [hMR.ve hja, clT, clT] at hi; omega), cl_0]; congr 1; rw [hMR.vb hja, clT, clT, clT]; omega), ⟨(fun q f h => by show I300079 q f = I q f; rw [eI300079, p2_ne _ _ (fun z => h ⟨z.1, Or.inl z.2⟩)]), (fun q h => by show J300077 q = J q; rw [eJ300077, va_up_ne _ _ h]), (by show (I300079 (w (21 + ja)) 1).toInt = _; rw [eI300079, p2_at]; try omega), (by show (I300079 (w (21 + ja)) 2).toInt = _; rw [eI300079, p2_ne _ _ (fun q => absurd q.2 (by decide))]; try omega)⟩⟩, by rw [ht]; exact hP, va_K.moved hW.alike hK, hD⟩, hS.F ht⟩) hS.2.2 dX6_from_63
    · have kc300062 : ¬ (xo.toInt < x300061.toInt) := by have h9 := c300062; rw [xk_lt] at h9; exact h9
      refine lv_aload_n hx hb dX6_from_17 rfl (lv_at hl 0 rfl) ?_
      refine lv_iload_n hx hb dX6_from_18 rfl (lv_at hl 1 rfl) ?_
      obtain ⟨j300080, hj300080⟩ := wG_6 (cy := cy) (N := N) (T := T) (I := I) (Q := Q) (J := J) (hM.lg hja).1 (hM.lg hja).2
      have hDo := hD
      refine va_put (D := (dC, dI)) (ci := 6) (v := .int xo) (ty := .int) (C := RX6) (T := TX6) (N := 7) hx hb hts hi6 tyX6 tyX6_ok nmX6 hown hK hP hD hS j300080 hj300080 rfl 1 (by decide) (hts (.fieldLink RX6 15 "TallyLogsModel$Log" "start" "I") (by decide +kernel)) (fun _ h9 => h9) rfl (by decide +kernel) rfl rfl (Nat.le_of_ble_eq_true rfl) dX6_from_19 (fun H locs hP hD hS => ?_)
      have hP := Eq.mp (congrArg (fun w => va_P (dC, dI) vwCl w H) (wP_6_1 (x := xo) hDo (hM.lg hja).1 (hM.lg hja).2 hj300080)) hP
      obtain ⟨I300081, eI300081⟩ : ∃ z, z = p2 I (w (21 + ja)) 1 xo := ⟨_, rfl⟩
      rw [← eI300081] at hP
      have hD : va_D A (va_pl L (wF cy K N T I300081 Q J)) := pD hDo
      refine lv_aload_n hx hb dX6_from_22 rfl (lv_at hl 0 rfl) ?_
      refine lv_iload_n hx hb dX6_from_23 rfl (lv_at hl 1 rfl) ?_
      obtain ⟨j300082, hj300082⟩ := wG_6 (cy := cy) (N := N) (T := T) (I := I300081) (Q := Q) (J := J) (hM.lg hja).1 (hM.lg hja).2
      have hDo := hD
      refine va_put (D := (dC, dI)) (ci := 6) (v := .int xo) (ty := .int) (C := RX6) (T := TX6) (N := 7) hx hb hts hi6 tyX6 tyX6_ok nmX6 hown hK hP hD hS j300082 hj300082 rfl 2 (by decide) (hts (.fieldLink RX6 19 "TallyLogsModel$Log" "end" "I") (by decide +kernel)) (fun _ h9 => h9) rfl (by decide +kernel) rfl rfl (Nat.le_of_ble_eq_true rfl) dX6_from_24 (fun H locs hP hD hS => ?_)
      have hP := Eq.mp (congrArg (fun w => va_P (dC, dI) vwCl w H) (wP_6_2 (x := xo) hDo (hM.lg hja).1 (hM.lg hja).2 hj300082)) hP
      obtain ⟨I300083, eI300083⟩ : ∃ z, z = p2 I300081 (w (21 + ja)) 2 xo := ⟨_, rfl⟩
      rw [← eI300083] at hP
      have hD : va_D A (va_pl L (wF cy K N T I300083 Q J)) := pD hDo
      exact W.vret hx hb hr (fun t ht hW => ⟨⟨(I300083, J), rfl, ⟨by show MR w I300083 J _; rw [oFr, if_neg (by rw [xk_le, ← hMR.g hja (f := 1) (by decide) (by decide)]; omega), if_pos (by rw [xk_le, ← hMR.g hja (f := 2) (by decide) (by decide)]; omega), eI300083, eI300081]; exact hMR.fr1 hM hja, ⟨(fun q f h => by show I300083 q f = I q f; rw [eI300083, p2_ne _ _ (fun z => h ⟨z.1, Or.inr z.2⟩), eI300081, p2_ne _ _ (fun z => h ⟨z.1, Or.inl z.2⟩)]), (fun _ _ => rfl), (by show (I300083 (w (21 + ja)) 1).toInt = _; rw [eI300083, p2_ne _ _ (fun q => absurd q.2 (by decide)), eI300081, p2_at]; try omega), (by show (I300083 (w (21 + ja)) 2).toInt = _; rw [eI300083, p2_at]; try omega)⟩⟩, by rw [ht]; exact hP, va_K.moved hW.alike hK, hD⟩, hS.F ht⟩) hS.2.2 dX6_from_27
  · have kc300059 : ¬ (x300058.toInt < xo.toInt) := by have h9 := c300059; rw [xk_lt] at h9; exact h9
    exact W.vret hx hb hr (fun t ht hW => ⟨⟨(I, J), rfl, ⟨by rw [oFr, if_pos (by rw [xk_le, ← hMR.g hja (f := 1) (by decide) (by decide)]; omega)]; exact hMR, ⟨(fun _ _ _ => rfl), (fun _ _ => rfl), (by show (I (w (21 + ja)) 1).toInt = _; try omega), (by show (I (w (21 + ja)) 2).toInt = _; try omega)⟩⟩, by rw [ht]; exact hP, va_K.moved hW.alike hK, hD⟩, hS.F ht⟩) hS.2.2 dX6_from_8
set_option maxHeartbeats 4000000 in
set_option maxRecDepth 100000 in
/-- Log.take, exactly -/
theorem f_X6_take (l : Launch) (dC : Nat → ClassId) (dI : Nat → Nat → Nat) (cy : Nat → ClassId) (w : Nat → Nat) (L : List Nat) (K N : Nat → Nat) (T : Nat → Nat → Nat) (Q : Nat → Nat → Option Nat) (I J : Nat → Nat → Int32) (sz : Nat) (ja : Nat) (jrb : Nat) (xo : Int32) (σ : SG) (hM : MS w L K N T Q) (hja : ja < 20) (hjrb : jrb < 20) (h1 : (I (w (21 + ja)) 1).toInt ≤ (I (w (21 + ja)) 2).toInt) (h2 : (I (w (21 + ja)) 2).toInt < (I (w (21 + ja)) 1).toInt + 80) (h3 : (I (w (21 + ja)) 2).toInt < 2000) (h0 : 0 ≤ (I (w (21 + ja)) 1).toInt) (h4 : (I (w (21 + jrb)) 1).toInt ≤ xo.toInt) (h5 : xo.toInt < (I (w (21 + jrb)) 2).toInt) (h6 : (I (w (21 + jrb)) 2).toInt ≤ (I (w (21 + jrb)) 1).toInt + 80) (h7 : 0 ≤ (I (w (21 + jrb)) 1).toInt) (hMR : MR w I J σ) : Met l yX6_take wsX6_take ({ frames := 1, cells := 0, slots := 0, locals := 24 }) (va_Pc [.ref (w (21 + ja)), .ref (w (21 + jrb)), .int xo] (mW dC dI cy L (wF cy K N T I Q J) sz)) (va_Qv (fun d : (Nat → Nat → Int32) × (Nat → Nat → Int32) => MR w d.1 d.2 (oTk σ ja jrb xo) ∧ LW w I J d.1 d.2 ja (I (w (21 + ja)) 1).toInt ((I (w (21 + ja)) 2).toInt + 1)) (fun (d : (Nat → Nat → Int32) × (Nat → Nat → Int32)) t => va_P (dC, dI) vwCl (va_pl L (wF cy K N T d.1 Q d.2)) t.heap ∧ va_K (dC, dI) vwCl (mTy cy) t ∧ va_D (va_A (va_pl L (wF cy K N T I Q J)) sz) (va_pl L (wF cy K N T d.1 Q d.2))) (va_A (va_pl L (wF cy K N T I Q J)) sz)) 0 0 (va_A (va_pl L (wF cy K N T I Q J)) sz) := by
  refine Met.ofW (cc := cX6_take) (maxL := 3) (ret := none) (by decide) rfl ?_
  intro p e s m args below meth c s₁ B hml hv
  obtain ⟨rfl, hsz, ⟨hP, hK⟩, hD0⟩ := hv
  have hx := B.exec
  have hb := B.bytes
  have hr := B.returns
  have hts := atoms_spec (ws := wsX6_take) B.pre
  have hown : s.vm.findClass RX6 = some m.cls := findClass_of_methodNamed B.named
  have hlocks := B.notSynchronized
  have hi6 : ∀ w ∈ wsX60, w ∈ wsX6_take := by decide +kernel
  have hl := lv_entry ([.ref (w (21 + ja)), .ref (w (21 + jrb)), .int xo]) (n := 3) (Nat.le_of_ble_eq_true rfl)
  rw [lg_entry_eq]
  generalize (lg_sl ([.ref (w (21 + ja)), .ref (w (21 + jrb)), .int xo]) ++ List.replicate (3 - (lg_sl ([.ref (w (21 + ja)), .ref (w (21 + jrb)), .int xo])).length) Slot.unset).toArray = ls at hl ⊢
  have hl : lv_has ls 3 [(0, .ref (w (21 + ja))), (1, .ref (w (21 + jrb))), (2, .int xo)] := hl
  subst hsz
  have hD := hD0.self (sz := s.heap.size)
  generalize hAe : va_A (va_pl L (wF cy K N T I Q J)) s.heap.size = A at hD ⊢
  have hA : ∀ q : Nat, s.heap.size ≤ q → A q := fun q h => by rw [← hAe]; exact Or.inr h
  have hS : va_S A s.heap s.heap [] := va_S.rf
  refine lv_aload_n hx hb dX6_take_0 rfl (lv_at hl 1 rfl) ?_
  obtain ⟨j300084, hj300084⟩ := wG_6 (cy := cy) (N := N) (T := T) (I := I) (Q := Q) (J := J) (hM.lg hjrb).1 (hM.lg hjrb).2
  refine va_get (D := (dC, dI)) (ci := 6) (v := .ref (T (w (21 + jrb)) 0)) (C := RX6) (T := TX6) (N := 7) hx hb hts hi6 hown hK hP j300084 hj300084 rfl 0 (by decide) (hts (.fieldLink RX6 9 "TallyLogsModel$Log" "cell" "[I") (by decide +kernel)) (fun _ h9 => h9) rfl dX6_take_1 ?_
  refine W.eq (g2 := F0 m 4 ls [.ref (w (41 + jrb))]) (by rw [hM.tl hjrb]) ?_
  refine lv_bipush (v := 8) hx hb dX6_take_4 (by decide) ?_
  refine lv_iload_n hx hb dX6_take_6 rfl (lv_at hl 2 rfl) ?_
  refine lv_aload_n hx hb dX6_take_7 rfl (lv_at hl 1 rfl) ?_
  obtain ⟨j300085, hj300085⟩ := wG_6 (cy := cy) (N := N) (T := T) (I := I) (Q := Q) (J := J) (hM.lg hjrb).1 (hM.lg hjrb).2
  refine va_get (D := (dC, dI)) (ci := 6) (v := .int (I (w (21 + jrb)) 1)) (C := RX6) (T := TX6) (N := 7) hx hb hts hi6 hown hK hP j300085 hj300085 rfl 1 (by decide) (hts (.fieldLink RX6 15 "TallyLogsModel$Log" "start" "I") (by decide +kernel)) (fun _ h9 => h9) rfl dX6_take_8 ?_
  refine lv_topi (fun x300086 ex300086 => ?_)
  have tx300086 : x300086.toInt = (I (w (21 + jrb)) 1).toInt := congrArg Int32.toInt ex300086
  refine lv_isub hx hb dX6_take_11 ?_
  refine lv_topi (fun v300087 ev300087 => ?_)
  refine lv_imul hx hb dX6_take_12 ?_
  refine lv_topi (fun v300088 ev300088 => ?_)
  refine lv_aload_n hx hb dX6_take_13 rfl (lv_at hl 0 rfl) ?_
  obtain ⟨j300089, hj300089⟩ := wG_6 (cy := cy) (N := N) (T := T) (I := I) (Q := Q) (J := J) (hM.lg hja).1 (hM.lg hja).2
  refine va_get (D := (dC, dI)) (ci := 6) (v := .ref (T (w (21 + ja)) 0)) (C := RX6) (T := TX6) (N := 7) hx hb hts hi6 hown hK hP j300089 hj300089 rfl 0 (by decide) (hts (.fieldLink RX6 9 "TallyLogsModel$Log" "cell" "[I") (by decide +kernel)) (fun _ h9 => h9) rfl dX6_take_14 ?_
  refine W.eq (g2 := F0 m 17 ls [.ref (w (41 + ja)), .int v300088, .ref (w (41 + jrb))]) (by rw [hM.tl hja]) ?_
  refine lv_bipush (v := 8) hx hb dX6_take_17 (by decide) ?_
  refine lv_aload_n hx hb dX6_take_19 rfl (lv_at hl 0 rfl) ?_
  obtain ⟨j300091, hj300091⟩ := wG_6 (cy := cy) (N := N) (T := T) (I := I) (Q := Q) (J := J) (hM.lg hja).1 (hM.lg hja).2
  refine vp_callSi (W.runV (As := []) (rest := [.int 8, .ref (w (41 + ja)), .int v300088, .ref (w (41 + jrb))]) ⟨hx, hb, hml, hown, hts⟩ (c_X6_many l dC dI cy w L K N T Q I J ja hM hja) (cwV 0 hts gX6_take_X6_many rfl rfl rfl (by decide +kernel) ⟨Nat.le_of_ble_eq_true rfl, Nat.le_of_ble_eq_true rfl⟩) ⟨mb_blind, va_recv hK hP (ci := 6) (q0 := j300091) rfl hj300091, fun U hU hW => ⟨rfl, mb_pre hP hK hU hW⟩⟩ rfl rfl hl.1 rfl (lv_room (Nat.le_of_ble_eq_true rfl)) dX6_take_20 ⟨Nat.le_of_ble_eq_true rfl, Nat.le_of_ble_eq_true rfl⟩) (fun r300090 hr300090 => ?_)
  refine lv_imul hx hb dX6_take_23 ?_
  refine lv_topi (fun v300092 ev300092 => ?_)
  refine lv_bipush (v := 8) hx hb dX6_take_24 (by decide) ?_
  obtain ⟨j300093, hj300093⟩ := wG_20 (cy := cy) (N := N) (T := T) (I := I) (Q := Q) (J := J) (hM.ce hjrb).1 (hM.ce hjrb).2
  obtain ⟨j300094, hj300094⟩ := wG_20 (cy := cy) (N := N) (T := T) (I := I) (Q := Q) (J := J) (hM.ce hja).1 (hM.ce hja).2
  have tv300087 : v300087.toInt = xo.toInt - x300086.toInt := by rw [ev300087]; exact xsub (by omega) (by omega)
  have tv300088 : v300088.toInt = 8 * v300087.toInt := by rw [ev300088]; exact xmul8 (by omega) (by omega)
  have tr300090 : r300090.toInt = (I (w (21 + ja)) 2).toInt - (I (w (21 + ja)) 1).toInt := by rw [hr300090]; exact xsub (by omega) (by omega)
  have tv300092 : v300092.toInt = 8 * r300090.toInt := by rw [ev300092]; exact xmul8 (by omega) (by omega)
  have hc300095 : v300088.toNatClampNeg = v300088.toInt.toNat := rfl
  have hc300096 : v300092.toNatClampNeg = v300092.toInt.toNat := rfl
  have hc300097 : (8 : Int32).toNatClampNeg = 8 := by decide
  have hDo := hD
  refine va_copyi (n := 8) (dp := v300092) (sp := v300088) hx hb (by rw [hml]; exact hl.1.symm) hown (hts (.methodLink RX6 22 arraycopyName) (by decide +kernel)) (hts (.native arraycopyName) (by decide +kernel)) (hts (.static arraycopyName) (by decide +kernel)) (hts (.initialized "java/lang/System") (by decide +kernel)) hK hP hD hS j300093 j300094 1 1 hj300093 hj300094 rfl rfl rfl (by rw [xk_lt, xk_0]; omega) (by rw [xk_lt, xk_0]; omega) (by decide) (by rw [hM.nc hjrb, hc300095, hc300097]; omega) (by rw [hM.nc hja, hc300096, hc300097]; omega) (fun _ _ => rfl) (Nat.le_of_ble_eq_true rfl) (Nat.le_of_ble_eq_true rfl) dX6_take_26 (fun H locs hP hD hS => ?_)
  have hP := Eq.mp (congrArg (fun w => va_P (dC, dI) vwCl w H) (wR_20 hDo (hM.ce hja).1 (hM.ce hja).2 hj300094)) hP
  obtain ⟨J300098, eJ300098⟩ : ∃ z, z = va_up J (w (41 + ja)) (va_cpy (J (w (41 + jrb))) (J (w (41 + ja))) v300088.toNatClampNeg v300092.toNatClampNeg (8 : Int32).toNatClampNeg) := ⟨_, rfl⟩
  rw [← eJ300098] at hP
  have hD : va_D A (va_pl L (wF cy K N T I Q J300098)) := pD hDo
  refine lv_aload_n hx hb dX6_take_29 rfl (lv_at hl 0 rfl) ?_
  refine lv_dup hx hb dX6_take_30 rfl ?_
  obtain ⟨j300099, hj300099⟩ := wG_6 (cy := cy) (N := N) (T := T) (I := I) (Q := Q) (J := J300098) (hM.lg hja).1 (hM.lg hja).2
  refine va_get (D := (dC, dI)) (ci := 6) (v := .int (I (w (21 + ja)) 2)) (C := RX6) (T := TX6) (N := 7) hx hb hts hi6 hown hK hP j300099 hj300099 rfl 2 (by decide) (hts (.fieldLink RX6 19 "TallyLogsModel$Log" "end" "I") (by decide +kernel)) (fun _ h9 => h9) rfl dX6_take_31 ?_
  refine lv_topi (fun x300100 ex300100 => ?_)
  have tx300100 : x300100.toInt = (I (w (21 + ja)) 2).toInt := congrArg Int32.toInt ex300100
  refine lv_iconst (v := 1) hx hb dX6_take_34 (by decide) ?_
  refine lv_iadd hx hb dX6_take_35 ?_
  refine lv_topi (fun v300101 ev300101 => ?_)
  have tv300101 : v300101.toInt = x300100.toInt + 1 := by rw [ev300101]; exact xaddk (by decide) (by omega) (by omega)
  obtain ⟨j300102, hj300102⟩ := wG_6 (cy := cy) (N := N) (T := T) (I := I) (Q := Q) (J := J300098) (hM.lg hja).1 (hM.lg hja).2
  have hDo := hD
  refine va_put (D := (dC, dI)) (ci := 6) (v := .int v300101) (ty := .int) (C := RX6) (T := TX6) (N := 7) hx hb hts hi6 tyX6 tyX6_ok nmX6 hown hK hP hD hS j300102 hj300102 rfl 2 (by decide) (hts (.fieldLink RX6 19 "TallyLogsModel$Log" "end" "I") (by decide +kernel)) (fun _ h9 => h9) rfl (by decide +kernel) rfl rfl (Nat.le_of_ble_eq_true rfl) dX6_take_36 (fun H locs hP hD hS => ?_)
  have hP := Eq.mp (congrArg (fun w => va_P (dC, dI) vwCl w H) (wP_6_2 (x := v300101) hDo (hM.lg hja).1 (hM.lg hja).2 hj300102)) hP
  obtain ⟨I300103, eI300103⟩ : ∃ z, z = p2 I (w (21 + ja)) 2 v300101 := ⟨_, rfl⟩
  rw [← eI300103] at hP
  have hD : va_D A (va_pl L (wF cy K N T I300103 Q J300098)) := pD hDo
  have z1 := hMR.vb hja
  have z2 := hMR.ve hja
  have z3 := hMR.vb hjrb
  have z0 : v300092.toNatClampNeg = 8 * (ze σ ja - zb σ ja) := by rw [z1, z2, clT, clT, clT]; omega
  have z4 : v300088.toNatClampNeg = 8 * (xo.toNatClampNeg - zb σ jrb) := by rw [z3, clT, clT, clT]; omega
  have z8 : (8 : Int32).toNatClampNeg = 8 := by decide
  have hlo : ∀ i, i < 8 * (ze σ ja - zb σ ja) → J300098 (w (41 + ja)) i = J (w (41 + ja)) i := by
    intro i hi
    rw [eJ300098, va_up_self]
    show (if _ ∧ _ then _ else _) = _
    rw [if_neg (by rw [z0]; omega)]
  have hhi : ∀ f, f < 8 → J300098 (w (41 + ja)) (8 * (ze σ ja - zb σ ja) + f) = σ.2.2 jrb xo.toNatClampNeg f := by
    intro f hf
    rw [eJ300098, va_up_self]
    show (if _ ∧ _ then _ else _) = _
    rw [if_pos (by rw [z0, z8]; omega), z4, z0, show 8 * (xo.toNatClampNeg - zb σ jrb) + (8 * (ze σ ja - zb σ ja) + f - 8 * (ze σ ja - zb σ ja)) = 8 * (xo.toNatClampNeg - zb σ jrb) + f by omega]
    exact hMR.z hjrb (by rw [z3, clT, clT]; omega) (by rw [hMR.ve hjrb, clT, clT]; omega) hf
  exact W.vret hx hb hr (fun t ht hW => ⟨⟨(I300103, J300098), rfl, ⟨hMR.ad hM hja (fun q f h => by show I300103 q f = I q f; rw [eI300103, p2_ne _ _ (fun z => h ⟨z.1, Or.inr z.2⟩)]) (fun q h => by show J300098 q = J q; rw [eJ300098, va_up_ne _ _ h]) (by show I300103 (w (21 + ja)) 1 = _; rw [eI300103, p2_ne _ _ (fun q => absurd q.2 (by decide))]) (by show I300103 (w (21 + ja)) 2 = _; rw [eI300103, p2_at, ev300101, ex300100]) h0 h1 h3 hlo hhi, ⟨(fun q f h => by show I300103 q f = I q f; rw [eI300103, p2_ne _ _ (fun z => h ⟨z.1, Or.inr z.2⟩)]), (fun q h => by show J300098 q = J q; rw [eJ300098, va_up_ne _ _ h]), (by show (I300103 (w (21 + ja)) 1).toInt = _; rw [eI300103, p2_ne _ _ (fun q => absurd q.2 (by decide))]; try omega), (by show (I300103 (w (21 + ja)) 2).toInt = _; rw [eI300103, p2_at]; try omega)⟩⟩, by rw [ht]; exact hP, va_K.moved hW.alike hK, hD⟩, hS.F ht⟩) hS.2.2 dX6_take_39
