set_option maxHeartbeats 4000000 in
set_option maxRecDepth 100000 in
/-- isThere(p): none is there yet -/
theorem c_X7_isThere (l : Launch) (dC : Nat → ClassId) (dI : Nat → Nat → Nat) (w : Nat → Nat) (cz ci : ClassId) (xp : Int32) : Met l yX7_isThere wsX7_isThere ({ frames := 1, cells := 0, slots := 0, locals := 25 }) (va_Pc [.ref (w 0), .int xp] (mxB dC dI w cz ci)) (vp_Si (fun r => r = 0)) 0 0 (fun _ => False) := by
  refine Met.ofW (cc := cX7_isThere) (maxL := 2) (ret := (some .boolean)) (by decide) rfl ?_
  intro p e s m args below meth c s₁ B hml hv
  obtain ⟨rfl, hP, hK⟩ := hv
  have hx := B.exec
  have hb := B.bytes
  have hr := B.returns
  have hts := atoms_spec (ws := wsX7_isThere) B.pre
  have hown : s.vm.findClass RX7 = some m.cls := findClass_of_methodNamed B.named
  have hlocks := B.notSynchronized
  have hi7 : ∀ w ∈ wsX70, w ∈ wsX7_isThere := by decide +kernel
  have hl := lv_entry ([.ref (w 0), .int xp]) (n := 2) (Nat.le_of_ble_eq_true rfl)
  rw [lg_entry_eq]
  generalize (lg_sl ([.ref (w 0), .int xp]) ++ List.replicate (2 - (lg_sl ([.ref (w 0), .int xp])).length) Slot.unset).toArray = ls at hl ⊢
  have hl : lv_has ls 2 [(0, .ref (w 0)), (1, .int xp)] := hl
  refine lv_iload_n hx hb dX7_isThere_0 rfl (lv_at hl 1 rfl) ?_
  refine lv_i2l (v := xp.toInt64) hx hb dX7_isThere_1 rfl ?_
  refine lv_lconst (v := 0) hx hb dX7_isThere_2 (by decide) ?_
  refine lv_ldc2 hx hb hown (hts (.constantLong RX7 80 3) (by decide +kernel)) dX7_isThere_3 ?_
  refine vp_callSi (W.runS (As := [.long xp.toInt64, .long 0, .long 3]) (rest := []) ⟨hx, hb, hml, hown, hts⟩ (c_X7_in l xp.toInt64 0 3) (va_cwS 3 hts gX7_isThere_X7_in rfl rfl rfl (by decide +kernel) ⟨Nat.le_of_ble_eq_true rfl, Nat.le_of_ble_eq_true rfl⟩) preEq rfl rfl hl.1 rfl (lv_room (Nat.le_of_ble_eq_true rfl)) dX7_isThere_6 ⟨Nat.le_of_ble_eq_true rfl, Nat.le_of_ble_eq_true rfl⟩) (fun r243 hr243 => ?_)
  subst hr243
  refine lv_if_eq (tgt := 25) hx hb dX7_isThere_9 (by decide) (fun c244 => ?_) (fun c244 => ?_)
  · refine lv_iconst (v := 0) hx hb dX7_isThere_25 (by decide) ?_
    exact W.zret (v := 0) hx hb hr (by decide) (fun t ht hW => ⟨0, rfl, rfl, ht⟩) (fun _ h => by cases h) dX7_isThere_26
  · refine lv_aload_n hx hb dX7_isThere_12 rfl (lv_at hl 0 rfl) ?_
    refine va_get (D := (dC, dI)) (ci := 7) (v := .ref (w 2)) (C := RX7) (T := TX7) (N := 18) hx hb hts hi7 hown hK hP 0 rfl rfl 1 (by decide) (hts (.fieldLink RX7 14 "TallyLogsModel" "there" "[Z") (by decide +kernel)) (fun _ h9 => h9) rfl dX7_isThere_13 ?_
    refine lv_iload_n hx hb dX7_isThere_16 rfl (lv_at hl 1 rfl) ?_
    have hin245 : vp_in xp 4 := xin_of (by have kc244 := (not_congr (sp_in_0 xp 0 3)).mp c244; simp only [xk_eq, Int32.toInt_toInt64, xk_lt, xk_le, xk_0, xk_1, xk_2, xk_3, xk_4, xk_5, xk_6, xk_7, xk_8, xk_50, xl_0, xl_1, xl_3, xl_4, xl_5, xl_6, xl_7, xl_50] at kc244; omega) (by have kc244 := (not_congr (sp_in_0 xp 0 3)).mp c244; simp only [xk_eq, Int32.toInt_toInt64, xk_lt, xk_le, xk_0, xk_1, xk_2, xk_3, xk_4, xk_5, xk_6, xk_7, xk_8, xk_50, xl_0, xl_1, xl_3, xl_4, xl_5, xl_6, xl_7, xl_50] at kc244; omega)
    refine va_zald hx hb hK hP 1 0 rfl rfl hin245 dX7_isThere_17 ?_
    refine W.eq (g2 := F0 m 18 ls [.int 0]) rfl ?_
    refine lv_if_eq (tgt := 25) hx hb dX7_isThere_18 (by decide) (fun c246 => ?_) (fun c246 => ?_)
    rotate_left
    · exact absurd c246 (by decide)
    refine lv_iconst (v := 0) hx hb dX7_isThere_25 (by decide) ?_
    exact W.zret (v := 0) hx hb hr (by decide) (fun t ht hW => ⟨0, rfl, rfl, ht⟩) (fun _ h => by cases h) dX7_isThere_26
set_option maxHeartbeats 4000000 in
set_option maxRecDepth 100000 in
/-- isReplica(n, p) -/
theorem c_X7_isReplica (l : Launch) (dC : Nat → ClassId) (dI : Nat → Nat → Nat) (w : Nat → Nat) (cz ci : ClassId) (xn : Int32) (xp : Int32) : Met l yX7_isReplica wsX7_isReplica ({ frames := 2, cells := 0, slots := 0, locals := 46 }) (va_Pc [.ref (w 0), .int xn, .int xp] (mxB dC dI w cz ci)) (vp_Si (fun r => r = 0)) 0 0 (fun _ => False) := by
  refine Met.ofW (cc := cX7_isReplica) (maxL := 3) (ret := (some .boolean)) (by decide) rfl ?_
  intro p e s m args below meth c s₁ B hml hv
  obtain ⟨rfl, hP, hK⟩ := hv
  have hx := B.exec
  have hb := B.bytes
  have hr := B.returns
  have hts := atoms_spec (ws := wsX7_isReplica) B.pre
  have hown : s.vm.findClass RX7 = some m.cls := findClass_of_methodNamed B.named
  have hlocks := B.notSynchronized
  have hi7 : ∀ w ∈ wsX70, w ∈ wsX7_isReplica := by decide +kernel
  have hl := lv_entry ([.ref (w 0), .int xn, .int xp]) (n := 3) (Nat.le_of_ble_eq_true rfl)
  rw [lg_entry_eq]
  generalize (lg_sl ([.ref (w 0), .int xn, .int xp]) ++ List.replicate (3 - (lg_sl ([.ref (w 0), .int xn, .int xp])).length) Slot.unset).toArray = ls at hl ⊢
  have hl : lv_has ls 3 [(0, .ref (w 0)), (1, .int xn), (2, .int xp)] := hl
  refine lv_aload_n hx hb dX7_isReplica_0 rfl (lv_at hl 0 rfl) ?_
  refine lv_iload_n hx hb dX7_isReplica_1 rfl (lv_at hl 2 rfl) ?_
  refine vp_callSi (W.runV (As := [.int xp]) (rest := []) ⟨hx, hb, hml, hown, hts⟩ (c_X7_isThere l dC dI w cz ci xp) (cwV 1 hts gX7_isReplica_X7_isThere rfl rfl rfl (by decide +kernel) ⟨Nat.le_of_ble_eq_true rfl, Nat.le_of_ble_eq_true rfl⟩) ⟨mx_blind, va_recv hK hP (ci := 7) (q0 := 0) rfl rfl, fun U hU hW => ⟨rfl, mx_pre hP hK hU hW⟩⟩ rfl rfl hl.1 rfl (lv_room (Nat.le_of_ble_eq_true rfl)) dX7_isReplica_2 ⟨Nat.le_of_ble_eq_true rfl, Nat.le_of_ble_eq_true rfl⟩) (fun r247 hr247 => ?_)
  subst hr247
  refine lv_if_eq (tgt := 38) hx hb dX7_isReplica_5 (by decide) (fun c248 => ?_) (fun c248 => ?_)
  rotate_left
  · exact absurd c248 (by decide)
  refine lv_iconst (v := 0) hx hb dX7_isReplica_38 (by decide) ?_
  exact W.zret (v := 0) hx hb hr (by decide) (fun t ht hW => ⟨0, rfl, rfl, ht⟩) (fun _ h => by cases h) dX7_isReplica_39
set_option maxHeartbeats 4000000 in
set_option maxRecDepth 100000 in
/-- isUp(n) -/
theorem c_X7_isUp (l : Launch) (dC : Nat → ClassId) (dI : Nat → Nat → Nat) (w : Nat → Nat) (cz ci : ClassId) (xn : Int32) : Met l yX7_isUp wsX7_isUp ({ frames := 1, cells := 0, slots := 0, locals := 25 }) (va_Pc [.ref (w 0), .int xn] (mxB dC dI w cz ci)) (vp_Si (fun r => r = sp_up xn)) 0 0 (fun _ => False) := by
  refine Met.ofW (cc := cX7_isUp) (maxL := 2) (ret := (some .boolean)) (by decide) rfl ?_
  intro p e s m args below meth c s₁ B hml hv
  obtain ⟨rfl, hP, hK⟩ := hv
  have hx := B.exec
  have hb := B.bytes
  have hr := B.returns
  have hts := atoms_spec (ws := wsX7_isUp) B.pre
  have hown : s.vm.findClass RX7 = some m.cls := findClass_of_methodNamed B.named
  have hlocks := B.notSynchronized
  have hi7 : ∀ w ∈ wsX70, w ∈ wsX7_isUp := by decide +kernel
  have hl := lv_entry ([.ref (w 0), .int xn]) (n := 2) (Nat.le_of_ble_eq_true rfl)
  rw [lg_entry_eq]
  generalize (lg_sl ([.ref (w 0), .int xn]) ++ List.replicate (2 - (lg_sl ([.ref (w 0), .int xn])).length) Slot.unset).toArray = ls at hl ⊢
  have hl : lv_has ls 2 [(0, .ref (w 0)), (1, .int xn)] := hl
  refine lv_iload_n hx hb dX7_isUp_0 rfl (lv_at hl 1 rfl) ?_
  refine lv_i2l (v := xn.toInt64) hx hb dX7_isUp_1 rfl ?_
  refine lv_lconst (v := 0) hx hb dX7_isUp_2 (by decide) ?_
  refine lv_ldc2 hx hb hown (hts (.constantLong RX7 74 4) (by decide +kernel)) dX7_isUp_3 ?_
  refine vp_callSi (W.runS (As := [.long xn.toInt64, .long 0, .long 4]) (rest := []) ⟨hx, hb, hml, hown, hts⟩ (c_X7_in l xn.toInt64 0 4) (va_cwS 3 hts gX7_isUp_X7_in rfl rfl rfl (by decide +kernel) ⟨Nat.le_of_ble_eq_true rfl, Nat.le_of_ble_eq_true rfl⟩) preEq rfl rfl hl.1 rfl (lv_room (Nat.le_of_ble_eq_true rfl)) dX7_isUp_6 ⟨Nat.le_of_ble_eq_true rfl, Nat.le_of_ble_eq_true rfl⟩) (fun r249 hr249 => ?_)
  subst hr249
  refine lv_if_eq (tgt := 28) hx hb dX7_isUp_9 (by decide) (fun c250 => ?_) (fun c250 => ?_)
  · refine lv_iconst (v := 0) hx hb dX7_isUp_28 (by decide) ?_
    exact W.zret (v := 0) hx hb hr (by decide) (fun t ht hW => ⟨0, rfl, by show _ = _; have kc250 := (sp_in_0 xn 0 4).mp c250; simp only [xk_eq, Int32.toInt_toInt64, xk_lt, xk_le, xk_0, xk_1, xk_2, xk_3, xk_4, xk_5, xk_6, xk_7, xk_8, xk_50, xl_0, xl_1, xl_3, xl_4, xl_5, xl_6, xl_7, xl_50] at kc250; unfold sp_up; (repeat' split); all_goals first | rfl | omega | (exfalso; omega) | contradiction, ht⟩) (fun _ h => by cases h) dX7_isUp_29
  · refine lv_aload_n hx hb dX7_isUp_12 rfl (lv_at hl 0 rfl) ?_
    refine va_get (D := (dC, dI)) (ci := 7) (v := .int 31) (C := RX7) (T := TX7) (N := 18) hx hb hts hi7 hown hK hP 0 rfl rfl 16 (by decide) (hts (.fieldLink RX7 61 "TallyLogsModel" "up" "I") (by decide +kernel)) (fun _ h9 => h9) rfl dX7_isUp_13 ?_
    refine lv_iload_n hx hb dX7_isUp_16 rfl (lv_at hl 1 rfl) ?_
    refine lv_ishr hx hb dX7_isUp_17 ?_
    refine lv_topi (fun v251 ev251 => ?_)
    refine lv_iconst (v := 1) hx hb dX7_isUp_18 (by decide) ?_
    refine lv_iand hx hb dX7_isUp_19 ?_
    refine lv_topi (fun v252 ev252 => ?_)
    refine lv_iconst (v := 1) hx hb dX7_isUp_20 (by decide) ?_
    refine lv_icmp_ne (tgt := 28) hx hb dX7_isUp_21 (by decide) (fun c253 => ?_) (fun c253 => ?_)
    · exact absurd (by have kc250 := (not_congr (sp_in_0 xn 0 4)).mp c250; simp only [xk_eq, Int32.toInt_toInt64, xk_lt, xk_le, xk_0, xk_1, xk_2, xk_3, xk_4, xk_5, xk_6, xk_7, xk_8, xk_50, xl_0, xl_1, xl_3, xl_4, xl_5, xl_6, xl_7, xl_50] at kc250; subst ev251; subst ev252; exact sp_up1 (by omega)) c253
    refine lv_iconst (v := 1) hx hb dX7_isUp_24 (by decide) ?_
    refine lv_goto (tgt := 29) hx hb dX7_isUp_25 (by decide) ?_
    exact W.zret (v := 1) hx hb hr (by decide) (fun t ht hW => ⟨1, rfl, by show _ = _; have kc250 := (not_congr (sp_in_0 xn 0 4)).mp c250; simp only [xk_eq, Int32.toInt_toInt64, xk_lt, xk_le, xk_0, xk_1, xk_2, xk_3, xk_4, xk_5, xk_6, xk_7, xk_8, xk_50, xl_0, xl_1, xl_3, xl_4, xl_5, xl_6, xl_7, xl_50] at kc250; unfold sp_up; (repeat' split); all_goals first | rfl | omega | (exfalso; omega) | contradiction, ht⟩) (fun _ h => by cases h) dX7_isUp_29
set_option maxHeartbeats 4000000 in
set_option maxRecDepth 100000 in
/-- elect -/
theorem c_X7_elect (l : Launch) (dC : Nat → ClassId) (dI : Nat → Nat → Nat) (w : Nat → Nat) (cz ci : ClassId) (xp : Int32) (un : Int32) : Met l yX7_elect wsX7_elect ({ frames := 2, cells := 0, slots := 0, locals := 46 }) (va_Pc [.ref (w 0), .int xp, .int un] (mxB dC dI w cz ci)) (vp_Si (fun r => r = (-1))) 0 0 (fun _ => False) := by
  refine Met.ofW (cc := cX7_elect) (maxL := 6) (ret := (some .int)) (by decide) rfl ?_
  intro p e s m args below meth c s₁ B hml hv
  obtain ⟨rfl, hP, hK⟩ := hv
  have hx := B.exec
  have hb := B.bytes
  have hr := B.returns
  have hts := atoms_spec (ws := wsX7_elect) B.pre
  have hown : s.vm.findClass RX7 = some m.cls := findClass_of_methodNamed B.named
  have hlocks := B.notSynchronized
  have hi7 : ∀ w ∈ wsX70, w ∈ wsX7_elect := by decide +kernel
  have hl := lv_entry ([.ref (w 0), .int xp, .int un]) (n := 6) (Nat.le_of_ble_eq_true rfl)
  rw [lg_entry_eq]
  generalize (lg_sl ([.ref (w 0), .int xp, .int un]) ++ List.replicate (6 - (lg_sl ([.ref (w 0), .int xp, .int un])).length) Slot.unset).toArray = ls at hl ⊢
  have hl : lv_has ls 6 [(0, .ref (w 0)), (1, .int xp), (2, .int un)] := hl
  refine lv_aload_n hx hb dX7_elect_0 rfl (lv_at hl 0 rfl) ?_
  refine lv_iload_n hx hb dX7_elect_1 rfl (lv_at hl 1 rfl) ?_
  refine vp_callSi (W.runV (As := [.int xp]) (rest := []) ⟨hx, hb, hml, hown, hts⟩ (c_X7_isThere l dC dI w cz ci xp) (cwV 1 hts gX7_elect_X7_isThere rfl rfl rfl (by decide +kernel) ⟨Nat.le_of_ble_eq_true rfl, Nat.le_of_ble_eq_true rfl⟩) ⟨mx_blind, va_recv hK hP (ci := 7) (q0 := 0) rfl rfl, fun U hU hW => ⟨rfl, mx_pre hP hK hU hW⟩⟩ rfl rfl hl.1 rfl (lv_room (Nat.le_of_ble_eq_true rfl)) dX7_elect_2 ⟨Nat.le_of_ble_eq_true rfl, Nat.le_of_ble_eq_true rfl⟩) (fun r254 hr254 => ?_)
  subst hr254
  refine lv_if_ne (tgt := 10) hx hb dX7_elect_5 (by decide) (fun c255 => ?_) (fun c255 => ?_)
  · exact absurd c255 (by decide)
  refine lv_iconst (v := (-1)) hx hb dX7_elect_8 (by decide) ?_
  exact W.iret (v := (-1)) hx hb hr (fun t ht hW => ⟨(-1), rfl, rfl, ht⟩) (fun _ h => by cases h) dX7_elect_9
set_option maxHeartbeats 4000000 in
set_option maxRecDepth 100000 in
/-- safe -/
theorem c_X7_safe (l : Launch) (dC : Nat → ClassId) (dI : Nat → Nat → Nat) (w : Nat → Nat) (cz ci : ClassId) (xp : Int32) (xo : Int32) : Met l yX7_safe wsX7_safe ({ frames := 2, cells := 0, slots := 0, locals := 46 }) (va_Pc [.ref (w 0), .int xp, .int xo] (mxB dC dI w cz ci)) (vp_Si (fun r => r = (-1))) 0 0 (fun _ => False) := by
  refine Met.ofW (cc := cX7_safe) (maxL := 4) (ret := (some .int)) (by decide) rfl ?_
  intro p e s m args below meth c s₁ B hml hv
  obtain ⟨rfl, hP, hK⟩ := hv
  have hx := B.exec
  have hb := B.bytes
  have hr := B.returns
  have hts := atoms_spec (ws := wsX7_safe) B.pre
  have hown : s.vm.findClass RX7 = some m.cls := findClass_of_methodNamed B.named
  have hlocks := B.notSynchronized
  have hi7 : ∀ w ∈ wsX70, w ∈ wsX7_safe := by decide +kernel
  have hl := lv_entry ([.ref (w 0), .int xp, .int xo]) (n := 4) (Nat.le_of_ble_eq_true rfl)
  rw [lg_entry_eq]
  generalize (lg_sl ([.ref (w 0), .int xp, .int xo]) ++ List.replicate (4 - (lg_sl ([.ref (w 0), .int xp, .int xo])).length) Slot.unset).toArray = ls at hl ⊢
  have hl : lv_has ls 4 [(0, .ref (w 0)), (1, .int xp), (2, .int xo)] := hl
  refine lv_aload_n hx hb dX7_safe_0 rfl (lv_at hl 0 rfl) ?_
  refine lv_iload_n hx hb dX7_safe_1 rfl (lv_at hl 1 rfl) ?_
  refine vp_callSi (W.runV (As := [.int xp]) (rest := []) ⟨hx, hb, hml, hown, hts⟩ (c_X7_isThere l dC dI w cz ci xp) (cwV 1 hts gX7_safe_X7_isThere rfl rfl rfl (by decide +kernel) ⟨Nat.le_of_ble_eq_true rfl, Nat.le_of_ble_eq_true rfl⟩) ⟨mx_blind, va_recv hK hP (ci := 7) (q0 := 0) rfl rfl, fun U hU hW => ⟨rfl, mx_pre hP hK hU hW⟩⟩ rfl rfl hl.1 rfl (lv_room (Nat.le_of_ble_eq_true rfl)) dX7_safe_2 ⟨Nat.le_of_ble_eq_true rfl, Nat.le_of_ble_eq_true rfl⟩) (fun r256 hr256 => ?_)
  subst hr256
  refine lv_if_ne (tgt := 10) hx hb dX7_safe_5 (by decide) (fun c257 => ?_) (fun c257 => ?_)
  · exact absurd c257 (by decide)
  refine lv_iconst (v := (-1)) hx hb dX7_safe_8 (by decide) ?_
  exact W.iret (v := (-1)) hx hb hr (fun t ht hW => ⟨(-1), rfl, rfl, ht⟩) (fun _ h => by cases h) dX7_safe_9
set_option maxHeartbeats 4000000 in
set_option maxRecDepth 100000 in
/-- consume -/
theorem c_X7_consume (l : Launch) (dC : Nat → ClassId) (dI : Nat → Nat → Nat) (w : Nat → Nat) (cz ci : ClassId) (xp : Int32) (xo : Int32) (cm : Int32) : Met l yX7_consume wsX7_consume ({ frames := 2, cells := 0, slots := 0, locals := 46 }) (va_Pc [.ref (w 0), .int xp, .int xo, .int cm] (mxB dC dI w cz ci)) (vp_Si (fun r => r = (-1))) 0 0 (fun _ => False) := by
  refine Met.ofW (cc := cX7_consume) (maxL := 8) (ret := (some .int)) (by decide) rfl ?_
  intro p e s m args below meth c s₁ B hml hv
  obtain ⟨rfl, hP, hK⟩ := hv
  have hx := B.exec
  have hb := B.bytes
  have hr := B.returns
  have hts := atoms_spec (ws := wsX7_consume) B.pre
  have hown : s.vm.findClass RX7 = some m.cls := findClass_of_methodNamed B.named
  have hlocks := B.notSynchronized
  have hi7 : ∀ w ∈ wsX70, w ∈ wsX7_consume := by decide +kernel
  have hl := lv_entry ([.ref (w 0), .int xp, .int xo, .int cm]) (n := 8) (Nat.le_of_ble_eq_true rfl)
  rw [lg_entry_eq]
  generalize (lg_sl ([.ref (w 0), .int xp, .int xo, .int cm]) ++ List.replicate (8 - (lg_sl ([.ref (w 0), .int xp, .int xo, .int cm])).length) Slot.unset).toArray = ls at hl ⊢
  have hl : lv_has ls 8 [(0, .ref (w 0)), (1, .int xp), (2, .int xo), (3, .int cm)] := hl
  refine lv_aload_n hx hb dX7_consume_0 rfl (lv_at hl 0 rfl) ?_
  refine lv_iload_n hx hb dX7_consume_1 rfl (lv_at hl 1 rfl) ?_
  refine vp_callSi (W.runV (As := [.int xp]) (rest := []) ⟨hx, hb, hml, hown, hts⟩ (c_X7_isThere l dC dI w cz ci xp) (cwV 1 hts gX7_consume_X7_isThere rfl rfl rfl (by decide +kernel) ⟨Nat.le_of_ble_eq_true rfl, Nat.le_of_ble_eq_true rfl⟩) ⟨mx_blind, va_recv hK hP (ci := 7) (q0 := 0) rfl rfl, fun U hU hW => ⟨rfl, mx_pre hP hK hU hW⟩⟩ rfl rfl hl.1 rfl (lv_room (Nat.le_of_ble_eq_true rfl)) dX7_consume_2 ⟨Nat.le_of_ble_eq_true rfl, Nat.le_of_ble_eq_true rfl⟩) (fun r258 hr258 => ?_)
  subst hr258
  refine lv_if_ne (tgt := 10) hx hb dX7_consume_5 (by decide) (fun c259 => ?_) (fun c259 => ?_)
  · exact absurd c259 (by decide)
  refine lv_iconst (v := (-1)) hx hb dX7_consume_8 (by decide) ?_
  exact W.iret (v := (-1)) hx hb hr (fun t ht hW => ⟨(-1), rfl, rfl, ht⟩) (fun _ h => by cases h) dX7_consume_9
set_option maxHeartbeats 4000000 in
set_option maxRecDepth 100000 in
/-- trim -/
theorem c_X7_trim (l : Launch) (dC : Nat → ClassId) (dI : Nat → Nat → Nat) (w : Nat → Nat) (cz ci : ClassId) (xp : Int32) (xo : Int32) : Met l yX7_trim wsX7_trim ({ frames := 2, cells := 0, slots := 0, locals := 46 }) (va_Pc [.ref (w 0), .int xp, .int xo] (mxB dC dI w cz ci)) (vp_Si (fun r => r = (-1))) 0 0 (fun _ => False) := by
  refine Met.ofW (cc := cX7_trim) (maxL := 4) (ret := (some .int)) (by decide) rfl ?_
  intro p e s m args below meth c s₁ B hml hv
  obtain ⟨rfl, hP, hK⟩ := hv
  have hx := B.exec
  have hb := B.bytes
  have hr := B.returns
  have hts := atoms_spec (ws := wsX7_trim) B.pre
  have hown : s.vm.findClass RX7 = some m.cls := findClass_of_methodNamed B.named
  have hlocks := B.notSynchronized
  have hi7 : ∀ w ∈ wsX70, w ∈ wsX7_trim := by decide +kernel
  have hl := lv_entry ([.ref (w 0), .int xp, .int xo]) (n := 4) (Nat.le_of_ble_eq_true rfl)
  rw [lg_entry_eq]
  generalize (lg_sl ([.ref (w 0), .int xp, .int xo]) ++ List.replicate (4 - (lg_sl ([.ref (w 0), .int xp, .int xo])).length) Slot.unset).toArray = ls at hl ⊢
  have hl : lv_has ls 4 [(0, .ref (w 0)), (1, .int xp), (2, .int xo)] := hl
  refine lv_aload_n hx hb dX7_trim_0 rfl (lv_at hl 0 rfl) ?_
  refine lv_iload_n hx hb dX7_trim_1 rfl (lv_at hl 1 rfl) ?_
  refine vp_callSi (W.runV (As := [.int xp]) (rest := []) ⟨hx, hb, hml, hown, hts⟩ (c_X7_isThere l dC dI w cz ci xp) (cwV 1 hts gX7_trim_X7_isThere rfl rfl rfl (by decide +kernel) ⟨Nat.le_of_ble_eq_true rfl, Nat.le_of_ble_eq_true rfl⟩) ⟨mx_blind, va_recv hK hP (ci := 7) (q0 := 0) rfl rfl, fun U hU hW => ⟨rfl, mx_pre hP hK hU hW⟩⟩ rfl rfl hl.1 rfl (lv_room (Nat.le_of_ble_eq_true rfl)) dX7_trim_2 ⟨Nat.le_of_ble_eq_true rfl, Nat.le_of_ble_eq_true rfl⟩) (fun r260 hr260 => ?_)
  subst hr260
  refine lv_if_ne (tgt := 10) hx hb dX7_trim_5 (by decide) (fun c261 => ?_) (fun c261 => ?_)
  · exact absurd c261 (by decide)
  refine lv_iconst (v := (-1)) hx hb dX7_trim_8 (by decide) ?_
  exact W.iret (v := (-1)) hx hb hr (fun t ht hW => ⟨(-1), rfl, rfl, ht⟩) (fun _ h => by cases h) dX7_trim_9
set_option maxHeartbeats 4000000 in
set_option maxRecDepth 100000 in
/-- state -/
theorem c_X7_state (l : Launch) (dC : Nat → ClassId) (dI : Nat → Nat → Nat) (w : Nat → Nat) (cz ci : ClassId) (xp : Int32) (wh : Int32) : Met l yX7_state wsX7_state ({ frames := 2, cells := 0, slots := 0, locals := 46 }) (va_Pc [.ref (w 0), .int xp, .int wh] (mxB dC dI w cz ci)) (vp_Si (fun r => r = (-1))) 0 0 (fun _ => False) := by
  refine Met.ofW (cc := cX7_state) (maxL := 3) (ret := (some .int)) (by decide) rfl ?_
  intro p e s m args below meth c s₁ B hml hv
  obtain ⟨rfl, hP, hK⟩ := hv
  have hx := B.exec
  have hb := B.bytes
  have hr := B.returns
  have hts := atoms_spec (ws := wsX7_state) B.pre
  have hown : s.vm.findClass RX7 = some m.cls := findClass_of_methodNamed B.named
  have hlocks := B.notSynchronized
  have hi7 : ∀ w ∈ wsX70, w ∈ wsX7_state := by decide +kernel
  have hl := lv_entry ([.ref (w 0), .int xp, .int wh]) (n := 3) (Nat.le_of_ble_eq_true rfl)
  rw [lg_entry_eq]
  generalize (lg_sl ([.ref (w 0), .int xp, .int wh]) ++ List.replicate (3 - (lg_sl ([.ref (w 0), .int xp, .int wh])).length) Slot.unset).toArray = ls at hl ⊢
  have hl : lv_has ls 3 [(0, .ref (w 0)), (1, .int xp), (2, .int wh)] := hl
  refine lv_aload_n hx hb dX7_state_0 rfl (lv_at hl 0 rfl) ?_
  refine lv_iload_n hx hb dX7_state_1 rfl (lv_at hl 1 rfl) ?_
  refine vp_callSi (W.runV (As := [.int xp]) (rest := []) ⟨hx, hb, hml, hown, hts⟩ (c_X7_isThere l dC dI w cz ci xp) (cwV 1 hts gX7_state_X7_isThere rfl rfl rfl (by decide +kernel) ⟨Nat.le_of_ble_eq_true rfl, Nat.le_of_ble_eq_true rfl⟩) ⟨mx_blind, va_recv hK hP (ci := 7) (q0 := 0) rfl rfl, fun U hU hW => ⟨rfl, mx_pre hP hK hU hW⟩⟩ rfl rfl hl.1 rfl (lv_room (Nat.le_of_ble_eq_true rfl)) dX7_state_2 ⟨Nat.le_of_ble_eq_true rfl, Nat.le_of_ble_eq_true rfl⟩) (fun r262 hr262 => ?_)
  subst hr262
  refine lv_if_eq (tgt := 20) hx hb dX7_state_5 (by decide) (fun c263 => ?_) (fun c263 => ?_)
  rotate_left
  · exact absurd c263 (by decide)
  refine lv_iconst (v := (-1)) hx hb dX7_state_20 (by decide) ?_
  exact W.iret (v := (-1)) hx hb hr (fun t ht hW => ⟨(-1), rfl, rfl, ht⟩) (fun _ h => by cases h) dX7_state_21
set_option maxHeartbeats 4000000 in
set_option maxRecDepth 100000 in
/-- produce -/
theorem c_X7_produce (l : Launch) (dC : Nat → ClassId) (dI : Nat → Nat → Nat) (w : Nat → Nat) (cz ci : ClassId) (xp : Int32) (hd : Int32) (sq : Int32) (ke : Int32) (va : Int32) (al : Int32) : Met l yX7_produce wsX7_produce ({ frames := 2, cells := 0, slots := 0, locals := 46 }) (va_Pc [.ref (w 0), .int xp, .int hd, .int sq, .int ke, .int va, .int al] (mxB dC dI w cz ci)) (vp_Si (fun r => r = (-1))) 0 0 (fun _ => False) := by
  refine Met.ofW (cc := cX7_produce) (maxL := 12) (ret := (some .int)) (by decide) rfl ?_
  intro p e s m args below meth c s₁ B hml hv
  obtain ⟨rfl, hP, hK⟩ := hv
  have hx := B.exec
  have hb := B.bytes
  have hr := B.returns
  have hts := atoms_spec (ws := wsX7_produce) B.pre
  have hown : s.vm.findClass RX7 = some m.cls := findClass_of_methodNamed B.named
  have hlocks := B.notSynchronized
  have hi7 : ∀ w ∈ wsX70, w ∈ wsX7_produce := by decide +kernel
  have hl := lv_entry ([.ref (w 0), .int xp, .int hd, .int sq, .int ke, .int va, .int al]) (n := 12) (Nat.le_of_ble_eq_true rfl)
  rw [lg_entry_eq]
  generalize (lg_sl ([.ref (w 0), .int xp, .int hd, .int sq, .int ke, .int va, .int al]) ++ List.replicate (12 - (lg_sl ([.ref (w 0), .int xp, .int hd, .int sq, .int ke, .int va, .int al])).length) Slot.unset).toArray = ls at hl ⊢
  have hl : lv_has ls 12 [(0, .ref (w 0)), (1, .int xp), (2, .int hd), (3, .int sq), (4, .int ke), (5, .int va), (6, .int al)] := hl
  refine lv_aload_n hx hb dX7_produce_0 rfl (lv_at hl 0 rfl) ?_
  refine lv_iload_n hx hb dX7_produce_1 rfl (lv_at hl 1 rfl) ?_
  refine vp_callSi (W.runV (As := [.int xp]) (rest := []) ⟨hx, hb, hml, hown, hts⟩ (c_X7_isThere l dC dI w cz ci xp) (cwV 1 hts gX7_produce_X7_isThere rfl rfl rfl (by decide +kernel) ⟨Nat.le_of_ble_eq_true rfl, Nat.le_of_ble_eq_true rfl⟩) ⟨mx_blind, va_recv hK hP (ci := 7) (q0 := 0) rfl rfl, fun U hU hW => ⟨rfl, mx_pre hP hK hU hW⟩⟩ rfl rfl hl.1 rfl (lv_room (Nat.le_of_ble_eq_true rfl)) dX7_produce_2 ⟨Nat.le_of_ble_eq_true rfl, Nat.le_of_ble_eq_true rfl⟩) (fun r264 hr264 => ?_)
  subst hr264
  refine lv_if_eq (tgt := 20) hx hb dX7_produce_5 (by decide) (fun c265 => ?_) (fun c265 => ?_)
  rotate_left
  · exact absurd c265 (by decide)
  refine lv_iconst (v := (-1)) hx hb dX7_produce_20 (by decide) ?_
  exact W.iret (v := (-1)) hx hb hr (fun t ht hW => ⟨(-1), rfl, rfl, ht⟩) (fun _ h => by cases h) dX7_produce_21
set_option maxHeartbeats 4000000 in
set_option maxRecDepth 100000 in
/-- follow -/
theorem c_X7_follow (l : Launch) (dC : Nat → ClassId) (dI : Nat → Nat → Nat) (w : Nat → Nat) (cz ci : ClassId) (xn : Int32) (xp : Int32) : Met l yX7_follow wsX7_follow ({ frames := 3, cells := 0, slots := 0, locals := 68 }) (va_Pc [.ref (w 0), .int xn, .int xp] (mxB dC dI w cz ci)) (vp_Si (fun r => r = (-1))) 0 0 (fun _ => False) := by
  refine Met.ofW (cc := cX7_follow) (maxL := 7) (ret := (some .int)) (by decide) rfl ?_
  intro p e s m args below meth c s₁ B hml hv
  obtain ⟨rfl, hP, hK⟩ := hv
  have hx := B.exec
  have hb := B.bytes
  have hr := B.returns
  have hts := atoms_spec (ws := wsX7_follow) B.pre
  have hown : s.vm.findClass RX7 = some m.cls := findClass_of_methodNamed B.named
  have hlocks := B.notSynchronized
  have hi7 : ∀ w ∈ wsX70, w ∈ wsX7_follow := by decide +kernel
  have hl := lv_entry ([.ref (w 0), .int xn, .int xp]) (n := 7) (Nat.le_of_ble_eq_true rfl)
  rw [lg_entry_eq]
  generalize (lg_sl ([.ref (w 0), .int xn, .int xp]) ++ List.replicate (7 - (lg_sl ([.ref (w 0), .int xn, .int xp])).length) Slot.unset).toArray = ls at hl ⊢
  have hl : lv_has ls 7 [(0, .ref (w 0)), (1, .int xn), (2, .int xp)] := hl
  refine lv_aload_n hx hb dX7_follow_0 rfl (lv_at hl 0 rfl) ?_
  refine lv_iload_n hx hb dX7_follow_1 rfl (lv_at hl 1 rfl) ?_
  refine lv_iload_n hx hb dX7_follow_2 rfl (lv_at hl 2 rfl) ?_
  refine vp_callSi (W.runV (As := [.int xn, .int xp]) (rest := []) ⟨hx, hb, hml, hown, hts⟩ (c_X7_isReplica l dC dI w cz ci xn xp) (cwV 2 hts gX7_follow_X7_isReplica rfl rfl rfl (by decide +kernel) ⟨Nat.le_of_ble_eq_true rfl, Nat.le_of_ble_eq_true rfl⟩) ⟨mx_blind, va_recv hK hP (ci := 7) (q0 := 0) rfl rfl, fun U hU hW => ⟨rfl, mx_pre hP hK hU hW⟩⟩ rfl rfl hl.1 rfl (lv_room (Nat.le_of_ble_eq_true rfl)) dX7_follow_3 ⟨Nat.le_of_ble_eq_true rfl, Nat.le_of_ble_eq_true rfl⟩) (fun r266 hr266 => ?_)
  subst hr266
  refine lv_if_eq (tgt := 27) hx hb dX7_follow_6 (by decide) (fun c267 => ?_) (fun c267 => ?_)
  rotate_left
  · exact absurd c267 (by decide)
  refine lv_iconst (v := (-1)) hx hb dX7_follow_27 (by decide) ?_
  exact W.iret (v := (-1)) hx hb hr (fun t ht hW => ⟨(-1), rfl, rfl, ht⟩) (fun _ h => by cases h) dX7_follow_28
set_option maxHeartbeats 4000000 in
set_option maxRecDepth 100000 in
/-- flush -/
theorem c_X7_flush (l : Launch) (dC : Nat → ClassId) (dI : Nat → Nat → Nat) (w : Nat → Nat) (cz ci : ClassId) (xn : Int32) (xp : Int32) : Met l yX7_flush wsX7_flush ({ frames := 3, cells := 0, slots := 0, locals := 68 }) (va_Pc [.ref (w 0), .int xn, .int xp] (mxB dC dI w cz ci)) (vp_Si (fun r => r = (-1))) 0 0 (fun _ => False) := by
  refine Met.ofW (cc := cX7_flush) (maxL := 5) (ret := (some .int)) (by decide) rfl ?_
  intro p e s m args below meth c s₁ B hml hv
  obtain ⟨rfl, hP, hK⟩ := hv
  have hx := B.exec
  have hb := B.bytes
  have hr := B.returns
  have hts := atoms_spec (ws := wsX7_flush) B.pre
  have hown : s.vm.findClass RX7 = some m.cls := findClass_of_methodNamed B.named
  have hlocks := B.notSynchronized
  have hi7 : ∀ w ∈ wsX70, w ∈ wsX7_flush := by decide +kernel
  have hl := lv_entry ([.ref (w 0), .int xn, .int xp]) (n := 5) (Nat.le_of_ble_eq_true rfl)
  rw [lg_entry_eq]
  generalize (lg_sl ([.ref (w 0), .int xn, .int xp]) ++ List.replicate (5 - (lg_sl ([.ref (w 0), .int xn, .int xp])).length) Slot.unset).toArray = ls at hl ⊢
  have hl : lv_has ls 5 [(0, .ref (w 0)), (1, .int xn), (2, .int xp)] := hl
  refine lv_aload_n hx hb dX7_flush_0 rfl (lv_at hl 0 rfl) ?_
  refine lv_iload_n hx hb dX7_flush_1 rfl (lv_at hl 1 rfl) ?_
  refine lv_iload_n hx hb dX7_flush_2 rfl (lv_at hl 2 rfl) ?_
  refine vp_callSi (W.runV (As := [.int xn, .int xp]) (rest := []) ⟨hx, hb, hml, hown, hts⟩ (c_X7_isReplica l dC dI w cz ci xn xp) (cwV 2 hts gX7_flush_X7_isReplica rfl rfl rfl (by decide +kernel) ⟨Nat.le_of_ble_eq_true rfl, Nat.le_of_ble_eq_true rfl⟩) ⟨mx_blind, va_recv hK hP (ci := 7) (q0 := 0) rfl rfl, fun U hU hW => ⟨rfl, mx_pre hP hK hU hW⟩⟩ rfl rfl hl.1 rfl (lv_room (Nat.le_of_ble_eq_true rfl)) dX7_flush_3 ⟨Nat.le_of_ble_eq_true rfl, Nat.le_of_ble_eq_true rfl⟩) (fun r268 hr268 => ?_)
  subst hr268
  refine lv_if_eq (tgt := 17) hx hb dX7_flush_6 (by decide) (fun c269 => ?_) (fun c269 => ?_)
  rotate_left
  · exact absurd c269 (by decide)
  refine lv_iconst (v := (-1)) hx hb dX7_flush_17 (by decide) ?_
  exact W.iret (v := (-1)) hx hb hr (fun t ht hW => ⟨(-1), rfl, rfl, ht⟩) (fun _ h => by cases h) dX7_flush_18
set_option maxHeartbeats 4000000 in
set_option maxRecDepth 100000 in
/-- log -/
theorem c_X7_log (l : Launch) (dC : Nat → ClassId) (dI : Nat → Nat → Nat) (w : Nat → Nat) (cz ci : ClassId) (xn : Int32) (xp : Int32) (wh : Int32) : Met l yX7_log wsX7_log ({ frames := 3, cells := 0, slots := 0, locals := 68 }) (va_Pc [.ref (w 0), .int xn, .int xp, .int wh] (mxB dC dI w cz ci)) (vp_Si (fun r => r = (-1))) 0 0 (fun _ => False) := by
  refine Met.ofW (cc := cX7_log) (maxL := 5) (ret := (some .int)) (by decide) rfl ?_
  intro p e s m args below meth c s₁ B hml hv
  obtain ⟨rfl, hP, hK⟩ := hv
  have hx := B.exec
  have hb := B.bytes
  have hr := B.returns
  have hts := atoms_spec (ws := wsX7_log) B.pre
  have hown : s.vm.findClass RX7 = some m.cls := findClass_of_methodNamed B.named
  have hlocks := B.notSynchronized
  have hi7 : ∀ w ∈ wsX70, w ∈ wsX7_log := by decide +kernel
  have hl := lv_entry ([.ref (w 0), .int xn, .int xp, .int wh]) (n := 5) (Nat.le_of_ble_eq_true rfl)
  rw [lg_entry_eq]
  generalize (lg_sl ([.ref (w 0), .int xn, .int xp, .int wh]) ++ List.replicate (5 - (lg_sl ([.ref (w 0), .int xn, .int xp, .int wh])).length) Slot.unset).toArray = ls at hl ⊢
  have hl : lv_has ls 5 [(0, .ref (w 0)), (1, .int xn), (2, .int xp), (3, .int wh)] := hl
  refine lv_aload_n hx hb dX7_log_0 rfl (lv_at hl 0 rfl) ?_
  refine lv_iload_n hx hb dX7_log_1 rfl (lv_at hl 1 rfl) ?_
  refine lv_iload_n hx hb dX7_log_2 rfl (lv_at hl 2 rfl) ?_
  refine vp_callSi (W.runV (As := [.int xn, .int xp]) (rest := []) ⟨hx, hb, hml, hown, hts⟩ (c_X7_isReplica l dC dI w cz ci xn xp) (cwV 2 hts gX7_log_X7_isReplica rfl rfl rfl (by decide +kernel) ⟨Nat.le_of_ble_eq_true rfl, Nat.le_of_ble_eq_true rfl⟩) ⟨mx_blind, va_recv hK hP (ci := 7) (q0 := 0) rfl rfl, fun U hU hW => ⟨rfl, mx_pre hP hK hU hW⟩⟩ rfl rfl hl.1 rfl (lv_room (Nat.le_of_ble_eq_true rfl)) dX7_log_3 ⟨Nat.le_of_ble_eq_true rfl, Nat.le_of_ble_eq_true rfl⟩) (fun r270 hr270 => ?_)
  subst hr270
  refine lv_if_eq (tgt := 21) hx hb dX7_log_6 (by decide) (fun c271 => ?_) (fun c271 => ?_)
  rotate_left
  · exact absurd c271 (by decide)
  refine lv_iconst (v := (-1)) hx hb dX7_log_21 (by decide) ?_
  exact W.iret (v := (-1)) hx hb hr (fun t ht hW => ⟨(-1), rfl, rfl, ht⟩) (fun _ h => by cases h) dX7_log_22
