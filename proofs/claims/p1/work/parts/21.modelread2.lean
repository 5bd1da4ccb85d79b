set_option maxHeartbeats 4000000 in
set_option maxRecDepth 100000 in
/-- record -/
theorem c_X7_record (l : Launch) (dC : Nat → ClassId) (dI : Nat → Nat → Nat) (w : Nat → Nat) (cz ci : ClassId) (xn : Int32) (xp : Int32) (xo : Int32) (wh : Int32) : Met l yX7_record wsX7_record ({ frames := 3, cells := 0, slots := 0, locals := 68 }) (va_Pc [.ref (w 0), .int xn, .int xp, .int xo, .int wh] (mxB dC dI w cz ci)) (vp_Sl (fun r => r = 1099511627776)) 0 0 (fun _ => False) := by
  refine Met.ofW (cc := cX7_record) (maxL := 5) (ret := (some .long)) (by decide) rfl ?_
  intro p e s m args below meth c s₁ B hml hv
  obtain ⟨rfl, hP, hK⟩ := hv
  have hx := B.exec
  have hb := B.bytes
  have hr := B.returns
  have hts := atoms_spec (ws := wsX7_record) B.pre
  have hown : s.vm.findClass RX7 = some m.cls := findClass_of_methodNamed B.named
  have hlocks := B.notSynchronized
  have hi7 : ∀ w ∈ wsX70, w ∈ wsX7_record := by decide +kernel
  have hl := lv_entry ([.ref (w 0), .int xn, .int xp, .int xo, .int wh]) (n := 5) (Nat.le_of_ble_eq_true rfl)
  rw [lg_entry_eq]
  generalize (lg_sl ([.ref (w 0), .int xn, .int xp, .int xo, .int wh]) ++ List.replicate (5 - (lg_sl ([.ref (w 0), .int xn, .int xp, .int xo, .int wh])).length) Slot.unset).toArray = ls at hl ⊢
  have hl : lv_has ls 5 [(0, .ref (w 0)), (1, .int xn), (2, .int xp), (3, .int xo), (4, .int wh)] := hl
  refine lv_aload_n hx hb dX7_record_0 rfl (lv_at hl 0 rfl) ?_
  refine lv_iload_n hx hb dX7_record_1 rfl (lv_at hl 1 rfl) ?_
  refine lv_iload_n hx hb dX7_record_2 rfl (lv_at hl 2 rfl) ?_
  refine vp_callSi (W.runV (As := [.int xn, .int xp]) (rest := []) ⟨hx, hb, hml, hown, hts⟩ (c_X7_isReplica l dC dI w cz ci xn xp) (cwV 2 hts gX7_record_X7_isReplica rfl rfl rfl (by decide +kernel) ⟨Nat.le_of_ble_eq_true rfl, Nat.le_of_ble_eq_true rfl⟩) ⟨mx_blind, va_recv hK hP (ci := 7) (q0 := 0) rfl rfl, fun U hU hW => ⟨rfl, mx_pre hP hK hU hW⟩⟩ rfl rfl hl.1 rfl (lv_room (Nat.le_of_ble_eq_true rfl)) dX7_record_3 ⟨Nat.le_of_ble_eq_true rfl, Nat.le_of_ble_eq_true rfl⟩) (fun r272 hr272 => ?_)
  subst hr272
  refine lv_if_eq (tgt := 56) hx hb dX7_record_6 (by decide) (fun c273 => ?_) (fun c273 => ?_)
  rotate_left
  · exact absurd c273 (by decide)
  refine lv_ldc2 hx hb hown (hts (.constantLong RX7 185 1099511627776) (by decide +kernel)) dX7_record_56 ?_
  exact W.lret (v := 1099511627776) hx hb hr (fun t ht hW => ⟨1099511627776, rfl, rfl, ht⟩) (fun _ h => by cases h) dX7_record_59
set_option maxHeartbeats 4000000 in
set_option maxRecDepth 100000 in
/-- restart: all nodes are up -/
theorem c_X7_restart (l : Launch) (dC : Nat → ClassId) (dI : Nat → Nat → Nat) (w : Nat → Nat) (cz ci : ClassId) (xn : Int32) : Met l yX7_restart wsX7_restart ({ frames := 2, cells := 0, slots := 0, locals := 46 }) (va_Pc [.ref (w 0), .int xn] (mxB dC dI w cz ci)) (vp_Si (fun r => r = (-1))) 0 0 (fun _ => False) := by
  refine Met.ofW (cc := cX7_restart) (maxL := 3) (ret := (some .int)) (by decide) rfl ?_
  intro p e s m args below meth c s₁ B hml hv
  obtain ⟨rfl, hP, hK⟩ := hv
  have hx := B.exec
  have hb := B.bytes
  have hr := B.returns
  have hts := atoms_spec (ws := wsX7_restart) B.pre
  have hown : s.vm.findClass RX7 = some m.cls := findClass_of_methodNamed B.named
  have hlocks := B.notSynchronized
  have hi7 : ∀ w ∈ wsX70, w ∈ wsX7_restart := by decide +kernel
  have hl := lv_entry ([.ref (w 0), .int xn]) (n := 3) (Nat.le_of_ble_eq_true rfl)
  rw [lg_entry_eq]
  generalize (lg_sl ([.ref (w 0), .int xn]) ++ List.replicate (3 - (lg_sl ([.ref (w 0), .int xn])).length) Slot.unset).toArray = ls at hl ⊢
  have hl : lv_has ls 3 [(0, .ref (w 0)), (1, .int xn)] := hl
  refine lv_iload_n hx hb dX7_restart_0 rfl (lv_at hl 1 rfl) ?_
  refine lv_i2l (v := xn.toInt64) hx hb dX7_restart_1 rfl ?_
  refine lv_lconst (v := 0) hx hb dX7_restart_2 (by decide) ?_
  refine lv_ldc2 hx hb hown (hts (.constantLong RX7 74 4) (by decide +kernel)) dX7_restart_3 ?_
  refine vp_callSi (W.runS (As := [.long xn.toInt64, .long 0, .long 4]) (rest := []) ⟨hx, hb, hml, hown, hts⟩ (c_X7_in l xn.toInt64 0 4) (va_cwS 3 hts gX7_restart_X7_in rfl rfl rfl (by decide +kernel) ⟨Nat.le_of_ble_eq_true rfl, Nat.le_of_ble_eq_true rfl⟩) preEq rfl rfl hl.1 rfl (lv_room (Nat.le_of_ble_eq_true rfl)) dX7_restart_6 ⟨Nat.le_of_ble_eq_true rfl, Nat.le_of_ble_eq_true rfl⟩) (fun r274 hr274 => ?_)
  subst hr274
  refine lv_if_eq (tgt := 20) hx hb dX7_restart_9 (by decide) (fun c275 => ?_) (fun c275 => ?_)
  · refine lv_iconst (v := (-1)) hx hb dX7_restart_20 (by decide) ?_
    exact W.iret (v := (-1)) hx hb hr (fun t ht hW => ⟨(-1), rfl, rfl, ht⟩) (fun _ h => by cases h) dX7_restart_21
  · refine lv_aload_n hx hb dX7_restart_12 rfl (lv_at hl 0 rfl) ?_
    refine lv_iload_n hx hb dX7_restart_13 rfl (lv_at hl 1 rfl) ?_
    refine vp_callSi (W.runV (As := [.int xn]) (rest := []) ⟨hx, hb, hml, hown, hts⟩ (c_X7_isUp l dC dI w cz ci xn) (cwV 1 hts gX7_restart_X7_isUp rfl rfl rfl (by decide +kernel) ⟨Nat.le_of_ble_eq_true rfl, Nat.le_of_ble_eq_true rfl⟩) ⟨mx_blind, va_recv hK hP (ci := 7) (q0 := 0) rfl rfl, fun U hU hW => ⟨rfl, mx_pre hP hK hU hW⟩⟩ rfl rfl hl.1 rfl (lv_room (Nat.le_of_ble_eq_true rfl)) dX7_restart_14 ⟨Nat.le_of_ble_eq_true rfl, Nat.le_of_ble_eq_true rfl⟩) (fun r276 hr276 => ?_)
    subst hr276
    refine lv_if_eq (tgt := 22) hx hb dX7_restart_17 (by decide) (fun c277 => ?_) (fun c277 => ?_)
    · exact absurd c277 (fun q => (by have kc275 := (not_congr (sp_in_0 xn 0 4)).mp c275; simp only [xk_eq, Int32.toInt_toInt64, xk_lt, xk_le, xk_0, xk_1, xk_2, xk_3, xk_4, xk_5, xk_6, xk_7, xk_8, xk_50, xl_0, xl_1, xl_3, xl_4, xl_5, xl_6, xl_7, xl_50] at kc275; have kq := (sp_up_0 xn).mp q; omega))
    refine lv_iconst (v := (-1)) hx hb dX7_restart_20 (by decide) ?_
    exact W.iret (v := (-1)) hx hb hr (fun t ht hW => ⟨(-1), rfl, rfl, ht⟩) (fun _ h => by cases h) dX7_restart_21
set_option maxHeartbeats 4000000 in
set_option maxRecDepth 100000 in
/-- owner -/
theorem c_X7_owner (l : Launch) (dC : Nat → ClassId) (dI : Nat → Nat → Nat) (w : Nat → Nat) (cz ci : ClassId) (xg : Int32) (xp : Int32) : Met l yX7_owner wsX7_owner ({ frames := 2, cells := 0, slots := 0, locals := 46 }) (va_Pc [.ref (w 0), .int xg, .int xp] (mxB dC dI w cz ci)) (vp_Si (fun r => r = (-1))) 0 0 (fun _ => False) := by
  refine Met.ofW (cc := cX7_owner) (maxL := 6) (ret := (some .int)) (by decide) rfl ?_
  intro p e s m args below meth c s₁ B hml hv
  obtain ⟨rfl, hP, hK⟩ := hv
  have hx := B.exec
  have hb := B.bytes
  have hr := B.returns
  have hts := atoms_spec (ws := wsX7_owner) B.pre
  have hown : s.vm.findClass RX7 = some m.cls := findClass_of_methodNamed B.named
  have hlocks := B.notSynchronized
  have hi7 : ∀ w ∈ wsX70, w ∈ wsX7_owner := by decide +kernel
  have hl := lv_entry ([.ref (w 0), .int xg, .int xp]) (n := 6) (Nat.le_of_ble_eq_true rfl)
  rw [lg_entry_eq]
  generalize (lg_sl ([.ref (w 0), .int xg, .int xp]) ++ List.replicate (6 - (lg_sl ([.ref (w 0), .int xg, .int xp])).length) Slot.unset).toArray = ls at hl ⊢
  have hl : lv_has ls 6 [(0, .ref (w 0)), (1, .int xg), (2, .int xp)] := hl
  refine lv_iload_n hx hb dX7_owner_0 rfl (lv_at hl 1 rfl) ?_
  refine lv_i2l (v := xg.toInt64) hx hb dX7_owner_1 rfl ?_
  refine lv_lconst (v := 0) hx hb dX7_owner_2 (by decide) ?_
  refine lv_ldc2 hx hb hown (hts (.constantLong RX7 80 3) (by decide +kernel)) dX7_owner_3 ?_
  refine vp_callSi (W.runS (As := [.long xg.toInt64, .long 0, .long 3]) (rest := []) ⟨hx, hb, hml, hown, hts⟩ (c_X7_in l xg.toInt64 0 3) (va_cwS 3 hts gX7_owner_X7_in rfl rfl rfl (by decide +kernel) ⟨Nat.le_of_ble_eq_true rfl, Nat.le_of_ble_eq_true rfl⟩) preEq rfl rfl hl.1 rfl (lv_room (Nat.le_of_ble_eq_true rfl)) dX7_owner_6 ⟨Nat.le_of_ble_eq_true rfl, Nat.le_of_ble_eq_true rfl⟩) (fun r278 hr278 => ?_)
  subst hr278
  refine lv_if_eq (tgt := 20) hx hb dX7_owner_9 (by decide) (fun c279 => ?_) (fun c279 => ?_)
  · refine lv_iconst (v := (-1)) hx hb dX7_owner_20 (by decide) ?_
    exact W.iret (v := (-1)) hx hb hr (fun t ht hW => ⟨(-1), rfl, rfl, ht⟩) (fun _ h => by cases h) dX7_owner_21
  · refine lv_aload_n hx hb dX7_owner_12 rfl (lv_at hl 0 rfl) ?_
    refine lv_iload_n hx hb dX7_owner_13 rfl (lv_at hl 2 rfl) ?_
    refine vp_callSi (W.runV (As := [.int xp]) (rest := []) ⟨hx, hb, hml, hown, hts⟩ (c_X7_isThere l dC dI w cz ci xp) (cwV 1 hts gX7_owner_X7_isThere rfl rfl rfl (by decide +kernel) ⟨Nat.le_of_ble_eq_true rfl, Nat.le_of_ble_eq_true rfl⟩) ⟨mx_blind, va_recv hK hP (ci := 7) (q0 := 0) rfl rfl, fun U hU hW => ⟨rfl, mx_pre hP hK hU hW⟩⟩ rfl rfl hl.1 rfl (lv_room (Nat.le_of_ble_eq_true rfl)) dX7_owner_14 ⟨Nat.le_of_ble_eq_true rfl, Nat.le_of_ble_eq_true rfl⟩) (fun r280 hr280 => ?_)
    subst hr280
    refine lv_if_ne (tgt := 22) hx hb dX7_owner_17 (by decide) (fun c281 => ?_) (fun c281 => ?_)
    · exact absurd c281 (by decide)
    refine lv_iconst (v := (-1)) hx hb dX7_owner_20 (by decide) ?_
    exact W.iret (v := (-1)) hx hb hr (fun t ht hW => ⟨(-1), rfl, rfl, ht⟩) (fun _ h => by cases h) dX7_owner_21
set_option maxHeartbeats 4000000 in
set_option maxRecDepth 100000 in
/-- position -/
theorem c_X7_position (l : Launch) (dC : Nat → ClassId) (dI : Nat → Nat → Nat) (w : Nat → Nat) (cz ci : ClassId) (xg : Int32) (xp : Int32) : Met l yX7_position wsX7_position ({ frames := 2, cells := 0, slots := 0, locals := 46 }) (va_Pc [.ref (w 0), .int xg, .int xp] (mxB dC dI w cz ci)) (vp_Si (fun r => r = (-1))) 0 0 (fun _ => False) := by
  refine Met.ofW (cc := cX7_position) (maxL := 3) (ret := (some .int)) (by decide) rfl ?_
  intro p e s m args below meth c s₁ B hml hv
  obtain ⟨rfl, hP, hK⟩ := hv
  have hx := B.exec
  have hb := B.bytes
  have hr := B.returns
  have hts := atoms_spec (ws := wsX7_position) B.pre
  have hown : s.vm.findClass RX7 = some m.cls := findClass_of_methodNamed B.named
  have hlocks := B.notSynchronized
  have hi7 : ∀ w ∈ wsX70, w ∈ wsX7_position := by decide +kernel
  have hl := lv_entry ([.ref (w 0), .int xg, .int xp]) (n := 3) (Nat.le_of_ble_eq_true rfl)
  rw [lg_entry_eq]
  generalize (lg_sl ([.ref (w 0), .int xg, .int xp]) ++ List.replicate (3 - (lg_sl ([.ref (w 0), .int xg, .int xp])).length) Slot.unset).toArray = ls at hl ⊢
  have hl : lv_has ls 3 [(0, .ref (w 0)), (1, .int xg), (2, .int xp)] := hl
  refine lv_iload_n hx hb dX7_position_0 rfl (lv_at hl 1 rfl) ?_
  refine lv_i2l (v := xg.toInt64) hx hb dX7_position_1 rfl ?_
  refine lv_lconst (v := 0) hx hb dX7_position_2 (by decide) ?_
  refine lv_ldc2 hx hb hown (hts (.constantLong RX7 80 3) (by decide +kernel)) dX7_position_3 ?_
  refine vp_callSi (W.runS (As := [.long xg.toInt64, .long 0, .long 3]) (rest := []) ⟨hx, hb, hml, hown, hts⟩ (c_X7_in l xg.toInt64 0 3) (va_cwS 3 hts gX7_position_X7_in rfl rfl rfl (by decide +kernel) ⟨Nat.le_of_ble_eq_true rfl, Nat.le_of_ble_eq_true rfl⟩) preEq rfl rfl hl.1 rfl (lv_room (Nat.le_of_ble_eq_true rfl)) dX7_position_6 ⟨Nat.le_of_ble_eq_true rfl, Nat.le_of_ble_eq_true rfl⟩) (fun r282 hr282 => ?_)
  subst hr282
  refine lv_if_eq (tgt := 33) hx hb dX7_position_9 (by decide) (fun c283 => ?_) (fun c283 => ?_)
  · refine lv_iconst (v := (-1)) hx hb dX7_position_33 (by decide) ?_
    exact W.iret (v := (-1)) hx hb hr (fun t ht hW => ⟨(-1), rfl, rfl, ht⟩) (fun _ h => by cases h) dX7_position_34
  · refine lv_aload_n hx hb dX7_position_12 rfl (lv_at hl 0 rfl) ?_
    refine lv_iload_n hx hb dX7_position_13 rfl (lv_at hl 2 rfl) ?_
    refine vp_callSi (W.runV (As := [.int xp]) (rest := []) ⟨hx, hb, hml, hown, hts⟩ (c_X7_isThere l dC dI w cz ci xp) (cwV 1 hts gX7_position_X7_isThere rfl rfl rfl (by decide +kernel) ⟨Nat.le_of_ble_eq_true rfl, Nat.le_of_ble_eq_true rfl⟩) ⟨mx_blind, va_recv hK hP (ci := 7) (q0 := 0) rfl rfl, fun U hU hW => ⟨rfl, mx_pre hP hK hU hW⟩⟩ rfl rfl hl.1 rfl (lv_room (Nat.le_of_ble_eq_true rfl)) dX7_position_14 ⟨Nat.le_of_ble_eq_true rfl, Nat.le_of_ble_eq_true rfl⟩) (fun r284 hr284 => ?_)
    subst hr284
    refine lv_if_eq (tgt := 33) hx hb dX7_position_17 (by decide) (fun c285 => ?_) (fun c285 => ?_)
    rotate_left
    · exact absurd c285 (by decide)
    refine lv_iconst (v := (-1)) hx hb dX7_position_33 (by decide) ?_
    exact W.iret (v := (-1)) hx hb hr (fun t ht hW => ⟨(-1), rfl, rfl, ht⟩) (fun _ h => by cases h) dX7_position_34
set_option maxHeartbeats 4000000 in
set_option maxRecDepth 100000 in
/-- move -/
theorem c_X7_move (l : Launch) (dC : Nat → ClassId) (dI : Nat → Nat → Nat) (w : Nat → Nat) (cz ci : ClassId) (xg : Int32) (xm : Int32) (ro : Int32) (xp : Int32) (xo : Int32) : Met l yX7_move wsX7_move ({ frames := 2, cells := 0, slots := 0, locals := 46 }) (va_Pc [.ref (w 0), .int xg, .int xm, .int ro, .int xp, .int xo] (mxB dC dI w cz ci)) (vp_Si (fun r => r = (-1))) 0 0 (fun _ => False) := by
  refine Met.ofW (cc := cX7_move) (maxL := 6) (ret := (some .int)) (by decide) rfl ?_
  intro p e s m args below meth c s₁ B hml hv
  obtain ⟨rfl, hP, hK⟩ := hv
  have hx := B.exec
  have hb := B.bytes
  have hr := B.returns
  have hts := atoms_spec (ws := wsX7_move) B.pre
  have hown : s.vm.findClass RX7 = some m.cls := findClass_of_methodNamed B.named
  have hlocks := B.notSynchronized
  have hi7 : ∀ w ∈ wsX70, w ∈ wsX7_move := by decide +kernel
  have hl := lv_entry ([.ref (w 0), .int xg, .int xm, .int ro, .int xp, .int xo]) (n := 6) (Nat.le_of_ble_eq_true rfl)
  rw [lg_entry_eq]
  generalize (lg_sl ([.ref (w 0), .int xg, .int xm, .int ro, .int xp, .int xo]) ++ List.replicate (6 - (lg_sl ([.ref (w 0), .int xg, .int xm, .int ro, .int xp, .int xo])).length) Slot.unset).toArray = ls at hl ⊢
  have hl : lv_has ls 6 [(0, .ref (w 0)), (1, .int xg), (2, .int xm), (3, .int ro), (4, .int xp), (5, .int xo)] := hl
  refine lv_iload hx hb dX7_move_0 (lv_at hl 5 rfl) ?_
  refine lv_if_lt (tgt := 26) hx hb dX7_move_2 (by decide) (fun c286 => ?_) (fun c286 => ?_)
  · refine lv_iconst (v := (-1)) hx hb dX7_move_26 (by decide) ?_
    exact W.iret (v := (-1)) hx hb hr (fun t ht hW => ⟨(-1), rfl, rfl, ht⟩) (fun _ h => by cases h) dX7_move_27
  · refine lv_iload_n hx hb dX7_move_5 rfl (lv_at hl 1 rfl) ?_
    refine lv_i2l (v := xg.toInt64) hx hb dX7_move_6 rfl ?_
    refine lv_lconst (v := 0) hx hb dX7_move_7 (by decide) ?_
    refine lv_ldc2 hx hb hown (hts (.constantLong RX7 80 3) (by decide +kernel)) dX7_move_8 ?_
    refine vp_callSi (W.runS (As := [.long xg.toInt64, .long 0, .long 3]) (rest := []) ⟨hx, hb, hml, hown, hts⟩ (c_X7_in l xg.toInt64 0 3) (va_cwS 3 hts gX7_move_X7_in rfl rfl rfl (by decide +kernel) ⟨Nat.le_of_ble_eq_true rfl, Nat.le_of_ble_eq_true rfl⟩) preEq rfl rfl hl.1 rfl (lv_room (Nat.le_of_ble_eq_true rfl)) dX7_move_11 ⟨Nat.le_of_ble_eq_true rfl, Nat.le_of_ble_eq_true rfl⟩) (fun r287 hr287 => ?_)
    subst hr287
    refine lv_if_eq (tgt := 26) hx hb dX7_move_14 (by decide) (fun c288 => ?_) (fun c288 => ?_)
    · refine lv_iconst (v := (-1)) hx hb dX7_move_26 (by decide) ?_
      exact W.iret (v := (-1)) hx hb hr (fun t ht hW => ⟨(-1), rfl, rfl, ht⟩) (fun _ h => by cases h) dX7_move_27
    · refine lv_aload_n hx hb dX7_move_17 rfl (lv_at hl 0 rfl) ?_
      refine lv_iload hx hb dX7_move_18 (lv_at hl 4 rfl) ?_
      refine vp_callSi (W.runV (As := [.int xp]) (rest := []) ⟨hx, hb, hml, hown, hts⟩ (c_X7_isThere l dC dI w cz ci xp) (cwV 1 hts gX7_move_X7_isThere rfl rfl rfl (by decide +kernel) ⟨Nat.le_of_ble_eq_true rfl, Nat.le_of_ble_eq_true rfl⟩) ⟨mx_blind, va_recv hK hP (ci := 7) (q0 := 0) rfl rfl, fun U hU hW => ⟨rfl, mx_pre hP hK hU hW⟩⟩ rfl rfl hl.1 rfl (lv_room (Nat.le_of_ble_eq_true rfl)) dX7_move_20 ⟨Nat.le_of_ble_eq_true rfl, Nat.le_of_ble_eq_true rfl⟩) (fun r289 hr289 => ?_)
      subst hr289
      refine lv_if_ne (tgt := 28) hx hb dX7_move_23 (by decide) (fun c290 => ?_) (fun c290 => ?_)
      · exact absurd c290 (by decide)
      refine lv_iconst (v := (-1)) hx hb dX7_move_26 (by decide) ?_
      exact W.iret (v := (-1)) hx hb hr (fun t ht hW => ⟨(-1), rfl, rfl, ht⟩) (fun _ h => by cases h) dX7_move_27
set_option maxHeartbeats 4000000 in
set_option maxRecDepth 100000 in
/-- seen -/
theorem c_X7_seen (l : Launch) (dC : Nat → ClassId) (dI : Nat → Nat → Nat) (w : Nat → Nat) (cz ci : ClassId) (wh : Int32) : Met l yX7_seen wsX7_seen ({ frames := 1, cells := 0, slots := 0, locals := 25 }) (va_Pc [.ref (w 0), .int wh] (mxB dC dI w cz ci)) (vp_Si (fun r => r = 0)) 0 0 (fun _ => False) := by
  refine Met.ofW (cc := cX7_seen) (maxL := 2) (ret := (some .int)) (by decide) rfl ?_
  intro p e s m args below meth c s₁ B hml hv
  obtain ⟨rfl, hP, hK⟩ := hv
  have hx := B.exec
  have hb := B.bytes
  have hr := B.returns
  have hts := atoms_spec (ws := wsX7_seen) B.pre
  have hown : s.vm.findClass RX7 = some m.cls := findClass_of_methodNamed B.named
  have hlocks := B.notSynchronized
  have hi7 : ∀ w ∈ wsX70, w ∈ wsX7_seen := by decide +kernel
  have hl := lv_entry ([.ref (w 0), .int wh]) (n := 2) (Nat.le_of_ble_eq_true rfl)
  rw [lg_entry_eq]
  generalize (lg_sl ([.ref (w 0), .int wh]) ++ List.replicate (2 - (lg_sl ([.ref (w 0), .int wh])).length) Slot.unset).toArray = ls at hl ⊢
  have hl : lv_has ls 2 [(0, .ref (w 0)), (1, .int wh)] := hl
  refine lv_iload_n hx hb dX7_seen_0 rfl (lv_at hl 1 rfl) ?_
  refine lv_i2l (v := wh.toInt64) hx hb dX7_seen_1 rfl ?_
  refine lv_lconst (v := 0) hx hb dX7_seen_2 (by decide) ?_
  refine lv_ldc2 hx hb hown (hts (.constantLong RX7 129 5) (by decide +kernel)) dX7_seen_3 ?_
  refine vp_callSi (W.runS (As := [.long wh.toInt64, .long 0, .long 5]) (rest := []) ⟨hx, hb, hml, hown, hts⟩ (c_X7_in l wh.toInt64 0 5) (va_cwS 3 hts gX7_seen_X7_in rfl rfl rfl (by decide +kernel) ⟨Nat.le_of_ble_eq_true rfl, Nat.le_of_ble_eq_true rfl⟩) preEq rfl rfl hl.1 rfl (lv_room (Nat.le_of_ble_eq_true rfl)) dX7_seen_6 ⟨Nat.le_of_ble_eq_true rfl, Nat.le_of_ble_eq_true rfl⟩) (fun r291 hr291 => ?_)
  subst hr291
  refine lv_if_eq (tgt := 21) hx hb dX7_seen_9 (by decide) (fun c292 => ?_) (fun c292 => ?_)
  · refine lv_iconst (v := 0) hx hb dX7_seen_21 (by decide) ?_
    exact W.iret (v := 0) hx hb hr (fun t ht hW => ⟨0, rfl, rfl, ht⟩) (fun _ h => by cases h) dX7_seen_22
  · refine lv_aload_n hx hb dX7_seen_12 rfl (lv_at hl 0 rfl) ?_
    refine va_get (D := (dC, dI)) (ci := 7) (v := .ref (w 16)) (C := RX7) (T := TX7) (N := 18) hx hb hts hi7 hown hK hP 0 rfl rfl 15 (by decide) (hts (.fieldLink RX7 58 "TallyLogsModel" "seen" "[I") (by decide +kernel)) (fun _ h9 => h9) rfl dX7_seen_13 ?_
    refine lv_iload_n hx hb dX7_seen_16 rfl (lv_at hl 1 rfl) ?_
    have hin293 : vp_in wh 6 := xin_of (by have kc292 := (not_congr (sp_in_0 wh 0 5)).mp c292; simp only [xk_eq, Int32.toInt_toInt64, xk_lt, xk_le, xk_0, xk_1, xk_2, xk_3, xk_4, xk_5, xk_6, xk_7, xk_8, xk_50, xl_0, xl_1, xl_3, xl_4, xl_5, xl_6, xl_7, xl_50] at kc292; omega) (by have kc292 := (not_congr (sp_in_0 wh 0 5)).mp c292; simp only [xk_eq, Int32.toInt_toInt64, xk_lt, xk_le, xk_0, xk_1, xk_2, xk_3, xk_4, xk_5, xk_6, xk_7, xk_8, xk_50, xl_0, xl_1, xl_3, xl_4, xl_5, xl_6, xl_7, xl_50] at kc292; omega)
    refine va_iald hx hb hK hP 15 1 rfl rfl hin293 dX7_seen_17 ?_
    refine W.eq (g2 := F0 m 18 ls [.int 0]) rfl ?_
    refine lv_goto (tgt := 22) hx hb dX7_seen_18 (by decide) ?_
    exact W.iret (v := 0) hx hb hr (fun t ht hW => ⟨0, rfl, rfl, ht⟩) (fun _ h => by cases h) dX7_seen_22
set_option maxHeartbeats 4000000 in
set_option maxRecDepth 100000 in
/-- settle -/
theorem c_X7_settle (l : Launch) (dC : Nat → ClassId) (dI : Nat → Nat → Nat) (w : Nat → Nat) (cz ci : ClassId) (xk : Int32) : Met l yX7_settle wsX7_settle ({ frames := 1, cells := 0, slots := 0, locals := 25 }) (va_Pc [.ref (w 0), .int xk] (mxB dC dI w cz ci)) (vp_Si (fun r => r = sp_st xk)) 0 0 (fun _ => False) := by
  refine Met.ofW (cc := cX7_settle) (maxL := 4) (ret := (some .int)) (by decide) rfl ?_
  intro p e s m args below meth c s₁ B hml hv
  obtain ⟨rfl, hP, hK⟩ := hv
  have hx := B.exec
  have hb := B.bytes
  have hr := B.returns
  have hts := atoms_spec (ws := wsX7_settle) B.pre
  have hown : s.vm.findClass RX7 = some m.cls := findClass_of_methodNamed B.named
  have hlocks := B.notSynchronized
  have hi7 : ∀ w ∈ wsX70, w ∈ wsX7_settle := by decide +kernel
  have hl := lv_entry ([.ref (w 0), .int xk]) (n := 4) (Nat.le_of_ble_eq_true rfl)
  rw [lg_entry_eq]
  generalize (lg_sl ([.ref (w 0), .int xk]) ++ List.replicate (4 - (lg_sl ([.ref (w 0), .int xk])).length) Slot.unset).toArray = ls at hl ⊢
  have hl : lv_has ls 4 [(0, .ref (w 0)), (1, .int xk)] := hl
  refine lv_iload_n hx hb dX7_settle_0 rfl (lv_at hl 1 rfl) ?_
  refine lv_i2l (v := xk.toInt64) hx hb dX7_settle_1 rfl ?_
  refine lv_lconst (v := 0) hx hb dX7_settle_2 (by decide) ?_
  refine lv_ldc2 hx hb hown (hts (.constantLong RX7 129 5) (by decide +kernel)) dX7_settle_3 ?_
  refine vp_callSi (W.runS (As := [.long xk.toInt64, .long 0, .long 5]) (rest := []) ⟨hx, hb, hml, hown, hts⟩ (c_X7_in l xk.toInt64 0 5) (va_cwS 3 hts gX7_settle_X7_in rfl rfl rfl (by decide +kernel) ⟨Nat.le_of_ble_eq_true rfl, Nat.le_of_ble_eq_true rfl⟩) preEq rfl rfl hl.1 rfl (lv_room (Nat.le_of_ble_eq_true rfl)) dX7_settle_6 ⟨Nat.le_of_ble_eq_true rfl, Nat.le_of_ble_eq_true rfl⟩) (fun r294 hr294 => ?_)
  subst hr294
  refine lv_if_ne (tgt := 14) hx hb dX7_settle_9 (by decide) (fun c295 => ?_) (fun c295 => ?_)
  · refine lv_aload_n hx hb dX7_settle_14 rfl (lv_at hl 0 rfl) ?_
    refine va_get (D := (dC, dI)) (ci := 7) (v := .ref (w 9)) (C := RX7) (T := TX7) (N := 18) hx hb hts hi7 hown hK hP 0 rfl rfl 8 (by decide) (hts (.fieldLink RX7 37 "TallyLogsModel" "mode" "[I") (by decide +kernel)) (fun _ h9 => h9) rfl dX7_settle_15 ?_
    refine lv_iload_n hx hb dX7_settle_18 rfl (lv_at hl 1 rfl) ?_
    have hin296 : vp_in xk 6 := xin_of (by have kc295 := (not_congr (sp_in_0 xk 0 5)).mp c295; simp only [xk_eq, Int32.toInt_toInt64, xk_lt, xk_le, xk_0, xk_1, xk_2, xk_3, xk_4, xk_5, xk_6, xk_7, xk_8, xk_50, xl_0, xl_1, xl_3, xl_4, xl_5, xl_6, xl_7, xl_50] at kc295; omega) (by have kc295 := (not_congr (sp_in_0 xk 0 5)).mp c295; simp only [xk_eq, Int32.toInt_toInt64, xk_lt, xk_le, xk_0, xk_1, xk_2, xk_3, xk_4, xk_5, xk_6, xk_7, xk_8, xk_50, xl_0, xl_1, xl_3, xl_4, xl_5, xl_6, xl_7, xl_50] at kc295; omega)
    refine va_iald hx hb hK hP 8 1 rfl rfl hin296 dX7_settle_19 ?_
    refine W.eq (g2 := F0 m 20 ls [.int 0]) rfl ?_
    refine lv_iconst (v := 2) hx hb dX7_settle_20 (by decide) ?_
    refine lv_icmp_eq (tgt := 27) hx hb dX7_settle_21 (by decide) (fun c297 => ?_) (fun c297 => ?_)
    · exact absurd c297 (by decide)
    refine lv_bipush (v := (-2)) hx hb dX7_settle_24 (by decide) ?_
    exact W.iret (v := (-2)) hx hb hr (fun t ht hW => ⟨(-2), rfl, by show _ = _; have kc295 := (not_congr (sp_in_0 xk 0 5)).mp c295; simp only [xk_eq, Int32.toInt_toInt64, xk_lt, xk_le, xk_0, xk_1, xk_2, xk_3, xk_4, xk_5, xk_6, xk_7, xk_8, xk_50, xl_0, xl_1, xl_3, xl_4, xl_5, xl_6, xl_7, xl_50] at kc295; unfold sp_st; (repeat' split); all_goals first | rfl | omega | (exfalso; omega) | contradiction, ht⟩) (fun _ h => by cases h) dX7_settle_26
  · refine lv_iconst (v := (-1)) hx hb dX7_settle_12 (by decide) ?_
    exact W.iret (v := (-1)) hx hb hr (fun t ht hW => ⟨(-1), rfl, by show _ = _; have kc295 := (sp_in_0 xk 0 5).mp c295; simp only [xk_eq, Int32.toInt_toInt64, xk_lt, xk_le, xk_0, xk_1, xk_2, xk_3, xk_4, xk_5, xk_6, xk_7, xk_8, xk_50, xl_0, xl_1, xl_3, xl_4, xl_5, xl_6, xl_7, xl_50] at kc295; unfold sp_st; (repeat' split); all_goals first | rfl | omega | (exfalso; omega) | contradiction, ht⟩) (fun _ h => by cases h) dX7_settle_13
set_option maxHeartbeats 4000000 in
set_option maxRecDepth 100000 in
/-- begin -/
theorem c_X7_begin (l : Launch) (dC : Nat → ClassId) (dI : Nat → Nat → Nat) (w : Nat → Nat) (cz ci : ClassId) (hd : Int32) : Met l yX7_begin wsX7_begin ({ frames := 1, cells := 0, slots := 0, locals := 20 }) (va_Pc [.ref (w 0), .int hd] (mxB dC dI w cz ci)) (vp_Si (fun r => r = sp_bg hd)) 0 0 (fun _ => False) := by
  refine Met.ofW (cc := cX7_begin) (maxL := 3) (ret := (some .int)) (by decide) rfl ?_
  intro p e s m args below meth c s₁ B hml hv
  obtain ⟨rfl, hP, hK⟩ := hv
  have hx := B.exec
  have hb := B.bytes
  have hr := B.returns
  have hts := atoms_spec (ws := wsX7_begin) B.pre
  have hown : s.vm.findClass RX7 = some m.cls := findClass_of_methodNamed B.named
  have hlocks := B.notSynchronized
  have hi7 : ∀ w ∈ wsX70, w ∈ wsX7_begin := by decide +kernel
  have hl := lv_entry ([.ref (w 0), .int hd]) (n := 3) (Nat.le_of_ble_eq_true rfl)
  rw [lg_entry_eq]
  generalize (lg_sl ([.ref (w 0), .int hd]) ++ List.replicate (3 - (lg_sl ([.ref (w 0), .int hd])).length) Slot.unset).toArray = ls at hl ⊢
  have hl : lv_has ls 3 [(0, .ref (w 0)), (1, .int hd)] := hl
  refine lv_iload_n hx hb dX7_begin_0 rfl (lv_at hl 1 rfl) ?_
  refine vp_callSi (W.runS (As := [.int hd]) (rest := []) ⟨hx, hb, hml, hown, hts⟩ (c_X7_isHandle l hd) (va_cwS 1 hts gX7_begin_X7_isHandle rfl rfl rfl (by decide +kernel) ⟨Nat.le_of_ble_eq_true rfl, Nat.le_of_ble_eq_true rfl⟩) preEq rfl rfl hl.1 rfl (lv_room (Nat.le_of_ble_eq_true rfl)) dX7_begin_1 ⟨Nat.le_of_ble_eq_true rfl, Nat.le_of_ble_eq_true rfl⟩) (fun r298 hr298 => ?_)
  subst hr298
  refine lv_if_ne (tgt := 9) hx hb dX7_begin_4 (by decide) (fun c299 => ?_) (fun c299 => ?_)
  · refine lv_iload_n hx hb dX7_begin_9 rfl (lv_at hl 1 rfl) ?_
    refine lv_bipush (v := 8) hx hb dX7_begin_10 (by decide) ?_
    refine lv_irem hx hb dX7_begin_12 (by decide) ?_
    refine lv_topi (fun v300 ev300 => ?_)
    refine lv_istore_n (lv' := [(2, .int v300), (0, .ref (w 0)), (1, .int hd)]) hx hb dX7_begin_13 rfl hl (by decide) rfl (fun ls hl => ?_)
    refine lv_aload_n hx hb dX7_begin_14 rfl (lv_at hl 1 rfl) ?_
    refine va_get (D := (dC, dI)) (ci := 7) (v := .ref (w 8)) (C := RX7) (T := TX7) (N := 18) hx hb hts hi7 hown hK hP 0 rfl rfl 7 (by decide) (hts (.fieldLink RX7 34 "TallyLogsModel" "generation" "[I") (by decide +kernel)) (fun _ h9 => h9) rfl dX7_begin_15 ?_
    refine lv_iload_n hx hb dX7_begin_18 rfl (lv_at hl 0 rfl) ?_
    have hin301 : vp_in v300 6 := by rw [ev300]; exact (sp_ih1 c299).2
    refine va_iald hx hb hK hP 7 1 rfl rfl hin301 dX7_begin_19 ?_
    refine W.eq (g2 := F0 m 20 ls [.int (-1)]) (by rw [spF_lt (vp_lt hin301)]) ?_
    refine lv_iload_n hx hb dX7_begin_20 rfl (lv_at hl 2 rfl) ?_
    refine lv_bipush (v := 8) hx hb dX7_begin_21 (by decide) ?_
    refine lv_idiv hx hb dX7_begin_23 (by decide) ?_
    refine lv_topi (fun v302 ev302 => ?_)
    refine lv_icmp_ne (tgt := 36) hx hb dX7_begin_24 (by decide) (fun c303 => ?_) (fun c303 => ?_)
    rotate_left
    · exact absurd (c303.trans ev302) (xneg1 (sp_ih1 c299).1)
    refine lv_bipush (v := (-4)) hx hb dX7_begin_36 (by decide) ?_
    exact W.iret (v := (-4)) hx hb hr (fun t ht hW => ⟨(-4), rfl, by rw [sp_bg, if_neg c299], ht⟩) (fun _ h => by cases h) dX7_begin_38
  · refine lv_iconst (v := (-1)) hx hb dX7_begin_7 (by decide) ?_
    exact W.iret (v := (-1)) hx hb hr (fun t ht hW => ⟨(-1), rfl, by rw [sp_bg, if_pos c299], ht⟩) (fun _ h => by cases h) dX7_begin_8
set_option maxHeartbeats 4000000 in
set_option maxRecDepth 100000 in
/-- finish -/
theorem c_X7_finish (l : Launch) (dC : Nat → ClassId) (dI : Nat → Nat → Nat) (w : Nat → Nat) (cz ci : ClassId) (hd : Int32) (cm : Int32) : Met l yX7_finish wsX7_finish ({ frames := 1, cells := 0, slots := 0, locals := 20 }) (va_Pc [.ref (w 0), .int hd, .int cm] (mxB dC dI w cz ci)) (vp_Si (fun r => r = sp_bg hd)) 0 0 (fun _ => False) := by
  refine Met.ofW (cc := cX7_finish) (maxL := 4) (ret := (some .int)) (by decide) rfl ?_
  intro p e s m args below meth c s₁ B hml hv
  obtain ⟨rfl, hP, hK⟩ := hv
  have hx := B.exec
  have hb := B.bytes
  have hr := B.returns
  have hts := atoms_spec (ws := wsX7_finish) B.pre
  have hown : s.vm.findClass RX7 = some m.cls := findClass_of_methodNamed B.named
  have hlocks := B.notSynchronized
  have hi7 : ∀ w ∈ wsX70, w ∈ wsX7_finish := by decide +kernel
  have hl := lv_entry ([.ref (w 0), .int hd, .int cm]) (n := 4) (Nat.le_of_ble_eq_true rfl)
  rw [lg_entry_eq]
  generalize (lg_sl ([.ref (w 0), .int hd, .int cm]) ++ List.replicate (4 - (lg_sl ([.ref (w 0), .int hd, .int cm])).length) Slot.unset).toArray = ls at hl ⊢
  have hl : lv_has ls 4 [(0, .ref (w 0)), (1, .int hd), (2, .int cm)] := hl
  refine lv_iload_n hx hb dX7_finish_0 rfl (lv_at hl 1 rfl) ?_
  refine vp_callSi (W.runS (As := [.int hd]) (rest := []) ⟨hx, hb, hml, hown, hts⟩ (c_X7_isHandle l hd) (va_cwS 1 hts gX7_finish_X7_isHandle rfl rfl rfl (by decide +kernel) ⟨Nat.le_of_ble_eq_true rfl, Nat.le_of_ble_eq_true rfl⟩) preEq rfl rfl hl.1 rfl (lv_room (Nat.le_of_ble_eq_true rfl)) dX7_finish_1 ⟨Nat.le_of_ble_eq_true rfl, Nat.le_of_ble_eq_true rfl⟩) (fun r304 hr304 => ?_)
  subst hr304
  refine lv_if_ne (tgt := 9) hx hb dX7_finish_4 (by decide) (fun c305 => ?_) (fun c305 => ?_)
  · refine lv_iload_n hx hb dX7_finish_9 rfl (lv_at hl 1 rfl) ?_
    refine lv_bipush (v := 8) hx hb dX7_finish_10 (by decide) ?_
    refine lv_irem hx hb dX7_finish_12 (by decide) ?_
    refine lv_topi (fun v306 ev306 => ?_)
    refine lv_istore_n (lv' := [(3, .int v306), (0, .ref (w 0)), (1, .int hd), (2, .int cm)]) hx hb dX7_finish_13 rfl hl (by decide) rfl (fun ls hl => ?_)
    refine lv_aload_n hx hb dX7_finish_14 rfl (lv_at hl 1 rfl) ?_
    refine va_get (D := (dC, dI)) (ci := 7) (v := .ref (w 8)) (C := RX7) (T := TX7) (N := 18) hx hb hts hi7 hown hK hP 0 rfl rfl 7 (by decide) (hts (.fieldLink RX7 34 "TallyLogsModel" "generation" "[I") (by decide +kernel)) (fun _ h9 => h9) rfl dX7_finish_15 ?_
    refine lv_iload_n hx hb dX7_finish_18 rfl (lv_at hl 0 rfl) ?_
    have hin307 : vp_in v306 6 := by rw [ev306]; exact (sp_ih1 c305).2
    refine va_iald hx hb hK hP 7 1 rfl rfl hin307 dX7_finish_19 ?_
    refine W.eq (g2 := F0 m 20 ls [.int (-1)]) (by rw [spF_lt (vp_lt hin307)]) ?_
    refine lv_iload_n hx hb dX7_finish_20 rfl (lv_at hl 2 rfl) ?_
    refine lv_bipush (v := 8) hx hb dX7_finish_21 (by decide) ?_
    refine lv_idiv hx hb dX7_finish_23 (by decide) ?_
    refine lv_topi (fun v308 ev308 => ?_)
    refine lv_icmp_ne (tgt := 37) hx hb dX7_finish_24 (by decide) (fun c309 => ?_) (fun c309 => ?_)
    rotate_left
    · exact absurd (c309.trans ev308) (xneg1 (sp_ih1 c305).1)
    refine lv_bipush (v := (-4)) hx hb dX7_finish_37 (by decide) ?_
    exact W.iret (v := (-4)) hx hb hr (fun t ht hW => ⟨(-4), rfl, by rw [sp_bg, if_neg c305], ht⟩) (fun _ h => by cases h) dX7_finish_39
  · refine lv_iconst (v := (-1)) hx hb dX7_finish_7 (by decide) ?_
    exact W.iret (v := (-1)) hx hb hr (fun t ht hW => ⟨(-1), rfl, by rw [sp_bg, if_pos c305], ht⟩) (fun _ h => by cases h) dX7_finish_8
set_option maxHeartbeats 4000000 in
set_option maxRecDepth 100000 in
/-- count -/
theorem c_X7_count (l : Launch) (dC : Nat → ClassId) (dI : Nat → Nat → Nat) (w : Nat → Nat) (cz ci : ClassId) (wh : Int32) : Met l yX7_count wsX7_count ({ frames := 1, cells := 0, slots := 0, locals := 25 }) (va_Pc [.ref (w 0), .int wh] (mxB dC dI w cz ci)) (vp_Si (fun r => r = sp_ct wh)) 0 0 (fun _ => False) := by
  refine Met.ofW (cc := cX7_count) (maxL := 2) (ret := (some .int)) (by decide) rfl ?_
  intro p e s m args below meth c s₁ B hml hv
  obtain ⟨rfl, hP, hK⟩ := hv
  have hx := B.exec
  have hb := B.bytes
  have hr := B.returns
  have hts := atoms_spec (ws := wsX7_count) B.pre
  have hown : s.vm.findClass RX7 = some m.cls := findClass_of_methodNamed B.named
  have hlocks := B.notSynchronized
  have hi7 : ∀ w ∈ wsX70, w ∈ wsX7_count := by decide +kernel
  have hl := lv_entry ([.ref (w 0), .int wh]) (n := 2) (Nat.le_of_ble_eq_true rfl)
  rw [lg_entry_eq]
  generalize (lg_sl ([.ref (w 0), .int wh]) ++ List.replicate (2 - (lg_sl ([.ref (w 0), .int wh])).length) Slot.unset).toArray = ls at hl ⊢
  have hl : lv_has ls 2 [(0, .ref (w 0)), (1, .int wh)] := hl
  refine lv_iload_n hx hb dX7_count_0 rfl (lv_at hl 1 rfl) ?_
  refine lv_i2l (v := wh.toInt64) hx hb dX7_count_1 rfl ?_
  refine lv_lconst (v := 0) hx hb dX7_count_2 (by decide) ?_
  refine lv_ldc2 hx hb hown (hts (.constantLong RX7 173 7) (by decide +kernel)) dX7_count_3 ?_
  refine vp_callSi (W.runS (As := [.long wh.toInt64, .long 0, .long 7]) (rest := []) ⟨hx, hb, hml, hown, hts⟩ (c_X7_in l wh.toInt64 0 7) (va_cwS 3 hts gX7_count_X7_in rfl rfl rfl (by decide +kernel) ⟨Nat.le_of_ble_eq_true rfl, Nat.le_of_ble_eq_true rfl⟩) preEq rfl rfl hl.1 rfl (lv_room (Nat.le_of_ble_eq_true rfl)) dX7_count_6 ⟨Nat.le_of_ble_eq_true rfl, Nat.le_of_ble_eq_true rfl⟩) (fun r310 hr310 => ?_)
  subst hr310
  refine lv_if_ne (tgt := 14) hx hb dX7_count_9 (by decide) (fun c311 => ?_) (fun c311 => ?_)
  · refine lv_iload_n hx hb dX7_count_14 rfl (lv_at hl 1 rfl) ?_
    refine lv_if_ne (tgt := 25) hx hb dX7_count_15 (by decide) (fun c312 => ?_) (fun c312 => ?_)
    · refine lv_iload_n hx hb dX7_count_25 rfl (lv_at hl 1 rfl) ?_
      refine lv_iconst (v := 1) hx hb dX7_count_26 (by decide) ?_
      refine lv_icmp_ne (tgt := 37) hx hb dX7_count_27 (by decide) (fun c313 => ?_) (fun c313 => ?_)
      · refine lv_aload_n hx hb dX7_count_37 rfl (lv_at hl 0 rfl) ?_
        refine va_get (D := (dC, dI)) (ci := 7) (v := .ref (w 9)) (C := RX7) (T := TX7) (N := 18) hx hb hts hi7 hown hK hP 0 rfl rfl 8 (by decide) (hts (.fieldLink RX7 37 "TallyLogsModel" "mode" "[I") (by decide +kernel)) (fun _ h9 => h9) rfl dX7_count_38 ?_
        refine lv_iload_n hx hb dX7_count_41 rfl (lv_at hl 1 rfl) ?_
        refine lv_iconst (v := 2) hx hb dX7_count_42 (by decide) ?_
        refine lv_isub hx hb dX7_count_43 ?_
        refine lv_topi (fun v314 ev314 => ?_)
        have hin315 : vp_in v314 6 := by
          have kc311 := (not_congr (sp_in_0 wh 0 7)).mp c311; have kc312 := c312; have kc313 := c313; simp only [xk_eq, Int32.toInt_toInt64, xk_lt, xk_le, xk_0, xk_1, xk_2, xk_3, xk_4, xk_5, xk_6, xk_7, xk_8, xk_50, xl_0, xl_1, xl_3, xl_4, xl_5, xl_6, xl_7, xl_50] at kc311 kc312 kc313
          rw [ev314]
          have kk := xct (w := wh) (by rw [xk_lt, xk_2]; omega) (by rw [xk_lt, xk_8]; omega)
          exact xin_of kk.1 kk.2
        refine va_iald hx hb hK hP 8 1 rfl rfl hin315 dX7_count_44 ?_
        refine W.eq (g2 := F0 m 45 ls [.int 0]) rfl ?_
        exact W.iret (v := 0) hx hb hr (fun t ht hW => ⟨0, rfl, by show _ = _; have kc311 := (not_congr (sp_in_0 wh 0 7)).mp c311; have kc312 := c312; have kc313 := c313; simp only [xk_eq, Int32.toInt_toInt64, xk_lt, xk_le, xk_0, xk_1, xk_2, xk_3, xk_4, xk_5, xk_6, xk_7, xk_8, xk_50, xl_0, xl_1, xl_3, xl_4, xl_5, xl_6, xl_7, xl_50] at kc311 kc312 kc313; unfold sp_ct; (repeat' split); all_goals first | rfl | omega | (exfalso; omega) | contradiction, ht⟩) (fun _ h => by cases h) dX7_count_45
      · refine lv_aload_n hx hb dX7_count_30 rfl (lv_at hl 0 rfl) ?_
        refine va_get (D := (dC, dI)) (ci := 7) (v := .int 31) (C := RX7) (T := TX7) (N := 18) hx hb hts hi7 hown hK hP 0 rfl rfl 16 (by decide) (hts (.fieldLink RX7 61 "TallyLogsModel" "up" "I") (by decide +kernel)) (fun _ h9 => h9) rfl dX7_count_31 ?_
        refine lv_goto (tgt := 45) hx hb dX7_count_34 (by decide) ?_
        exact W.iret (v := 31) hx hb hr (fun t ht hW => ⟨31, rfl, by show _ = _; have kc311 := (not_congr (sp_in_0 wh 0 7)).mp c311; have kc312 := c312; have kc313 := c313; simp only [xk_eq, Int32.toInt_toInt64, xk_lt, xk_le, xk_0, xk_1, xk_2, xk_3, xk_4, xk_5, xk_6, xk_7, xk_8, xk_50, xl_0, xl_1, xl_3, xl_4, xl_5, xl_6, xl_7, xl_50] at kc311 kc312 kc313; unfold sp_ct; (repeat' split); all_goals first | rfl | omega | (exfalso; omega) | contradiction, ht⟩) (fun _ h => by cases h) dX7_count_45
    · refine lv_aload_n hx hb dX7_count_18 rfl (lv_at hl 0 rfl) ?_
      refine va_get (D := (dC, dI)) (ci := 7) (v := .int 0) (C := RX7) (T := TX7) (N := 18) hx hb hts hi7 hown hK hP 0 rfl rfl 17 (by decide) (hts (.fieldLink RX7 119 "TallyLogsModel" "now" "I") (by decide +kernel)) (fun _ h9 => h9) rfl dX7_count_19 ?_
      refine lv_goto (tgt := 45) hx hb dX7_count_22 (by decide) ?_
      exact W.iret (v := 0) hx hb hr (fun t ht hW => ⟨0, rfl, by show _ = _; have kc311 := (not_congr (sp_in_0 wh 0 7)).mp c311; have kc312 := c312; simp only [xk_eq, Int32.toInt_toInt64, xk_lt, xk_le, xk_0, xk_1, xk_2, xk_3, xk_4, xk_5, xk_6, xk_7, xk_8, xk_50, xl_0, xl_1, xl_3, xl_4, xl_5, xl_6, xl_7, xl_50] at kc311 kc312; unfold sp_ct; (repeat' split); all_goals first | rfl | omega | (exfalso; omega) | contradiction, ht⟩) (fun _ h => by cases h) dX7_count_45
  · refine lv_iconst (v := (-1)) hx hb dX7_count_12 (by decide) ?_
    exact W.iret (v := (-1)) hx hb hr (fun t ht hW => ⟨(-1), rfl, by show _ = _; have kc311 := (sp_in_0 wh 0 7).mp c311; simp only [xk_eq, Int32.toInt_toInt64, xk_lt, xk_le, xk_0, xk_1, xk_2, xk_3, xk_4, xk_5, xk_6, xk_7, xk_8, xk_50, xl_0, xl_1, xl_3, xl_4, xl_5, xl_6, xl_7, xl_50] at kc311; unfold sp_ct; (repeat' split); all_goals first | rfl | omega | (exfalso; omega) | contradiction, ht⟩) (fun _ h => by cases h) dX7_count_13
