set_option maxHeartbeats 4000000 in
set_option maxRecDepth 100000 in
/-- tick -/
theorem c_X7_tick (l : Launch) (dC : Nat → ClassId) (dI : Nat → Nat → Nat) (w : Nat → Nat) (cz ci : ClassId) (sz : Nat) (xn : Int32) : Met l yX7_tick wsX7_tick ({ frames := 1, cells := 0, slots := 0, locals := 25 }) (va_Pc [.ref (w 0), .int xn] (fun U => U.heap.size = sz ∧ (va_P (dC, dI) vwCl (mxW w cz ci) U.heap ∧ va_K (dC, dI) vwCl (mxT cz ci) U) ∧ va_D (fun _ => True) (mxW w cz ci))) (va_Qi (fun (r : Int32) (_ : Unit) => r = sp_tk xn) (fun _ _ => True) (va_A (mxW w cz ci) sz)) 0 0 (va_A (mxW w cz ci) sz) := by
  refine Met.ofW (cc := cX7_tick) (maxL := 5) (ret := (some .int)) (by decide) rfl ?_
  intro p e s m args below meth c s₁ B hml hv
  obtain ⟨rfl, hsz, ⟨hP, hK⟩, hD0⟩ := hv
  have hx := B.exec
  have hb := B.bytes
  have hr := B.returns
  have hts := atoms_spec (ws := wsX7_tick) B.pre
  have hown : s.vm.findClass RX7 = some m.cls := findClass_of_methodNamed B.named
  have hlocks := B.notSynchronized
  have hi7 : ∀ w ∈ wsX70, w ∈ wsX7_tick := by decide +kernel
  have hl := lv_entry ([.ref (w 0), .int xn]) (n := 5) (Nat.le_of_ble_eq_true rfl)
  rw [lg_entry_eq]
  generalize (lg_sl ([.ref (w 0), .int xn]) ++ List.replicate (5 - (lg_sl ([.ref (w 0), .int xn])).length) Slot.unset).toArray = ls at hl ⊢
  have hl : lv_has ls 5 [(0, .ref (w 0)), (1, .int xn)] := hl
  subst hsz
  have hD := hD0.self (sz := s.heap.size)
  generalize hAe : va_A (mxW w cz ci) s.heap.size = A at hD ⊢
  have hA : ∀ q : Nat, s.heap.size ≤ q → A q := fun q h => by rw [← hAe]; exact Or.inr h
  have hS : va_S A s.heap s.heap [] := va_S.rf
  refine lv_iload_n hx hb dX7_tick_0 rfl (lv_at hl 1 rfl) ?_
  refine lv_i2l (v := xn.toInt64) hx hb dX7_tick_1 rfl ?_
  refine lv_lconst (v := 1) hx hb dX7_tick_2 (by decide) ?_
  refine lv_ldc2 hx hb hown (hts (.constantLong RX7 178 50) (by decide +kernel)) dX7_tick_3 ?_
  refine vp_callSi (W.runS (As := [.long xn.toInt64, .long 1, .long 50]) (rest := []) ⟨hx, hb, hml, hown, hts⟩ (c_X7_in l xn.toInt64 1 50) (va_cwS 3 hts gX7_tick_X7_in rfl rfl rfl (by decide +kernel) ⟨Nat.le_of_ble_eq_true rfl, Nat.le_of_ble_eq_true rfl⟩) preEq rfl rfl hl.1 rfl (lv_room (Nat.le_of_ble_eq_true rfl)) dX7_tick_6 ⟨Nat.le_of_ble_eq_true rfl, Nat.le_of_ble_eq_true rfl⟩) (fun r401 hr401 => ?_)
  subst hr401
  refine lv_if_ne (tgt := 14) hx hb dX7_tick_9 (by decide) (fun c402 => ?_) (fun c402 => ?_)
  · refine lv_aload_n hx hb dX7_tick_14 rfl (lv_at hl 0 rfl) ?_
    refine lv_dup hx hb dX7_tick_15 rfl ?_
    refine va_get (D := (dC, dI)) (ci := 7) (v := .int 0) (C := RX7) (T := TX7) (N := 18) hx hb hts hi7 hown hK hP 0 rfl rfl 17 (by decide) (hts (.fieldLink RX7 119 "TallyLogsModel" "now" "I") (by decide +kernel)) (fun _ h9 => h9) rfl dX7_tick_16 ?_
    refine lv_iload_n hx hb dX7_tick_19 rfl (lv_at hl 1 rfl) ?_
    refine lv_iadd hx hb dX7_tick_20 ?_
    refine lv_topi (fun v403 ev403 => ?_)
    refine va_put (D := (dC, dI)) (ci := 7) (v := .int v403) (ty := .int) (C := RX7) (T := TX7) (N := 18) hx hb hts hi7 tyX7 tyX7_ok nmX7 hown hK hP hD hS 0 rfl rfl 17 (by decide) (hts (.fieldLink RX7 119 "TallyLogsModel" "now" "I") (by decide +kernel)) (fun _ h9 => h9) rfl (by decide +kernel) rfl rfl (Nat.le_of_ble_eq_true rfl) dX7_tick_21 (fun H locs hP hD hS => ?_)
    refine lv_iconst (v := 0) hx hb dX7_tick_24 (by decide) ?_
    refine lv_istore_n (lv' := [(2, .int 0), (0, .ref (w 0)), (1, .int xn)]) hx hb dX7_tick_25 rfl hl (by decide) rfl (fun ls hl => ?_)
    refine lv_iconst (v := 0) hx hb dX7_tick_26 (by decide) ?_
    refine lv_istore_n (lv' := [(3, .int 0), (2, .int 0), (0, .ref (w 0)), (1, .int xn)]) hx hb dX7_tick_27 rfl hl (by decide) rfl (fun ls hl => ?_)
    refine lv_iload_n hx hb dX7_tick_28 rfl (lv_at hl 0 rfl) ?_
    refine lv_iconst (v := 4) hx hb dX7_tick_29 (by decide) ?_
    refine lv_icmp_ge (tgt := 147) hx hb dX7_tick_30 (by decide) (fun c404 => ?_) (fun c404 => ?_)
    · exact absurd c404 (by decide)
    refine lv_aload_n hx hb dX7_tick_33 rfl (lv_at hl 2 rfl) ?_
    refine va_get (D := (dC, dI)) (ci := 7) (v := .ref (w 2)) (C := RX7) (T := TX7) (N := 18) hx hb hts hi7 hown hK hP 0 rfl rfl 1 (by decide) (hts (.fieldLink RX7 14 "TallyLogsModel" "there" "[Z") (by decide +kernel)) (fun _ h9 => h9) rfl dX7_tick_34 ?_
    refine lv_iload_n hx hb dX7_tick_37 rfl (lv_at hl 0 rfl) ?_
    refine va_zald hx hb hK hP 1 0 rfl rfl (by unfold vp_in; decide) dX7_tick_38 ?_
    refine W.eq (g2 := F0 m 39 ls [.int 0]) rfl ?_
    refine lv_if_eq (tgt := 141) hx hb dX7_tick_39 (by decide) (fun c405 => ?_) (fun c405 => ?_)
    rotate_left
    · exact absurd c405 (by decide)
    refine lv_iinc (v := 1) (lv' := [(3, .int 1), (2, .int 0), (0, .ref (w 0)), (1, .int xn)]) hx hb dX7_tick_141 hl (k := 0) rfl (by decide) (by decide) rfl (fun ls hl => ?_)
    refine lv_goto (tgt := 28) hx hb dX7_tick_144 (by decide) ?_
    refine lv_iload_n hx hb dX7_tick_28 rfl (lv_at hl 0 rfl) ?_
    refine lv_iconst (v := 4) hx hb dX7_tick_29 (by decide) ?_
    refine lv_icmp_ge (tgt := 147) hx hb dX7_tick_30 (by decide) (fun c406 => ?_) (fun c406 => ?_)
    · exact absurd c406 (by decide)
    refine lv_aload_n hx hb dX7_tick_33 rfl (lv_at hl 2 rfl) ?_
    refine va_get (D := (dC, dI)) (ci := 7) (v := .ref (w 2)) (C := RX7) (T := TX7) (N := 18) hx hb hts hi7 hown hK hP 0 rfl rfl 1 (by decide) (hts (.fieldLink RX7 14 "TallyLogsModel" "there" "[Z") (by decide +kernel)) (fun _ h9 => h9) rfl dX7_tick_34 ?_
    refine lv_iload_n hx hb dX7_tick_37 rfl (lv_at hl 0 rfl) ?_
    refine va_zald hx hb hK hP 1 0 rfl rfl (by unfold vp_in; decide) dX7_tick_38 ?_
    refine W.eq (g2 := F0 m 39 ls [.int 0]) rfl ?_
    refine lv_if_eq (tgt := 141) hx hb dX7_tick_39 (by decide) (fun c407 => ?_) (fun c407 => ?_)
    rotate_left
    · exact absurd c407 (by decide)
    refine lv_iinc (v := 2) (lv' := [(3, .int 2), (2, .int 0), (0, .ref (w 0)), (1, .int xn)]) hx hb dX7_tick_141 hl (k := 0) rfl (by decide) (by decide) rfl (fun ls hl => ?_)
    refine lv_goto (tgt := 28) hx hb dX7_tick_144 (by decide) ?_
    refine lv_iload_n hx hb dX7_tick_28 rfl (lv_at hl 0 rfl) ?_
    refine lv_iconst (v := 4) hx hb dX7_tick_29 (by decide) ?_
    refine lv_icmp_ge (tgt := 147) hx hb dX7_tick_30 (by decide) (fun c408 => ?_) (fun c408 => ?_)
    · exact absurd c408 (by decide)
    refine lv_aload_n hx hb dX7_tick_33 rfl (lv_at hl 2 rfl) ?_
    refine va_get (D := (dC, dI)) (ci := 7) (v := .ref (w 2)) (C := RX7) (T := TX7) (N := 18) hx hb hts hi7 hown hK hP 0 rfl rfl 1 (by decide) (hts (.fieldLink RX7 14 "TallyLogsModel" "there" "[Z") (by decide +kernel)) (fun _ h9 => h9) rfl dX7_tick_34 ?_
    refine lv_iload_n hx hb dX7_tick_37 rfl (lv_at hl 0 rfl) ?_
    refine va_zald hx hb hK hP 1 0 rfl rfl (by unfold vp_in; decide) dX7_tick_38 ?_
    refine W.eq (g2 := F0 m 39 ls [.int 0]) rfl ?_
    refine lv_if_eq (tgt := 141) hx hb dX7_tick_39 (by decide) (fun c409 => ?_) (fun c409 => ?_)
    rotate_left
    · exact absurd c409 (by decide)
    refine lv_iinc (v := 3) (lv' := [(3, .int 3), (2, .int 0), (0, .ref (w 0)), (1, .int xn)]) hx hb dX7_tick_141 hl (k := 0) rfl (by decide) (by decide) rfl (fun ls hl => ?_)
    refine lv_goto (tgt := 28) hx hb dX7_tick_144 (by decide) ?_
    refine lv_iload_n hx hb dX7_tick_28 rfl (lv_at hl 0 rfl) ?_
    refine lv_iconst (v := 4) hx hb dX7_tick_29 (by decide) ?_
    refine lv_icmp_ge (tgt := 147) hx hb dX7_tick_30 (by decide) (fun c410 => ?_) (fun c410 => ?_)
    · exact absurd c410 (by decide)
    refine lv_aload_n hx hb dX7_tick_33 rfl (lv_at hl 2 rfl) ?_
    refine va_get (D := (dC, dI)) (ci := 7) (v := .ref (w 2)) (C := RX7) (T := TX7) (N := 18) hx hb hts hi7 hown hK hP 0 rfl rfl 1 (by decide) (hts (.fieldLink RX7 14 "TallyLogsModel" "there" "[Z") (by decide +kernel)) (fun _ h9 => h9) rfl dX7_tick_34 ?_
    refine lv_iload_n hx hb dX7_tick_37 rfl (lv_at hl 0 rfl) ?_
    refine va_zald hx hb hK hP 1 0 rfl rfl (by unfold vp_in; decide) dX7_tick_38 ?_
    refine W.eq (g2 := F0 m 39 ls [.int 0]) rfl ?_
    refine lv_if_eq (tgt := 141) hx hb dX7_tick_39 (by decide) (fun c411 => ?_) (fun c411 => ?_)
    rotate_left
    · exact absurd c411 (by decide)
    refine lv_iinc (v := 4) (lv' := [(3, .int 4), (2, .int 0), (0, .ref (w 0)), (1, .int xn)]) hx hb dX7_tick_141 hl (k := 0) rfl (by decide) (by decide) rfl (fun ls hl => ?_)
    refine lv_goto (tgt := 28) hx hb dX7_tick_144 (by decide) ?_
    refine lv_iload_n hx hb dX7_tick_28 rfl (lv_at hl 0 rfl) ?_
    refine lv_iconst (v := 4) hx hb dX7_tick_29 (by decide) ?_
    refine lv_icmp_ge (tgt := 147) hx hb dX7_tick_30 (by decide) (fun c412 => ?_) (fun c412 => ?_)
    rotate_left
    · exact absurd c412 (by decide)
    refine lv_iload_n hx hb dX7_tick_147 rfl (lv_at hl 1 rfl) ?_
    exact W.iret (v := 0) hx hb hr (fun t ht hW => ⟨⟨0, (), rfl, by show _ = _; have kc402 := (not_congr (sp_in_0 xn 1 50)).mp c402; simp only [xk_eq, Int32.toInt_toInt64, xk_lt, xk_le, xk_0, xk_1, xk_2, xk_3, xk_4, xk_5, xk_6, xk_7, xk_8, xk_50, xl_0, xl_1, xl_3, xl_4, xl_5, xl_6, xl_7, xl_50] at kc402; unfold sp_tk; (repeat' split); all_goals first | rfl | omega | (exfalso; omega) | contradiction, trivial⟩, hS.F ht⟩) hS.2.2 dX7_tick_148
  · refine lv_iconst (v := (-1)) hx hb dX7_tick_12 (by decide) ?_
    exact W.iret (v := (-1)) hx hb hr (fun t ht hW => ⟨⟨(-1), (), rfl, by show _ = _; have kc402 := (sp_in_0 xn 1 50).mp c402; simp only [xk_eq, Int32.toInt_toInt64, xk_lt, xk_le, xk_0, xk_1, xk_2, xk_3, xk_4, xk_5, xk_6, xk_7, xk_8, xk_50, xl_0, xl_1, xl_3, xl_4, xl_5, xl_6, xl_7, xl_50] at kc402; unfold sp_tk; (repeat' split); all_goals first | rfl | omega | (exfalso; omega) | contradiction, trivial⟩, hS.F ht⟩) hS.2.2 dX7_tick_13
set_option maxHeartbeats 4000000 in
set_option maxRecDepth 100000 in
/-- crash -/
theorem c_X7_crash (l : Launch) (dC : Nat → ClassId) (dI : Nat → Nat → Nat) (w : Nat → Nat) (cz ci : ClassId) (sz : Nat) (xn : Int32) (xk : Int32) : Met l yX7_crash wsX7_crash ({ frames := 2, cells := 0, slots := 0, locals := 46 }) (va_Pc [.ref (w 0), .int xn, .int xk] (fun U => U.heap.size = sz ∧ (va_P (dC, dI) vwCl (mxW w cz ci) U.heap ∧ va_K (dC, dI) vwCl (mxT cz ci) U) ∧ va_D (fun _ => True) (mxW w cz ci))) (va_Qi (fun (r : Int32) (_ : Unit) => r = sp_cr xn xk) (fun _ _ => True) (va_A (mxW w cz ci) sz)) 0 0 (va_A (mxW w cz ci) sz) := by
  refine Met.ofW (cc := cX7_crash) (maxL := 6) (ret := (some .int)) (by decide) rfl ?_
  intro p e s m args below meth c s₁ B hml hv
  obtain ⟨rfl, hsz, ⟨hP, hK⟩, hD0⟩ := hv
  have hx := B.exec
  have hb := B.bytes
  have hr := B.returns
  have hts := atoms_spec (ws := wsX7_crash) B.pre
  have hown : s.vm.findClass RX7 = some m.cls := findClass_of_methodNamed B.named
  have hlocks := B.notSynchronized
  have hi7 : ∀ w ∈ wsX70, w ∈ wsX7_crash := by decide +kernel
  have hl := lv_entry ([.ref (w 0), .int xn, .int xk]) (n := 6) (Nat.le_of_ble_eq_true rfl)
  rw [lg_entry_eq]
  generalize (lg_sl ([.ref (w 0), .int xn, .int xk]) ++ List.replicate (6 - (lg_sl ([.ref (w 0), .int xn, .int xk])).length) Slot.unset).toArray = ls at hl ⊢
  have hl : lv_has ls 6 [(0, .ref (w 0)), (1, .int xn), (2, .int xk)] := hl
  subst hsz
  have hD := hD0.self (sz := s.heap.size)
  generalize hAe : va_A (mxW w cz ci) s.heap.size = A at hD ⊢
  have hA : ∀ q : Nat, s.heap.size ≤ q → A q := fun q h => by rw [← hAe]; exact Or.inr h
  have hS : va_S A s.heap s.heap [] := va_S.rf
  refine lv_aload_n hx hb dX7_crash_0 rfl (lv_at hl 0 rfl) ?_
  refine lv_iload_n hx hb dX7_crash_1 rfl (lv_at hl 1 rfl) ?_
  refine vp_callSi (W.runV (As := [.int xn]) (rest := []) ⟨hx, hb, hml, hown, hts⟩ (c_X7_isUp l dC dI w cz ci xn) (cwV 1 hts gX7_crash_X7_isUp rfl rfl rfl (by decide +kernel) ⟨Nat.le_of_ble_eq_true rfl, Nat.le_of_ble_eq_true rfl⟩) ⟨mx_blind, va_recv hK hP (ci := 7) (q0 := 0) rfl rfl, fun U hU hW => ⟨rfl, mx_pre hP hK hU hW⟩⟩ rfl rfl hl.1 rfl (lv_room (Nat.le_of_ble_eq_true rfl)) dX7_crash_2 ⟨Nat.le_of_ble_eq_true rfl, Nat.le_of_ble_eq_true rfl⟩) (fun r413 hr413 => ?_)
  subst hr413
  refine lv_if_eq (tgt := 12) hx hb dX7_crash_5 (by decide) (fun c414 => ?_) (fun c414 => ?_)
  · refine lv_iconst (v := (-1)) hx hb dX7_crash_12 (by decide) ?_
    exact W.iret (v := (-1)) hx hb hr (fun t ht hW => ⟨⟨(-1), (), rfl, by show _ = _; have kc414 := (sp_up_0 xn).mp c414; unfold sp_cr; (repeat' split); all_goals first | rfl | omega | (exfalso; omega) | contradiction, trivial⟩, hS.F ht⟩) hS.2.2 dX7_crash_13
  · refine lv_iload_n hx hb dX7_crash_8 rfl (lv_at hl 2 rfl) ?_
    refine lv_if_ge (tgt := 14) hx hb dX7_crash_9 (by decide) (fun c415 => ?_) (fun c415 => ?_)
    · refine lv_aload_n hx hb dX7_crash_14 rfl (lv_at hl 0 rfl) ?_
      refine lv_dup hx hb dX7_crash_15 rfl ?_
      refine va_get (D := (dC, dI)) (ci := 7) (v := .int 31) (C := RX7) (T := TX7) (N := 18) hx hb hts hi7 hown hK hP 0 rfl rfl 16 (by decide) (hts (.fieldLink RX7 61 "TallyLogsModel" "up" "I") (by decide +kernel)) (fun _ h9 => h9) rfl dX7_crash_16 ?_
      refine lv_iconst (v := 1) hx hb dX7_crash_19 (by decide) ?_
      refine lv_iload_n hx hb dX7_crash_20 rfl (lv_at hl 1 rfl) ?_
      refine lv_ishl hx hb dX7_crash_21 ?_
      refine lv_topi (fun v416 ev416 => ?_)
      refine lv_iconst (v := (-1)) hx hb dX7_crash_22 (by decide) ?_
      refine lv_ixor hx hb dX7_crash_23 ?_
      refine lv_topi (fun v417 ev417 => ?_)
      refine lv_iand hx hb dX7_crash_24 ?_
      refine lv_topi (fun v418 ev418 => ?_)
      refine va_put (D := (dC, dI)) (ci := 7) (v := .int v418) (ty := .int) (C := RX7) (T := TX7) (N := 18) hx hb hts hi7 tyX7 tyX7_ok nmX7 hown hK hP hD hS 0 rfl rfl 16 (by decide) (hts (.fieldLink RX7 61 "TallyLogsModel" "up" "I") (by decide +kernel)) (fun _ h9 => h9) rfl (by decide +kernel) rfl rfl (Nat.le_of_ble_eq_true rfl) dX7_crash_25 (fun H locs hP hD hS => ?_)
      refine lv_iconst (v := 0) hx hb dX7_crash_28 (by decide) ?_
      refine lv_istore_n (lv' := [(3, .int 0), (0, .ref (w 0)), (1, .int xn), (2, .int xk)]) hx hb dX7_crash_29 rfl hl (by decide) rfl (fun ls hl => ?_)
      refine lv_iconst (v := 0) hx hb dX7_crash_30 (by decide) ?_
      refine lv_istore (lv' := [(4, .int 0), (3, .int 0), (0, .ref (w 0)), (1, .int xn), (2, .int xk)]) hx hb dX7_crash_31 hl (by decide) rfl (fun ls hl => ?_)
      refine lv_iload hx hb dX7_crash_33 (lv_at hl 0 rfl) ?_
      refine lv_iconst (v := 4) hx hb dX7_crash_35 (by decide) ?_
      refine lv_icmp_ge (tgt := 195) hx hb dX7_crash_36 (by decide) (fun c419 => ?_) (fun c419 => ?_)
      · exact absurd c419 (by decide)
      refine lv_aload_n hx hb dX7_crash_39 rfl (lv_at hl 2 rfl) ?_
      refine va_get (D := (dC, dI)) (ci := 7) (v := .ref (w 2)) (C := RX7) (T := TX7) (N := 18) hx hb hts hi7 hown hK hP 0 rfl rfl 1 (by decide) (hts (.fieldLink RX7 14 "TallyLogsModel" "there" "[Z") (by decide +kernel)) (fun _ h9 => h9) rfl dX7_crash_40 ?_
      refine lv_iload hx hb dX7_crash_43 (lv_at hl 0 rfl) ?_
      refine va_zald hx hb hK hP 1 0 rfl rfl (by unfold vp_in; decide) dX7_crash_45 ?_
      refine W.eq (g2 := F0 m 46 ls [.int 0]) rfl ?_
      refine lv_if_ne (tgt := 52) hx hb dX7_crash_46 (by decide) (fun c420 => ?_) (fun c420 => ?_)
      · exact absurd c420 (by decide)
      refine lv_goto (tgt := 189) hx hb dX7_crash_49 (by decide) ?_
      refine lv_iinc (v := 1) (lv' := [(4, .int 1), (3, .int 0), (0, .ref (w 0)), (1, .int xn), (2, .int xk)]) hx hb dX7_crash_189 hl (k := 0) rfl (by decide) (by decide) rfl (fun ls hl => ?_)
      refine lv_goto (tgt := 33) hx hb dX7_crash_192 (by decide) ?_
      refine lv_iload hx hb dX7_crash_33 (lv_at hl 0 rfl) ?_
      refine lv_iconst (v := 4) hx hb dX7_crash_35 (by decide) ?_
      refine lv_icmp_ge (tgt := 195) hx hb dX7_crash_36 (by decide) (fun c421 => ?_) (fun c421 => ?_)
      · exact absurd c421 (by decide)
      refine lv_aload_n hx hb dX7_crash_39 rfl (lv_at hl 2 rfl) ?_
      refine va_get (D := (dC, dI)) (ci := 7) (v := .ref (w 2)) (C := RX7) (T := TX7) (N := 18) hx hb hts hi7 hown hK hP 0 rfl rfl 1 (by decide) (hts (.fieldLink RX7 14 "TallyLogsModel" "there" "[Z") (by decide +kernel)) (fun _ h9 => h9) rfl dX7_crash_40 ?_
      refine lv_iload hx hb dX7_crash_43 (lv_at hl 0 rfl) ?_
      refine va_zald hx hb hK hP 1 0 rfl rfl (by unfold vp_in; decide) dX7_crash_45 ?_
      refine W.eq (g2 := F0 m 46 ls [.int 0]) rfl ?_
      refine lv_if_ne (tgt := 52) hx hb dX7_crash_46 (by decide) (fun c422 => ?_) (fun c422 => ?_)
      · exact absurd c422 (by decide)
      refine lv_goto (tgt := 189) hx hb dX7_crash_49 (by decide) ?_
      refine lv_iinc (v := 2) (lv' := [(4, .int 2), (3, .int 0), (0, .ref (w 0)), (1, .int xn), (2, .int xk)]) hx hb dX7_crash_189 hl (k := 0) rfl (by decide) (by decide) rfl (fun ls hl => ?_)
      refine lv_goto (tgt := 33) hx hb dX7_crash_192 (by decide) ?_
      refine lv_iload hx hb dX7_crash_33 (lv_at hl 0 rfl) ?_
      refine lv_iconst (v := 4) hx hb dX7_crash_35 (by decide) ?_
      refine lv_icmp_ge (tgt := 195) hx hb dX7_crash_36 (by decide) (fun c423 => ?_) (fun c423 => ?_)
      · exact absurd c423 (by decide)
      refine lv_aload_n hx hb dX7_crash_39 rfl (lv_at hl 2 rfl) ?_
      refine va_get (D := (dC, dI)) (ci := 7) (v := .ref (w 2)) (C := RX7) (T := TX7) (N := 18) hx hb hts hi7 hown hK hP 0 rfl rfl 1 (by decide) (hts (.fieldLink RX7 14 "TallyLogsModel" "there" "[Z") (by decide +kernel)) (fun _ h9 => h9) rfl dX7_crash_40 ?_
      refine lv_iload hx hb dX7_crash_43 (lv_at hl 0 rfl) ?_
      refine va_zald hx hb hK hP 1 0 rfl rfl (by unfold vp_in; decide) dX7_crash_45 ?_
      refine W.eq (g2 := F0 m 46 ls [.int 0]) rfl ?_
      refine lv_if_ne (tgt := 52) hx hb dX7_crash_46 (by decide) (fun c424 => ?_) (fun c424 => ?_)
      · exact absurd c424 (by decide)
      refine lv_goto (tgt := 189) hx hb dX7_crash_49 (by decide) ?_
      refine lv_iinc (v := 3) (lv' := [(4, .int 3), (3, .int 0), (0, .ref (w 0)), (1, .int xn), (2, .int xk)]) hx hb dX7_crash_189 hl (k := 0) rfl (by decide) (by decide) rfl (fun ls hl => ?_)
      refine lv_goto (tgt := 33) hx hb dX7_crash_192 (by decide) ?_
      refine lv_iload hx hb dX7_crash_33 (lv_at hl 0 rfl) ?_
      refine lv_iconst (v := 4) hx hb dX7_crash_35 (by decide) ?_
      refine lv_icmp_ge (tgt := 195) hx hb dX7_crash_36 (by decide) (fun c425 => ?_) (fun c425 => ?_)
      · exact absurd c425 (by decide)
      refine lv_aload_n hx hb dX7_crash_39 rfl (lv_at hl 2 rfl) ?_
      refine va_get (D := (dC, dI)) (ci := 7) (v := .ref (w 2)) (C := RX7) (T := TX7) (N := 18) hx hb hts hi7 hown hK hP 0 rfl rfl 1 (by decide) (hts (.fieldLink RX7 14 "TallyLogsModel" "there" "[Z") (by decide +kernel)) (fun _ h9 => h9) rfl dX7_crash_40 ?_
      refine lv_iload hx hb dX7_crash_43 (lv_at hl 0 rfl) ?_
      refine va_zald hx hb hK hP 1 0 rfl rfl (by unfold vp_in; decide) dX7_crash_45 ?_
      refine W.eq (g2 := F0 m 46 ls [.int 0]) rfl ?_
      refine lv_if_ne (tgt := 52) hx hb dX7_crash_46 (by decide) (fun c426 => ?_) (fun c426 => ?_)
      · exact absurd c426 (by decide)
      refine lv_goto (tgt := 189) hx hb dX7_crash_49 (by decide) ?_
      refine lv_iinc (v := 4) (lv' := [(4, .int 4), (3, .int 0), (0, .ref (w 0)), (1, .int xn), (2, .int xk)]) hx hb dX7_crash_189 hl (k := 0) rfl (by decide) (by decide) rfl (fun ls hl => ?_)
      refine lv_goto (tgt := 33) hx hb dX7_crash_192 (by decide) ?_
      refine lv_iload hx hb dX7_crash_33 (lv_at hl 0 rfl) ?_
      refine lv_iconst (v := 4) hx hb dX7_crash_35 (by decide) ?_
      refine lv_icmp_ge (tgt := 195) hx hb dX7_crash_36 (by decide) (fun c427 => ?_) (fun c427 => ?_)
      rotate_left
      · exact absurd c427 (by decide)
      refine lv_iload_n hx hb dX7_crash_195 rfl (lv_at hl 1 rfl) ?_
      exact W.iret (v := 0) hx hb hr (fun t ht hW => ⟨⟨0, (), rfl, by show _ = _; have kc414 := (not_congr (sp_up_0 xn)).mp c414; have kc415 := c415; simp only [xk_eq, Int32.toInt_toInt64, xk_lt, xk_le, xk_0, xk_1, xk_2, xk_3, xk_4, xk_5, xk_6, xk_7, xk_8, xk_50, xl_0, xl_1, xl_3, xl_4, xl_5, xl_6, xl_7, xl_50] at kc415; unfold sp_cr; (repeat' split); all_goals first | rfl | omega | (exfalso; omega) | contradiction, trivial⟩, hS.F ht⟩) hS.2.2 dX7_crash_196
    · refine lv_iconst (v := (-1)) hx hb dX7_crash_12 (by decide) ?_
      exact W.iret (v := (-1)) hx hb hr (fun t ht hW => ⟨⟨(-1), (), rfl, by show _ = _; have kc414 := (not_congr (sp_up_0 xn)).mp c414; have kc415 := c415; simp only [xk_eq, Int32.toInt_toInt64, xk_lt, xk_le, xk_0, xk_1, xk_2, xk_3, xk_4, xk_5, xk_6, xk_7, xk_8, xk_50, xl_0, xl_1, xl_3, xl_4, xl_5, xl_6, xl_7, xl_50] at kc415; unfold sp_cr; (repeat' split); all_goals first | rfl | omega | (exfalso; omega) | contradiction, trivial⟩, hS.F ht⟩) hS.2.2 dX7_crash_13
set_option maxHeartbeats 4000000 in
set_option maxRecDepth 100000 in
/-- register -/
theorem c_X7_register (l : Launch) (dC : Nat → ClassId) (dI : Nat → Nat → Nat) (w : Nat → Nat) (cz ci : ClassId) (sz : Nat) (xk : Int32) : Met l yX7_register wsX7_register ({ frames := 1, cells := 0, slots := 0, locals := 25 }) (va_Pc [.ref (w 0), .int xk] (fun U => U.heap.size = sz ∧ (va_P (dC, dI) vwCl (mxW w cz ci) U.heap ∧ va_K (dC, dI) vwCl (mxT cz ci) U) ∧ va_D (fun _ => True) (mxW w cz ci))) (va_Qi (fun (r : Int32) (_ : Unit) => r = sp_rg xk) (fun _ _ => True) (va_A (mxW w cz ci) sz)) 0 0 (va_A (mxW w cz ci) sz) := by
  refine Met.ofW (cc := cX7_register) (maxL := 2) (ret := (some .int)) (by decide) rfl ?_
  intro p e s m args below meth c s₁ B hml hv
  obtain ⟨rfl, hsz, ⟨hP, hK⟩, hD0⟩ := hv
  have hx := B.exec
  have hb := B.bytes
  have hr := B.returns
  have hts := atoms_spec (ws := wsX7_register) B.pre
  have hown : s.vm.findClass RX7 = some m.cls := findClass_of_methodNamed B.named
  have hlocks := B.notSynchronized
  have hi7 : ∀ w ∈ wsX70, w ∈ wsX7_register := by decide +kernel
  have hl := lv_entry ([.ref (w 0), .int xk]) (n := 2) (Nat.le_of_ble_eq_true rfl)
  rw [lg_entry_eq]
  generalize (lg_sl ([.ref (w 0), .int xk]) ++ List.replicate (2 - (lg_sl ([.ref (w 0), .int xk])).length) Slot.unset).toArray = ls at hl ⊢
  have hl : lv_has ls 2 [(0, .ref (w 0)), (1, .int xk)] := hl
  subst hsz
  have hD := hD0.self (sz := s.heap.size)
  generalize hAe : va_A (mxW w cz ci) s.heap.size = A at hD ⊢
  have hA : ∀ q : Nat, s.heap.size ≤ q → A q := fun q h => by rw [← hAe]; exact Or.inr h
  have hS : va_S A s.heap s.heap [] := va_S.rf
  refine lv_iload_n hx hb dX7_register_0 rfl (lv_at hl 1 rfl) ?_
  refine lv_i2l (v := xk.toInt64) hx hb dX7_register_1 rfl ?_
  refine lv_lconst (v := 0) hx hb dX7_register_2 (by decide) ?_
  refine lv_ldc2 hx hb hown (hts (.constantLong RX7 129 5) (by decide +kernel)) dX7_register_3 ?_
  refine vp_callSi (W.runS (As := [.long xk.toInt64, .long 0, .long 5]) (rest := []) ⟨hx, hb, hml, hown, hts⟩ (c_X7_in l xk.toInt64 0 5) (va_cwS 3 hts gX7_register_X7_in rfl rfl rfl (by decide +kernel) ⟨Nat.le_of_ble_eq_true rfl, Nat.le_of_ble_eq_true rfl⟩) preEq rfl rfl hl.1 rfl (lv_room (Nat.le_of_ble_eq_true rfl)) dX7_register_6 ⟨Nat.le_of_ble_eq_true rfl, Nat.le_of_ble_eq_true rfl⟩) (fun r428 hr428 => ?_)
  subst hr428
  refine lv_if_ne (tgt := 14) hx hb dX7_register_9 (by decide) (fun c429 => ?_) (fun c429 => ?_)
  · refine lv_aload_n hx hb dX7_register_14 rfl (lv_at hl 0 rfl) ?_
    refine va_get (D := (dC, dI)) (ci := 7) (v := .ref (w 9)) (C := RX7) (T := TX7) (N := 18) hx hb hts hi7 hown hK hP 0 rfl rfl 8 (by decide) (hts (.fieldLink RX7 37 "TallyLogsModel" "mode" "[I") (by decide +kernel)) (fun _ h9 => h9) rfl dX7_register_15 ?_
    refine lv_iload_n hx hb dX7_register_18 rfl (lv_at hl 1 rfl) ?_
    have hin430 : vp_in xk 6 := xin_of (by have kc429 := (not_congr (sp_in_0 xk 0 5)).mp c429; simp only [xk_eq, Int32.toInt_toInt64, xk_lt, xk_le, xk_0, xk_1, xk_2, xk_3, xk_4, xk_5, xk_6, xk_7, xk_8, xk_50, xl_0, xl_1, xl_3, xl_4, xl_5, xl_6, xl_7, xl_50] at kc429; omega) (by have kc429 := (not_congr (sp_in_0 xk 0 5)).mp c429; simp only [xk_eq, Int32.toInt_toInt64, xk_lt, xk_le, xk_0, xk_1, xk_2, xk_3, xk_4, xk_5, xk_6, xk_7, xk_8, xk_50, xl_0, xl_1, xl_3, xl_4, xl_5, xl_6, xl_7, xl_50] at kc429; omega)
    refine va_iald hx hb hK hP 8 1 rfl rfl hin430 dX7_register_19 ?_
    refine W.eq (g2 := F0 m 20 ls [.int 0]) rfl ?_
    refine lv_iconst (v := 1) hx hb dX7_register_20 (by decide) ?_
    refine lv_icmp_ne (tgt := 50) hx hb dX7_register_21 (by decide) (fun c431 => ?_) (fun c431 => ?_)
    rotate_left
    · exact absurd c431 (by decide)
    refine lv_aload_n hx hb dX7_register_50 rfl (lv_at hl 0 rfl) ?_
    refine va_get (D := (dC, dI)) (ci := 7) (v := .ref (w 8)) (C := RX7) (T := TX7) (N := 18) hx hb hts hi7 hown hK hP 0 rfl rfl 7 (by decide) (hts (.fieldLink RX7 34 "TallyLogsModel" "generation" "[I") (by decide +kernel)) (fun _ h9 => h9) rfl dX7_register_51 ?_
    refine lv_iload_n hx hb dX7_register_54 rfl (lv_at hl 1 rfl) ?_
    refine lv_dup2_11 hx hb dX7_register_55 rfl rfl ?_
    refine va_iald hx hb hK hP 7 1 rfl rfl hin430 dX7_register_56 ?_
    refine W.eq (g2 := F0 m 57 ls [.int (-1), .int xk, .ref (w 8)]) (by rw [spF_lt (vp_lt hin430)]) ?_
    refine lv_iconst (v := 1) hx hb dX7_register_57 (by decide) ?_
    refine lv_iadd hx hb dX7_register_58 ?_
    refine lv_topi (fun v432 ev432 => ?_)
    obtain rfl : v432 = (0 : Int32) := ev432.trans (by decide)
    refine va_iast hx hb hK hP hD hS 7 1 rfl rfl hin430 dX7_register_59  (fun H locs hP hD hS => ?_)
    refine lv_bipush (v := 8) hx hb dX7_register_60 (by decide) ?_
    refine lv_aload_n hx hb dX7_register_62 rfl (lv_at hl 0 rfl) ?_
    refine va_get (D := (dC, dI)) (ci := 7) (v := .ref (w 8)) (C := RX7) (T := TX7) (N := 18) hx hb hts hi7 hown hK hP 0 rfl rfl 7 (by decide) (hts (.fieldLink RX7 34 "TallyLogsModel" "generation" "[I") (by decide +kernel)) (fun _ h9 => h9) rfl dX7_register_63 ?_
    refine lv_iload_n hx hb dX7_register_66 rfl (lv_at hl 1 rfl) ?_
    refine va_iald hx hb hK hP 7 1 rfl rfl hin430 dX7_register_67 ?_
    refine W.eq (g2 := F0 m 68 ls [.int 0, .int 8]) (by rw [pk_us]) ?_
    refine lv_imul hx hb dX7_register_68 ?_
    refine lv_topi (fun v433 ev433 => ?_)
    obtain rfl : v433 = (0 : Int32) := ev433.trans (by decide)
    refine lv_iload_n hx hb dX7_register_69 rfl (lv_at hl 1 rfl) ?_
    refine lv_iadd hx hb dX7_register_70 ?_
    refine lv_topi (fun v434 ev434 => ?_)
    exact W.iret (v := v434) hx hb hr (fun t ht hW => ⟨⟨v434, (), rfl, by have kc429 := (not_congr (sp_in_0 xk 0 5)).mp c429; simp only [xk_eq, Int32.toInt_toInt64, xk_lt, xk_le, xk_0, xk_1, xk_2, xk_3, xk_4, xk_5, xk_6, xk_7, xk_8, xk_50, xl_0, xl_1, xl_3, xl_4, xl_5, xl_6, xl_7, xl_50] at kc429; subst ev434; rw [sp_rg, if_pos (by omega)]; exact Int32.zero_add xk, trivial⟩, hS.F ht⟩) hS.2.2 dX7_register_71
  · refine lv_iconst (v := (-1)) hx hb dX7_register_12 (by decide) ?_
    exact W.iret (v := (-1)) hx hb hr (fun t ht hW => ⟨⟨(-1), (), rfl, by show _ = _; have kc429 := (sp_in_0 xk 0 5).mp c429; simp only [xk_eq, Int32.toInt_toInt64, xk_lt, xk_le, xk_0, xk_1, xk_2, xk_3, xk_4, xk_5, xk_6, xk_7, xk_8, xk_50, xl_0, xl_1, xl_3, xl_4, xl_5, xl_6, xl_7, xl_50] at kc429; unfold sp_rg; (repeat' split); all_goals first | rfl | omega | (exfalso; omega) | contradiction, trivial⟩, hS.F ht⟩) hS.2.2 dX7_register_13
set_option maxHeartbeats 4000000 in
set_option maxRecDepth 100000 in
/-- member -/
theorem c_X7_member (l : Launch) (dC : Nat → ClassId) (dI : Nat → Nat → Nat) (w : Nat → Nat) (cz ci : ClassId) (sz : Nat) (xg : Int32) (xm : Int32) : Met l yX7_member wsX7_member ({ frames := 1, cells := 0, slots := 0, locals := 25 }) (va_Pc [.ref (w 0), .int xg, .int xm] (fun U => U.heap.size = sz ∧ (va_P (dC, dI) vwCl (mxW w cz ci) U.heap ∧ va_K (dC, dI) vwCl (mxT cz ci) U) ∧ va_D (fun _ => True) (mxW w cz ci))) (va_Qi (fun (r : Int32) (_ : Unit) => r = sp_mb xg xm) (fun _ _ => True) (va_A (mxW w cz ci) sz)) 0 0 (va_A (mxW w cz ci) sz) := by
  refine Met.ofW (cc := cX7_member) (maxL := 3) (ret := (some .int)) (by decide) rfl ?_
  intro p e s m args below meth c s₁ B hml hv
  obtain ⟨rfl, hsz, ⟨hP, hK⟩, hD0⟩ := hv
  have hx := B.exec
  have hb := B.bytes
  have hr := B.returns
  have hts := atoms_spec (ws := wsX7_member) B.pre
  have hown : s.vm.findClass RX7 = some m.cls := findClass_of_methodNamed B.named
  have hlocks := B.notSynchronized
  have hi7 : ∀ w ∈ wsX70, w ∈ wsX7_member := by decide +kernel
  have hl := lv_entry ([.ref (w 0), .int xg, .int xm]) (n := 3) (Nat.le_of_ble_eq_true rfl)
  rw [lg_entry_eq]
  generalize (lg_sl ([.ref (w 0), .int xg, .int xm]) ++ List.replicate (3 - (lg_sl ([.ref (w 0), .int xg, .int xm])).length) Slot.unset).toArray = ls at hl ⊢
  have hl : lv_has ls 3 [(0, .ref (w 0)), (1, .int xg), (2, .int xm)] := hl
  subst hsz
  have hD := hD0.self (sz := s.heap.size)
  generalize hAe : va_A (mxW w cz ci) s.heap.size = A at hD ⊢
  have hA : ∀ q : Nat, s.heap.size ≤ q → A q := fun q h => by rw [← hAe]; exact Or.inr h
  have hS : va_S A s.heap s.heap [] := va_S.rf
  refine lv_iload_n hx hb dX7_member_0 rfl (lv_at hl 1 rfl) ?_
  refine lv_i2l (v := xg.toInt64) hx hb dX7_member_1 rfl ?_
  refine lv_lconst (v := 0) hx hb dX7_member_2 (by decide) ?_
  refine lv_ldc2 hx hb hown (hts (.constantLong RX7 80 3) (by decide +kernel)) dX7_member_3 ?_
  refine vp_callSi (W.runS (As := [.long xg.toInt64, .long 0, .long 3]) (rest := []) ⟨hx, hb, hml, hown, hts⟩ (c_X7_in l xg.toInt64 0 3) (va_cwS 3 hts gX7_member_X7_in rfl rfl rfl (by decide +kernel) ⟨Nat.le_of_ble_eq_true rfl, Nat.le_of_ble_eq_true rfl⟩) preEq rfl rfl hl.1 rfl (lv_room (Nat.le_of_ble_eq_true rfl)) dX7_member_6 ⟨Nat.le_of_ble_eq_true rfl, Nat.le_of_ble_eq_true rfl⟩) (fun r435 hr435 => ?_)
  subst hr435
  refine lv_if_eq (tgt := 24) hx hb dX7_member_9 (by decide) (fun c436 => ?_) (fun c436 => ?_)
  · refine lv_iconst (v := (-1)) hx hb dX7_member_24 (by decide) ?_
    exact W.iret (v := (-1)) hx hb hr (fun t ht hW => ⟨⟨(-1), (), rfl, by show _ = _; have kc436 := (sp_in_0 xg 0 3).mp c436; simp only [xk_eq, Int32.toInt_toInt64, xk_lt, xk_le, xk_0, xk_1, xk_2, xk_3, xk_4, xk_5, xk_6, xk_7, xk_8, xk_50, xl_0, xl_1, xl_3, xl_4, xl_5, xl_6, xl_7, xl_50] at kc436; unfold sp_mb; (repeat' split); all_goals first | rfl | omega | (exfalso; omega) | contradiction, trivial⟩, hS.F ht⟩) hS.2.2 dX7_member_25
  · refine lv_iload_n hx hb dX7_member_12 rfl (lv_at hl 2 rfl) ?_
    refine lv_i2l (v := xm.toInt64) hx hb dX7_member_13 rfl ?_
    refine lv_lconst (v := 0) hx hb dX7_member_14 (by decide) ?_
    refine lv_ldc2 hx hb hown (hts (.constantLong RX7 173 7) (by decide +kernel)) dX7_member_15 ?_
    refine vp_callSi (W.runS (As := [.long xm.toInt64, .long 0, .long 7]) (rest := []) ⟨hx, hb, hml, hown, hts⟩ (c_X7_in l xm.toInt64 0 7) (va_cwS 3 hts gX7_member_X7_in rfl rfl rfl (by decide +kernel) ⟨Nat.le_of_ble_eq_true rfl, Nat.le_of_ble_eq_true rfl⟩) preEq rfl rfl hl.1 rfl (lv_room (Nat.le_of_ble_eq_true rfl)) dX7_member_18 ⟨Nat.le_of_ble_eq_true rfl, Nat.le_of_ble_eq_true rfl⟩) (fun r437 hr437 => ?_)
    subst hr437
    refine lv_if_ne (tgt := 26) hx hb dX7_member_21 (by decide) (fun c438 => ?_) (fun c438 => ?_)
    · refine lv_aload_n hx hb dX7_member_26 rfl (lv_at hl 0 rfl) ?_
      refine va_get (D := (dC, dI)) (ci := 7) (v := .ref (w 13)) (C := RX7) (T := TX7) (N := 18) hx hb hts hi7 hown hK hP 0 rfl rfl 12 (by decide) (hts (.fieldLink RX7 49 "TallyLogsModel" "members" "[I") (by decide +kernel)) (fun _ h9 => h9) rfl dX7_member_27 ?_
      refine lv_iload_n hx hb dX7_member_30 rfl (lv_at hl 1 rfl) ?_
      have hin439 : vp_in xg 4 := xin_of (by have kc436 := (not_congr (sp_in_0 xg 0 3)).mp c436; have kc438 := (not_congr (sp_in_0 xm 0 7)).mp c438; simp only [xk_eq, Int32.toInt_toInt64, xk_lt, xk_le, xk_0, xk_1, xk_2, xk_3, xk_4, xk_5, xk_6, xk_7, xk_8, xk_50, xl_0, xl_1, xl_3, xl_4, xl_5, xl_6, xl_7, xl_50] at kc436 kc438; omega) (by have kc436 := (not_congr (sp_in_0 xg 0 3)).mp c436; have kc438 := (not_congr (sp_in_0 xm 0 7)).mp c438; simp only [xk_eq, Int32.toInt_toInt64, xk_lt, xk_le, xk_0, xk_1, xk_2, xk_3, xk_4, xk_5, xk_6, xk_7, xk_8, xk_50, xl_0, xl_1, xl_3, xl_4, xl_5, xl_6, xl_7, xl_50] at kc436 kc438; omega)
      refine lv_dup2_11 hx hb dX7_member_31 rfl rfl ?_
      refine va_iald hx hb hK hP 12 1 rfl rfl hin439 dX7_member_32 ?_
      refine W.eq (g2 := F0 m 33 ls [.int 0, .int xg, .ref (w 13)]) rfl ?_
      refine lv_iconst (v := 1) hx hb dX7_member_33 (by decide) ?_
      refine lv_iload_n hx hb dX7_member_34 rfl (lv_at hl 2 rfl) ?_
      refine lv_ishl hx hb dX7_member_35 ?_
      refine lv_topi (fun v440 ev440 => ?_)
      refine lv_ixor hx hb dX7_member_36 ?_
      refine lv_topi (fun v441 ev441 => ?_)
      refine va_iast hx hb hK hP hD hS 12 1 rfl rfl hin439 dX7_member_37  (fun H locs hP hD hS => ?_)
      refine lv_aload_n hx hb dX7_member_38 rfl (lv_at hl 0 rfl) ?_
      refine va_get (D := (dC, dI)) (ci := 7) (v := .ref (w 14)) (C := RX7) (T := TX7) (N := 18) hx hb hts hi7 hown hK hP 0 rfl rfl 13 (by decide) (hts (.fieldLink RX7 52 "TallyLogsModel" "round" "[I") (by decide +kernel)) (fun _ h9 => h9) rfl dX7_member_39 ?_
      refine lv_iload_n hx hb dX7_member_42 rfl (lv_at hl 1 rfl) ?_
      refine lv_dup2_11 hx hb dX7_member_43 rfl rfl ?_
      refine va_iald hx hb hK hP 13 1 rfl rfl hin439 dX7_member_44 ?_
      refine W.eq (g2 := F0 m 45 ls [.int 0, .int xg, .ref (w 14)]) rfl ?_
      refine lv_iconst (v := 1) hx hb dX7_member_45 (by decide) ?_
      refine lv_iadd hx hb dX7_member_46 ?_
      refine lv_topi (fun v442 ev442 => ?_)
      obtain rfl : v442 = (1 : Int32) := ev442.trans (by decide)
      refine va_iast hx hb hK hP hD hS 13 1 rfl rfl hin439 dX7_member_47  (fun H locs hP hD hS => ?_)
      refine lv_aload_n hx hb dX7_member_48 rfl (lv_at hl 0 rfl) ?_
      refine va_get (D := (dC, dI)) (ci := 7) (v := .ref (w 14)) (C := RX7) (T := TX7) (N := 18) hx hb hts hi7 hown hK hP 0 rfl rfl 13 (by decide) (hts (.fieldLink RX7 52 "TallyLogsModel" "round" "[I") (by decide +kernel)) (fun _ h9 => h9) rfl dX7_member_49 ?_
      refine lv_iload_n hx hb dX7_member_52 rfl (lv_at hl 1 rfl) ?_
      refine va_iald hx hb hK hP 13 1 rfl rfl hin439 dX7_member_53 ?_
      refine W.eq (g2 := F0 m 54 ls [.int 1]) (by rw [pk_us]) ?_
      exact W.iret (v := 1) hx hb hr (fun t ht hW => ⟨⟨1, (), rfl, by show _ = _; have kc436 := (not_congr (sp_in_0 xg 0 3)).mp c436; have kc438 := (not_congr (sp_in_0 xm 0 7)).mp c438; simp only [xk_eq, Int32.toInt_toInt64, xk_lt, xk_le, xk_0, xk_1, xk_2, xk_3, xk_4, xk_5, xk_6, xk_7, xk_8, xk_50, xl_0, xl_1, xl_3, xl_4, xl_5, xl_6, xl_7, xl_50] at kc436 kc438; unfold sp_mb; (repeat' split); all_goals first | rfl | omega | (exfalso; omega) | contradiction, trivial⟩, hS.F ht⟩) hS.2.2 dX7_member_54
    · refine lv_iconst (v := (-1)) hx hb dX7_member_24 (by decide) ?_
      exact W.iret (v := (-1)) hx hb hr (fun t ht hW => ⟨⟨(-1), (), rfl, by show _ = _; have kc436 := (not_congr (sp_in_0 xg 0 3)).mp c436; have kc438 := (sp_in_0 xm 0 7).mp c438; simp only [xk_eq, Int32.toInt_toInt64, xk_lt, xk_le, xk_0, xk_1, xk_2, xk_3, xk_4, xk_5, xk_6, xk_7, xk_8, xk_50, xl_0, xl_1, xl_3, xl_4, xl_5, xl_6, xl_7, xl_50] at kc436 kc438; unfold sp_mb; (repeat' split); all_goals first | rfl | omega | (exfalso; omega) | contradiction, trivial⟩, hS.F ht⟩) hS.2.2 dX7_member_25
