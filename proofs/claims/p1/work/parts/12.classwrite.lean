set_option maxHeartbeats 4000000 in
set_option maxRecDepth 100000 in
/-- tick -/
theorem c_X5_tick (l : Launch) (dC : Nat → ClassId) (dI : Nat → Nat → Nat) (v : Nat → Nat) (cy : Nat → ClassId) (sz : Nat) (xn : Int32) : Met l yX5_tick wsX5_tick ({ frames := 0, cells := 0, slots := 0, locals := 0 }) (va_Pc [.ref (v 0), .int xn] (fun U => U.heap.size = sz ∧ fxB dC dI v cy U ∧ va_D (fun _ => True) (fxW v cy))) (va_Qi (fun (r : Int32) (_ : Unit) => r = sp_tk xn) (fun _ _ => True) (va_A (fxW v cy) sz)) 0 0 (va_A (fxW v cy) sz) := by
  refine Met.ofW (cc := cX5_tick) (maxL := 5) (ret := (some .int)) (by decide) rfl ?_
  intro p e s m args below meth c s₁ B hml hv
  obtain ⟨rfl, hsz, ⟨hP, hK⟩, hD0⟩ := hv
  have hx := B.exec
  have hb := B.bytes
  have hr := B.returns
  have hts := atoms_spec (ws := wsX5_tick) B.pre
  have hown : s.vm.findClass RX5 = some m.cls := findClass_of_methodNamed B.named
  have hlocks := B.notSynchronized
  have hi5 : ∀ w ∈ wsX50, w ∈ wsX5_tick := by decide +kernel
  have hl := lv_entry ([.ref (v 0), .int xn]) (n := 5) (Nat.le_of_ble_eq_true rfl)
  rw [lg_entry_eq]
  generalize (lg_sl ([.ref (v 0), .int xn]) ++ List.replicate (5 - (lg_sl ([.ref (v 0), .int xn])).length) Slot.unset).toArray = ls at hl ⊢
  have hl : lv_has ls 5 [(0, .ref (v 0)), (1, .int xn)] := hl
  subst hsz
  have hD := hD0.self (sz := s.heap.size)
  generalize hAe : va_A (fxW v cy) s.heap.size = A at hD ⊢
  have hA : ∀ q : Nat, s.heap.size ≤ q → A q := fun q h => by rw [← hAe]; exact Or.inr h
  have hS : va_S A s.heap s.heap [] := va_S.rf
  refine lv_iload_n hx hb dX5_tick_0 rfl (lv_at hl 1 rfl) ?_
  refine lv_iconst (v := 1) hx hb dX5_tick_1 (by decide) ?_
  refine lv_icmp_lt (tgt := 11) hx hb dX5_tick_2 (by decide) (fun c176 => ?_) (fun c176 => ?_)
  · refine lv_iconst (v := (-1)) hx hb dX5_tick_11 (by decide) ?_
    exact W.iret (v := (-1)) hx hb hr (fun t ht hW => ⟨⟨(-1), (), rfl, by show _ = _; have kc176 := c176; simp only [xk_eq, xk_lt, xk_le, xk_0, xk_1, xk_2, xk_3, xk_4, xk_5, xk_6, xk_7, xk_8, xk_50] at kc176; unfold sp_tk; (repeat' split); all_goals first | rfl | omega | (exfalso; omega) | contradiction, trivial⟩, hS.F ht⟩) hS.2.2 dX5_tick_12
  · refine lv_iload_n hx hb dX5_tick_5 rfl (lv_at hl 1 rfl) ?_
    refine lv_bipush (v := 50) hx hb dX5_tick_6 (by decide) ?_
    refine lv_icmp_le (tgt := 13) hx hb dX5_tick_8 (by decide) (fun c177 => ?_) (fun c177 => ?_)
    · refine lv_aload_n hx hb dX5_tick_13 rfl (lv_at hl 0 rfl) ?_
      refine lv_dup hx hb dX5_tick_14 rfl ?_
      refine va_get (D := (dC, dI)) (ci := 5) (v := .int 0) (C := RX5) (T := TX5) (N := 6) hx hb hts hi5 hown hK hP 0 rfl rfl 4 (by decide) (hts (.fieldLink RX5 31 "TallyLogs" "now" "I") (by decide +kernel)) (fun _ h9 => h9) rfl dX5_tick_15 ?_
      refine lv_iload_n hx hb dX5_tick_18 rfl (lv_at hl 1 rfl) ?_
      refine lv_iadd hx hb dX5_tick_19 ?_
      refine lv_topi (fun v178 ev178 => ?_)
      refine va_put (D := (dC, dI)) (ci := 5) (v := .int v178) (ty := .int) (C := RX5) (T := TX5) (N := 6) hx hb hts hi5 tyX5 tyX5_ok nmX5 hown hK hP hD hS 0 rfl rfl 4 (by decide) (hts (.fieldLink RX5 31 "TallyLogs" "now" "I") (by decide +kernel)) (fun _ h9 => h9) rfl (by decide +kernel) rfl rfl (Nat.le_of_ble_eq_true rfl) dX5_tick_20 (fun H locs hP hD hS => ?_)
      refine lv_iconst (v := 0) hx hb dX5_tick_23 (by decide) ?_
      refine lv_istore_n (lv' := [(2, .int 0), (0, .ref (v 0)), (1, .int xn)]) hx hb dX5_tick_24 rfl hl (by decide) rfl (fun ls hl => ?_)
      refine lv_iconst (v := 0) hx hb dX5_tick_25 (by decide) ?_
      refine lv_istore_n (lv' := [(3, .int 0), (2, .int 0), (0, .ref (v 0)), (1, .int xn)]) hx hb dX5_tick_26 rfl hl (by decide) rfl (fun ls hl => ?_)
      refine lv_iload_n hx hb dX5_tick_27 rfl (lv_at hl 0 rfl) ?_
      refine lv_iconst (v := 4) hx hb dX5_tick_28 (by decide) ?_
      refine lv_icmp_ge (tgt := 63) hx hb dX5_tick_29 (by decide) (fun c179 => ?_) (fun c179 => ?_)
      · exact absurd c179 (by decide)
      refine lv_aload_n hx hb dX5_tick_32 rfl (lv_at hl 2 rfl) ?_
      refine va_get (D := (dC, dI)) (ci := 5) (v := .ref (v 1)) (C := RX5) (T := TX5) (N := 6) hx hb hts hi5 hown hK hP 0 rfl rfl 0 (by decide) (hts (.fieldLink RX5 11 "TallyLogs" "partitions" "[LTallyLogs$Partition;") (by decide +kernel)) (fun _ h9 => h9) rfl dX5_tick_33 ?_
      refine lv_iload_n hx hb dX5_tick_36 rfl (lv_at hl 0 rfl) ?_
      refine va_aldq hx hb hK hP 1 0 rfl rfl (by unfold vp_in; decide) dX5_tick_37 ?_
      refine W.eq (g2 := F0 m 38 ls [.null]) rfl ?_
      refine lv_astoreN (lv' := [(4, .null), (3, .int 0), (2, .int 0), (0, .ref (v 0)), (1, .int xn)]) hx hb dX5_tick_38 hl (by decide) rfl (fun ls hl => ?_)
      refine lv_aloadN hx hb dX5_tick_40 (lv_at hl 0 rfl) ?_
      refine lv_ifnullN (tgt := 57) hx hb dX5_tick_42 (by decide) ?_
      refine lv_iinc (v := 1) (lv' := [(3, .int 1), (4, .null), (2, .int 0), (0, .ref (v 0)), (1, .int xn)]) hx hb dX5_tick_57 hl (k := 1) rfl (by decide) (by decide) rfl (fun ls hl => ?_)
      refine lv_goto (tgt := 27) hx hb dX5_tick_60 (by decide) ?_
      refine lv_iload_n hx hb dX5_tick_27 rfl (lv_at hl 0 rfl) ?_
      refine lv_iconst (v := 4) hx hb dX5_tick_28 (by decide) ?_
      refine lv_icmp_ge (tgt := 63) hx hb dX5_tick_29 (by decide) (fun c180 => ?_) (fun c180 => ?_)
      · exact absurd c180 (by decide)
      refine lv_aload_n hx hb dX5_tick_32 rfl (lv_at hl 3 rfl) ?_
      refine va_get (D := (dC, dI)) (ci := 5) (v := .ref (v 1)) (C := RX5) (T := TX5) (N := 6) hx hb hts hi5 hown hK hP 0 rfl rfl 0 (by decide) (hts (.fieldLink RX5 11 "TallyLogs" "partitions" "[LTallyLogs$Partition;") (by decide +kernel)) (fun _ h9 => h9) rfl dX5_tick_33 ?_
      refine lv_iload_n hx hb dX5_tick_36 rfl (lv_at hl 0 rfl) ?_
      refine va_aldq hx hb hK hP 1 0 rfl rfl (by unfold vp_in; decide) dX5_tick_37 ?_
      refine W.eq (g2 := F0 m 38 ls [.null]) rfl ?_
      refine lv_astoreN (lv' := [(4, .null), (3, .int 1), (2, .int 0), (0, .ref (v 0)), (1, .int xn)]) hx hb dX5_tick_38 hl (by decide) rfl (fun ls hl => ?_)
      refine lv_aloadN hx hb dX5_tick_40 (lv_at hl 0 rfl) ?_
      refine lv_ifnullN (tgt := 57) hx hb dX5_tick_42 (by decide) ?_
      refine lv_iinc (v := 2) (lv' := [(3, .int 2), (4, .null), (2, .int 0), (0, .ref (v 0)), (1, .int xn)]) hx hb dX5_tick_57 hl (k := 1) rfl (by decide) (by decide) rfl (fun ls hl => ?_)
      refine lv_goto (tgt := 27) hx hb dX5_tick_60 (by decide) ?_
      refine lv_iload_n hx hb dX5_tick_27 rfl (lv_at hl 0 rfl) ?_
      refine lv_iconst (v := 4) hx hb dX5_tick_28 (by decide) ?_
      refine lv_icmp_ge (tgt := 63) hx hb dX5_tick_29 (by decide) (fun c181 => ?_) (fun c181 => ?_)
      · exact absurd c181 (by decide)
      refine lv_aload_n hx hb dX5_tick_32 rfl (lv_at hl 3 rfl) ?_
      refine va_get (D := (dC, dI)) (ci := 5) (v := .ref (v 1)) (C := RX5) (T := TX5) (N := 6) hx hb hts hi5 hown hK hP 0 rfl rfl 0 (by decide) (hts (.fieldLink RX5 11 "TallyLogs" "partitions" "[LTallyLogs$Partition;") (by decide +kernel)) (fun _ h9 => h9) rfl dX5_tick_33 ?_
      refine lv_iload_n hx hb dX5_tick_36 rfl (lv_at hl 0 rfl) ?_
      refine va_aldq hx hb hK hP 1 0 rfl rfl (by unfold vp_in; decide) dX5_tick_37 ?_
      refine W.eq (g2 := F0 m 38 ls [.null]) rfl ?_
      refine lv_astoreN (lv' := [(4, .null), (3, .int 2), (2, .int 0), (0, .ref (v 0)), (1, .int xn)]) hx hb dX5_tick_38 hl (by decide) rfl (fun ls hl => ?_)
      refine lv_aloadN hx hb dX5_tick_40 (lv_at hl 0 rfl) ?_
      refine lv_ifnullN (tgt := 57) hx hb dX5_tick_42 (by decide) ?_
      refine lv_iinc (v := 3) (lv' := [(3, .int 3), (4, .null), (2, .int 0), (0, .ref (v 0)), (1, .int xn)]) hx hb dX5_tick_57 hl (k := 1) rfl (by decide) (by decide) rfl (fun ls hl => ?_)
      refine lv_goto (tgt := 27) hx hb dX5_tick_60 (by decide) ?_
      refine lv_iload_n hx hb dX5_tick_27 rfl (lv_at hl 0 rfl) ?_
      refine lv_iconst (v := 4) hx hb dX5_tick_28 (by decide) ?_
      refine lv_icmp_ge (tgt := 63) hx hb dX5_tick_29 (by decide) (fun c182 => ?_) (fun c182 => ?_)
      · exact absurd c182 (by decide)
      refine lv_aload_n hx hb dX5_tick_32 rfl (lv_at hl 3 rfl) ?_
      refine va_get (D := (dC, dI)) (ci := 5) (v := .ref (v 1)) (C := RX5) (T := TX5) (N := 6) hx hb hts hi5 hown hK hP 0 rfl rfl 0 (by decide) (hts (.fieldLink RX5 11 "TallyLogs" "partitions" "[LTallyLogs$Partition;") (by decide +kernel)) (fun _ h9 => h9) rfl dX5_tick_33 ?_
      refine lv_iload_n hx hb dX5_tick_36 rfl (lv_at hl 0 rfl) ?_
      refine va_aldq hx hb hK hP 1 0 rfl rfl (by unfold vp_in; decide) dX5_tick_37 ?_
      refine W.eq (g2 := F0 m 38 ls [.null]) rfl ?_
      refine lv_astoreN (lv' := [(4, .null), (3, .int 3), (2, .int 0), (0, .ref (v 0)), (1, .int xn)]) hx hb dX5_tick_38 hl (by decide) rfl (fun ls hl => ?_)
      refine lv_aloadN hx hb dX5_tick_40 (lv_at hl 0 rfl) ?_
      refine lv_ifnullN (tgt := 57) hx hb dX5_tick_42 (by decide) ?_
      refine lv_iinc (v := 4) (lv' := [(3, .int 4), (4, .null), (2, .int 0), (0, .ref (v 0)), (1, .int xn)]) hx hb dX5_tick_57 hl (k := 1) rfl (by decide) (by decide) rfl (fun ls hl => ?_)
      refine lv_goto (tgt := 27) hx hb dX5_tick_60 (by decide) ?_
      refine lv_iload_n hx hb dX5_tick_27 rfl (lv_at hl 0 rfl) ?_
      refine lv_iconst (v := 4) hx hb dX5_tick_28 (by decide) ?_
      refine lv_icmp_ge (tgt := 63) hx hb dX5_tick_29 (by decide) (fun c183 => ?_) (fun c183 => ?_)
      rotate_left
      · exact absurd c183 (by decide)
      refine lv_iload_n hx hb dX5_tick_63 rfl (lv_at hl 2 rfl) ?_
      exact W.iret (v := 0) hx hb hr (fun t ht hW => ⟨⟨0, (), rfl, by show _ = _; subst ev178; have kc176 := c176; have kc177 := c177; have kc179 := c179; have kc180 := c180; have kc181 := c181; have kc182 := c182; have kc183 := c183; simp only [xk_eq, xk_lt, xk_le, xk_0, xk_1, xk_2, xk_3, xk_4, xk_5, xk_6, xk_7, xk_8, xk_50] at kc176 kc177 kc179 kc180 kc181 kc182 kc183; unfold sp_tk; (repeat' split); all_goals first | rfl | omega | (exfalso; omega) | contradiction, trivial⟩, hS.F ht⟩) hS.2.2 dX5_tick_64
    · refine lv_iconst (v := (-1)) hx hb dX5_tick_11 (by decide) ?_
      exact W.iret (v := (-1)) hx hb hr (fun t ht hW => ⟨⟨(-1), (), rfl, by show _ = _; have kc176 := c176; have kc177 := c177; simp only [xk_eq, xk_lt, xk_le, xk_0, xk_1, xk_2, xk_3, xk_4, xk_5, xk_6, xk_7, xk_8, xk_50] at kc176 kc177; unfold sp_tk; (repeat' split); all_goals first | rfl | omega | (exfalso; omega) | contradiction, trivial⟩, hS.F ht⟩) hS.2.2 dX5_tick_12
set_option maxHeartbeats 4000000 in
set_option maxRecDepth 100000 in
/-- crash -/
theorem c_X5_crash (l : Launch) (dC : Nat → ClassId) (dI : Nat → Nat → Nat) (v : Nat → Nat) (cy : Nat → ClassId) (sz : Nat) (xn : Int32) (xk : Int32) : Met l yX5_crash wsX5_crash ({ frames := 1, cells := 0, slots := 0, locals := 21 }) (va_Pc [.ref (v 0), .int xn, .int xk] (fun U => U.heap.size = sz ∧ fxB dC dI v cy U ∧ va_D (fun _ => True) (fxW v cy))) (va_Qi (fun (r : Int32) (_ : Unit) => r = sp_cr xn xk) (fun _ _ => True) (va_A (fxW v cy) sz)) 0 0 (va_A (fxW v cy) sz) := by
  refine Met.ofW (cc := cX5_crash) (maxL := 6) (ret := (some .int)) (by decide) rfl ?_
  intro p e s m args below meth c s₁ B hml hv
  obtain ⟨rfl, hsz, ⟨hP, hK⟩, hD0⟩ := hv
  have hx := B.exec
  have hb := B.bytes
  have hr := B.returns
  have hts := atoms_spec (ws := wsX5_crash) B.pre
  have hown : s.vm.findClass RX5 = some m.cls := findClass_of_methodNamed B.named
  have hlocks := B.notSynchronized
  have hi5 : ∀ w ∈ wsX50, w ∈ wsX5_crash := by decide +kernel
  have hl := lv_entry ([.ref (v 0), .int xn, .int xk]) (n := 6) (Nat.le_of_ble_eq_true rfl)
  rw [lg_entry_eq]
  generalize (lg_sl ([.ref (v 0), .int xn, .int xk]) ++ List.replicate (6 - (lg_sl ([.ref (v 0), .int xn, .int xk])).length) Slot.unset).toArray = ls at hl ⊢
  have hl : lv_has ls 6 [(0, .ref (v 0)), (1, .int xn), (2, .int xk)] := hl
  subst hsz
  have hD := hD0.self (sz := s.heap.size)
  generalize hAe : va_A (fxW v cy) s.heap.size = A at hD ⊢
  have hA : ∀ q : Nat, s.heap.size ≤ q → A q := fun q h => by rw [← hAe]; exact Or.inr h
  have hS : va_S A s.heap s.heap [] := va_S.rf
  refine lv_aload_n hx hb dX5_crash_0 rfl (lv_at hl 0 rfl) ?_
  refine va_get (D := (dC, dI)) (ci := 5) (v := .int 31) (C := RX5) (T := TX5) (N := 6) hx hb hts hi5 hown hK hP 0 rfl rfl 3 (by decide) (hts (.fieldLink RX5 27 "TallyLogs" "up" "I") (by decide +kernel)) (fun _ h9 => h9) rfl dX5_crash_1 ?_
  refine lv_iload_n hx hb dX5_crash_4 rfl (lv_at hl 1 rfl) ?_
  refine vp_callSi (W.runS (As := [.int 31, .int xn]) (rest := []) ⟨hx, hb, hml, hown, hts⟩ (c_X5_contains l 31 xn) (va_cwS 2 hts gX5_crash_X5_contains rfl rfl rfl (by decide +kernel) ⟨Nat.le_of_ble_eq_true rfl, Nat.le_of_ble_eq_true rfl⟩) preEq rfl rfl hl.1 rfl (lv_room (Nat.le_of_ble_eq_true rfl)) dX5_crash_5 ⟨Nat.le_of_ble_eq_true rfl, Nat.le_of_ble_eq_true rfl⟩) (fun r184 hr184 => ?_)
  subst hr184
  refine lv_if_eq (tgt := 15) hx hb dX5_crash_8 (by decide) (fun c185 => ?_) (fun c185 => ?_)
  · refine lv_iconst (v := (-1)) hx hb dX5_crash_15 (by decide) ?_
    exact W.iret (v := (-1)) hx hb hr (fun t ht hW => ⟨⟨(-1), (), rfl, by show _ = _; have zc185 := (xup_iff xn).mp c185; unfold sp_cr; split <;> first | rfl | omega, trivial⟩, hS.F ht⟩) hS.2.2 dX5_crash_16
  · refine lv_iload_n hx hb dX5_crash_11 rfl (lv_at hl 2 rfl) ?_
    refine lv_if_ge (tgt := 17) hx hb dX5_crash_12 (by decide) (fun c186 => ?_) (fun c186 => ?_)
    · refine lv_aload_n hx hb dX5_crash_17 rfl (lv_at hl 0 rfl) ?_
      refine lv_dup hx hb dX5_crash_18 rfl ?_
      refine va_get (D := (dC, dI)) (ci := 5) (v := .int 31) (C := RX5) (T := TX5) (N := 6) hx hb hts hi5 hown hK hP 0 rfl rfl 3 (by decide) (hts (.fieldLink RX5 27 "TallyLogs" "up" "I") (by decide +kernel)) (fun _ h9 => h9) rfl dX5_crash_19 ?_
      refine lv_iconst (v := 1) hx hb dX5_crash_22 (by decide) ?_
      refine lv_iload_n hx hb dX5_crash_23 rfl (lv_at hl 1 rfl) ?_
      refine lv_ishl hx hb dX5_crash_24 ?_
      refine lv_topi (fun v187 ev187 => ?_)
      refine lv_iconst (v := (-1)) hx hb dX5_crash_25 (by decide) ?_
      refine lv_ixor hx hb dX5_crash_26 ?_
      refine lv_topi (fun v188 ev188 => ?_)
      refine lv_iand hx hb dX5_crash_27 ?_
      refine lv_topi (fun v189 ev189 => ?_)
      refine va_put (D := (dC, dI)) (ci := 5) (v := .int v189) (ty := .int) (C := RX5) (T := TX5) (N := 6) hx hb hts hi5 tyX5 tyX5_ok nmX5 hown hK hP hD hS 0 rfl rfl 3 (by decide) (hts (.fieldLink RX5 27 "TallyLogs" "up" "I") (by decide +kernel)) (fun _ h9 => h9) rfl (by decide +kernel) rfl rfl (Nat.le_of_ble_eq_true rfl) dX5_crash_28 (fun H locs hP hD hS => ?_)
      refine lv_iconst (v := 0) hx hb dX5_crash_31 (by decide) ?_
      refine lv_istore_n (lv' := [(3, .int 0), (0, .ref (v 0)), (1, .int xn), (2, .int xk)]) hx hb dX5_crash_32 rfl hl (by decide) rfl (fun ls hl => ?_)
      refine lv_iconst (v := 0) hx hb dX5_crash_33 (by decide) ?_
      refine lv_istore (lv' := [(4, .int 0), (3, .int 0), (0, .ref (v 0)), (1, .int xn), (2, .int xk)]) hx hb dX5_crash_34 hl (by decide) rfl (fun ls hl => ?_)
      refine lv_iload hx hb dX5_crash_36 (lv_at hl 0 rfl) ?_
      refine lv_iconst (v := 4) hx hb dX5_crash_38 (by decide) ?_
      refine lv_icmp_ge (tgt := 86) hx hb dX5_crash_39 (by decide) (fun c190 => ?_) (fun c190 => ?_)
      · exact absurd c190 (by decide)
      refine lv_aload_n hx hb dX5_crash_42 rfl (lv_at hl 2 rfl) ?_
      refine va_get (D := (dC, dI)) (ci := 5) (v := .ref (v 1)) (C := RX5) (T := TX5) (N := 6) hx hb hts hi5 hown hK hP 0 rfl rfl 0 (by decide) (hts (.fieldLink RX5 11 "TallyLogs" "partitions" "[LTallyLogs$Partition;") (by decide +kernel)) (fun _ h9 => h9) rfl dX5_crash_43 ?_
      refine lv_iload hx hb dX5_crash_46 (lv_at hl 0 rfl) ?_
      refine va_aldq hx hb hK hP 1 0 rfl rfl (by unfold vp_in; decide) dX5_crash_48 ?_
      refine W.eq (g2 := F0 m 49 ls [.null]) rfl ?_
      refine lv_astoreN (lv' := [(5, .null), (4, .int 0), (3, .int 0), (0, .ref (v 0)), (1, .int xn), (2, .int xk)]) hx hb dX5_crash_49 hl (by decide) rfl (fun ls hl => ?_)
      refine lv_aloadN hx hb dX5_crash_51 (lv_at hl 0 rfl) ?_
      refine lv_ifnullN (tgt := 80) hx hb dX5_crash_53 (by decide) ?_
      refine lv_iinc (v := 1) (lv' := [(4, .int 1), (5, .null), (3, .int 0), (0, .ref (v 0)), (1, .int xn), (2, .int xk)]) hx hb dX5_crash_80 hl (k := 1) rfl (by decide) (by decide) rfl (fun ls hl => ?_)
      refine lv_goto (tgt := 36) hx hb dX5_crash_83 (by decide) ?_
      refine lv_iload hx hb dX5_crash_36 (lv_at hl 0 rfl) ?_
      refine lv_iconst (v := 4) hx hb dX5_crash_38 (by decide) ?_
      refine lv_icmp_ge (tgt := 86) hx hb dX5_crash_39 (by decide) (fun c191 => ?_) (fun c191 => ?_)
      · exact absurd c191 (by decide)
      refine lv_aload_n hx hb dX5_crash_42 rfl (lv_at hl 3 rfl) ?_
      refine va_get (D := (dC, dI)) (ci := 5) (v := .ref (v 1)) (C := RX5) (T := TX5) (N := 6) hx hb hts hi5 hown hK hP 0 rfl rfl 0 (by decide) (hts (.fieldLink RX5 11 "TallyLogs" "partitions" "[LTallyLogs$Partition;") (by decide +kernel)) (fun _ h9 => h9) rfl dX5_crash_43 ?_
      refine lv_iload hx hb dX5_crash_46 (lv_at hl 0 rfl) ?_
      refine va_aldq hx hb hK hP 1 0 rfl rfl (by unfold vp_in; decide) dX5_crash_48 ?_
      refine W.eq (g2 := F0 m 49 ls [.null]) rfl ?_
      refine lv_astoreN (lv' := [(5, .null), (4, .int 1), (3, .int 0), (0, .ref (v 0)), (1, .int xn), (2, .int xk)]) hx hb dX5_crash_49 hl (by decide) rfl (fun ls hl => ?_)
      refine lv_aloadN hx hb dX5_crash_51 (lv_at hl 0 rfl) ?_
      refine lv_ifnullN (tgt := 80) hx hb dX5_crash_53 (by decide) ?_
      refine lv_iinc (v := 2) (lv' := [(4, .int 2), (5, .null), (3, .int 0), (0, .ref (v 0)), (1, .int xn), (2, .int xk)]) hx hb dX5_crash_80 hl (k := 1) rfl (by decide) (by decide) rfl (fun ls hl => ?_)
      refine lv_goto (tgt := 36) hx hb dX5_crash_83 (by decide) ?_
      refine lv_iload hx hb dX5_crash_36 (lv_at hl 0 rfl) ?_
      refine lv_iconst (v := 4) hx hb dX5_crash_38 (by decide) ?_
      refine lv_icmp_ge (tgt := 86) hx hb dX5_crash_39 (by decide) (fun c192 => ?_) (fun c192 => ?_)
      · exact absurd c192 (by decide)
      refine lv_aload_n hx hb dX5_crash_42 rfl (lv_at hl 3 rfl) ?_
      refine va_get (D := (dC, dI)) (ci := 5) (v := .ref (v 1)) (C := RX5) (T := TX5) (N := 6) hx hb hts hi5 hown hK hP 0 rfl rfl 0 (by decide) (hts (.fieldLink RX5 11 "TallyLogs" "partitions" "[LTallyLogs$Partition;") (by decide +kernel)) (fun _ h9 => h9) rfl dX5_crash_43 ?_
      refine lv_iload hx hb dX5_crash_46 (lv_at hl 0 rfl) ?_
      refine va_aldq hx hb hK hP 1 0 rfl rfl (by unfold vp_in; decide) dX5_crash_48 ?_
      refine W.eq (g2 := F0 m 49 ls [.null]) rfl ?_
      refine lv_astoreN (lv' := [(5, .null), (4, .int 2), (3, .int 0), (0, .ref (v 0)), (1, .int xn), (2, .int xk)]) hx hb dX5_crash_49 hl (by decide) rfl (fun ls hl => ?_)
      refine lv_aloadN hx hb dX5_crash_51 (lv_at hl 0 rfl) ?_
      refine lv_ifnullN (tgt := 80) hx hb dX5_crash_53 (by decide) ?_
      refine lv_iinc (v := 3) (lv' := [(4, .int 3), (5, .null), (3, .int 0), (0, .ref (v 0)), (1, .int xn), (2, .int xk)]) hx hb dX5_crash_80 hl (k := 1) rfl (by decide) (by decide) rfl (fun ls hl => ?_)
      refine lv_goto (tgt := 36) hx hb dX5_crash_83 (by decide) ?_
      refine lv_iload hx hb dX5_crash_36 (lv_at hl 0 rfl) ?_
      refine lv_iconst (v := 4) hx hb dX5_crash_38 (by decide) ?_
      refine lv_icmp_ge (tgt := 86) hx hb dX5_crash_39 (by decide) (fun c193 => ?_) (fun c193 => ?_)
      · exact absurd c193 (by decide)
      refine lv_aload_n hx hb dX5_crash_42 rfl (lv_at hl 3 rfl) ?_
      refine va_get (D := (dC, dI)) (ci := 5) (v := .ref (v 1)) (C := RX5) (T := TX5) (N := 6) hx hb hts hi5 hown hK hP 0 rfl rfl 0 (by decide) (hts (.fieldLink RX5 11 "TallyLogs" "partitions" "[LTallyLogs$Partition;") (by decide +kernel)) (fun _ h9 => h9) rfl dX5_crash_43 ?_
      refine lv_iload hx hb dX5_crash_46 (lv_at hl 0 rfl) ?_
      refine va_aldq hx hb hK hP 1 0 rfl rfl (by unfold vp_in; decide) dX5_crash_48 ?_
      refine W.eq (g2 := F0 m 49 ls [.null]) rfl ?_
      refine lv_astoreN (lv' := [(5, .null), (4, .int 3), (3, .int 0), (0, .ref (v 0)), (1, .int xn), (2, .int xk)]) hx hb dX5_crash_49 hl (by decide) rfl (fun ls hl => ?_)
      refine lv_aloadN hx hb dX5_crash_51 (lv_at hl 0 rfl) ?_
      refine lv_ifnullN (tgt := 80) hx hb dX5_crash_53 (by decide) ?_
      refine lv_iinc (v := 4) (lv' := [(4, .int 4), (5, .null), (3, .int 0), (0, .ref (v 0)), (1, .int xn), (2, .int xk)]) hx hb dX5_crash_80 hl (k := 1) rfl (by decide) (by decide) rfl (fun ls hl => ?_)
      refine lv_goto (tgt := 36) hx hb dX5_crash_83 (by decide) ?_
      refine lv_iload hx hb dX5_crash_36 (lv_at hl 0 rfl) ?_
      refine lv_iconst (v := 4) hx hb dX5_crash_38 (by decide) ?_
      refine lv_icmp_ge (tgt := 86) hx hb dX5_crash_39 (by decide) (fun c194 => ?_) (fun c194 => ?_)
      rotate_left
      · exact absurd c194 (by decide)
      refine lv_iload_n hx hb dX5_crash_86 rfl (lv_at hl 2 rfl) ?_
      exact W.iret (v := 0) hx hb hr (fun t ht hW => ⟨⟨0, (), rfl, by show _ = _; have zc185 := (not_congr (xup_iff xn)).mp c185; have kc186 := c186; simp only [xk_lt, xk_le, xk_0, xk_1, xk_2, xk_3, xk_4, xk_5, xk_6, xk_7, xk_8, xk_50] at kc186; unfold sp_cr; split <;> first | rfl | omega, trivial⟩, hS.F ht⟩) hS.2.2 dX5_crash_87
    · refine lv_iconst (v := (-1)) hx hb dX5_crash_15 (by decide) ?_
      exact W.iret (v := (-1)) hx hb hr (fun t ht hW => ⟨⟨(-1), (), rfl, by show _ = _; have zc185 := (not_congr (xup_iff xn)).mp c185; have kc186 := c186; simp only [xk_lt, xk_le, xk_0, xk_1, xk_2, xk_3, xk_4, xk_5, xk_6, xk_7, xk_8, xk_50] at kc186; unfold sp_cr; split <;> first | rfl | omega, trivial⟩, hS.F ht⟩) hS.2.2 dX5_crash_16
set_option maxHeartbeats 4000000 in
set_option maxRecDepth 100000 in
/-- register -/
theorem c_X5_register (l : Launch) (dC : Nat → ClassId) (dI : Nat → Nat → Nat) (v : Nat → Nat) (cy : Nat → ClassId) (sz : Nat) (xk : Int32) : Met l yX5_register wsX5_register ({ frames := 1, cells := 0, slots := 0, locals := 21 }) (va_Pc [.ref (v 0), .int xk] (fun U => U.heap.size = sz ∧ fxB dC dI v cy U ∧ va_D (fun _ => True) (fxW v cy))) (va_Qi (fun (r : Int32) (_ : Unit) => r = sp_rg xk) (fun _ _ => True) (va_A (fxW v cy) sz)) 0 0 (va_A (fxW v cy) sz) := by
  refine Met.ofW (cc := cX5_register) (maxL := 3) (ret := (some .int)) (by decide) rfl ?_
  intro p e s m args below meth c s₁ B hml hv
  obtain ⟨rfl, hsz, ⟨hP, hK⟩, hD0⟩ := hv
  have hx := B.exec
  have hb := B.bytes
  have hr := B.returns
  have hts := atoms_spec (ws := wsX5_register) B.pre
  have hown : s.vm.findClass RX5 = some m.cls := findClass_of_methodNamed B.named
  have hlocks := B.notSynchronized
  have hi3 : ∀ w ∈ wsX30, w ∈ wsX5_register := by decide +kernel
  have hi5 : ∀ w ∈ wsX50, w ∈ wsX5_register := by decide +kernel
  have hl := lv_entry ([.ref (v 0), .int xk]) (n := 3) (Nat.le_of_ble_eq_true rfl)
  rw [lg_entry_eq]
  generalize (lg_sl ([.ref (v 0), .int xk]) ++ List.replicate (3 - (lg_sl ([.ref (v 0), .int xk])).length) Slot.unset).toArray = ls at hl ⊢
  have hl : lv_has ls 3 [(0, .ref (v 0)), (1, .int xk)] := hl
  subst hsz
  have hD := hD0.self (sz := s.heap.size)
  generalize hAe : va_A (fxW v cy) s.heap.size = A at hD ⊢
  have hA : ∀ q : Nat, s.heap.size ≤ q → A q := fun q h => by rw [← hAe]; exact Or.inr h
  have hS : va_S A s.heap s.heap [] := va_S.rf
  refine lv_aload_n hx hb dX5_register_0 rfl (lv_at hl 0 rfl) ?_
  refine lv_iload_n hx hb dX5_register_1 rfl (lv_at hl 1 rfl) ?_
  refine va_csq (W.runV (As := [.int xk]) (rest := []) ⟨hx, hb, hml, hown, hts⟩ (c_X5_producerAt l dC dI v cy xk) (cwV 1 hts gX5_register_X5_producerAt rfl rfl rfl (by decide +kernel) ⟨Nat.le_of_ble_eq_true rfl, Nat.le_of_ble_eq_true rfl⟩) ⟨fx_blind, va_recv hK hP (ci := 5) (q0 := 0) rfl rfl, fun U hU hW => ⟨rfl, fx_pre hP hK hU hW⟩⟩ rfl rfl hl.1 rfl (lv_room (Nat.le_of_ble_eq_true rfl)) dX5_register_2 ⟨Nat.le_of_ble_eq_true rfl, Nat.le_of_ble_eq_true rfl⟩) (fun r195 hr195 => ?_)
  subst hr195
  rcases pAt_cs v xk with ⟨hn196, ho196⟩ | ⟨j196, hj196, hn196, ho196⟩
  · rw [ho196]
    refine W.eq (g2 := F0 m 5 ls [.null]) rfl ?_
    refine lv_astore_nN (lv' := [(2, .null), (0, .ref (v 0)), (1, .int xk)]) hx hb dX5_register_5 rfl hl (by decide) rfl (fun ls hl => ?_)
    refine lv_aload_nN hx hb dX5_register_6 rfl (lv_at hl 0 rfl) ?_
    refine lv_ifnonnullN hx hb dX5_register_7 ?_
    refine lv_iconst (v := (-1)) hx hb dX5_register_10 (by decide) ?_
    exact W.iret (v := (-1)) hx hb hr (fun t ht hW => ⟨⟨(-1), (), rfl, by rw [sp_rg, if_neg hn196], trivial⟩, hS.F ht⟩) hS.2.2 dX5_register_11
  · rcases (show j196 = 0 ∨ j196 = 1 ∨ j196 = 2 ∨ j196 = 3 ∨ j196 = 4 ∨ j196 = 5 by omega) with rfl | rfl | rfl | rfl | rfl | rfl
    · rw [ho196]
      refine W.eq (g2 := F0 m 5 ls [.ref (v 4)]) rfl ?_
      refine lv_astore_n (lv' := [(2, .ref (v 4)), (0, .ref (v 0)), (1, .int xk)]) hx hb dX5_register_5 rfl hl (by decide) rfl (fun ls hl => ?_)
      refine lv_aload_n hx hb dX5_register_6 rfl (lv_at hl 0 rfl) ?_
      refine lv_ifnonnull (tgt := 12) hx hb dX5_register_7 (by decide) ?_
      refine lv_aload_n hx hb dX5_register_12 rfl (lv_at hl 0 rfl) ?_
      refine lv_dup hx hb dX5_register_13 rfl ?_
      refine va_get (D := (dC, dI)) (ci := 3) (v := .int (-1)) (C := RX3) (T := TX3) (N := 6) hx hb hts hi3 hown hK hP 4 rfl rfl 1 (by decide) (hts (.fieldLink RX5 75 "TallyLogs$Producer" "generation" "I") (by decide +kernel)) (fun _ h9 => h9) rfl dX5_register_14 ?_
      refine lv_iconst (v := 1) hx hb dX5_register_17 (by decide) ?_
      refine lv_iadd hx hb dX5_register_18 ?_
      refine lv_topi (fun v197 ev197 => ?_)
      obtain rfl : v197 = (0 : Int32) := ev197.trans (by decide)
      refine va_put (D := (dC, dI)) (ci := 3) (v := .int 0) (ty := .int) (C := RX3) (T := TX3) (N := 6) hx hb hts hi3 tyX3 tyX3_ok nmX3 hown hK hP hD hS 4 rfl rfl 1 (by decide) (hts (.fieldLink RX5 75 "TallyLogs$Producer" "generation" "I") (by decide +kernel)) (fun _ h9 => h9) rfl (by decide +kernel) rfl rfl (Nat.le_of_ble_eq_true rfl) dX5_register_19 (fun H locs hP hD hS => ?_)
      refine lv_aload_n hx hb dX5_register_22 rfl (lv_at hl 0 rfl) ?_
      refine va_get (D := (dC, dI)) (ci := 3) (v := .int 0) (C := RX3) (T := TX3) (N := 6) hx hb hts hi3 hown hK hP 4 rfl rfl 2 (by decide) (hts (.fieldLink RX5 78 "TallyLogs$Producer" "mode" "I") (by decide +kernel)) (fun _ h9 => h9) rfl dX5_register_23 ?_
      refine lv_iconst (v := 1) hx hb dX5_register_26 (by decide) ?_
      refine lv_icmp_ne (tgt := 35) hx hb dX5_register_27 (by decide) (fun c198 => ?_) (fun c198 => ?_)
      rotate_left
      · exact absurd c198 (by decide)
      refine lv_aload_n hx hb dX5_register_35 rfl (lv_at hl 0 rfl) ?_
      refine va_get (D := (dC, dI)) (ci := 3) (v := .int 0) (C := RX3) (T := TX3) (N := 6) hx hb hts hi3 hown hK hP 4 rfl rfl 1 (by decide) (hts (.fieldLink RX5 75 "TallyLogs$Producer" "generation" "I") (by decide +kernel)) (fun _ h9 => h9) rfl dX5_register_36 ?_
      refine lv_bipush (v := 8) hx hb dX5_register_39 (by decide) ?_
      refine lv_imul hx hb dX5_register_41 ?_
      refine lv_topi (fun v199 ev199 => ?_)
      obtain rfl : v199 = (0 : Int32) := ev199.trans (by decide)
      refine lv_iload_n hx hb dX5_register_42 rfl (lv_at hl 2 rfl) ?_
      refine lv_iadd hx hb dX5_register_43 ?_
      refine lv_topi (fun v200 ev200 => ?_)
      exact W.iret (v := v200) hx hb hr (fun t ht hW => ⟨⟨v200, (), rfl, by subst ev200; rw [sp_rg, if_pos (by rw [hn196, nI_toInt (by omega)]; omega)]; exact Int32.zero_add xk, trivial⟩, hS.F ht⟩) hS.2.2 dX5_register_44
    · rw [ho196]
      refine W.eq (g2 := F0 m 5 ls [.ref (v 5)]) rfl ?_
      refine lv_astore_n (lv' := [(2, .ref (v 5)), (0, .ref (v 0)), (1, .int xk)]) hx hb dX5_register_5 rfl hl (by decide) rfl (fun ls hl => ?_)
      refine lv_aload_n hx hb dX5_register_6 rfl (lv_at hl 0 rfl) ?_
      refine lv_ifnonnull (tgt := 12) hx hb dX5_register_7 (by decide) ?_
      refine lv_aload_n hx hb dX5_register_12 rfl (lv_at hl 0 rfl) ?_
      refine lv_dup hx hb dX5_register_13 rfl ?_
      refine va_get (D := (dC, dI)) (ci := 3) (v := .int (-1)) (C := RX3) (T := TX3) (N := 6) hx hb hts hi3 hown hK hP 5 rfl rfl 1 (by decide) (hts (.fieldLink RX5 75 "TallyLogs$Producer" "generation" "I") (by decide +kernel)) (fun _ h9 => h9) rfl dX5_register_14 ?_
      refine lv_iconst (v := 1) hx hb dX5_register_17 (by decide) ?_
      refine lv_iadd hx hb dX5_register_18 ?_
      refine lv_topi (fun v201 ev201 => ?_)
      obtain rfl : v201 = (0 : Int32) := ev201.trans (by decide)
      refine va_put (D := (dC, dI)) (ci := 3) (v := .int 0) (ty := .int) (C := RX3) (T := TX3) (N := 6) hx hb hts hi3 tyX3 tyX3_ok nmX3 hown hK hP hD hS 5 rfl rfl 1 (by decide) (hts (.fieldLink RX5 75 "TallyLogs$Producer" "generation" "I") (by decide +kernel)) (fun _ h9 => h9) rfl (by decide +kernel) rfl rfl (Nat.le_of_ble_eq_true rfl) dX5_register_19 (fun H locs hP hD hS => ?_)
      refine lv_aload_n hx hb dX5_register_22 rfl (lv_at hl 0 rfl) ?_
      refine va_get (D := (dC, dI)) (ci := 3) (v := .int 0) (C := RX3) (T := TX3) (N := 6) hx hb hts hi3 hown hK hP 5 rfl rfl 2 (by decide) (hts (.fieldLink RX5 78 "TallyLogs$Producer" "mode" "I") (by decide +kernel)) (fun _ h9 => h9) rfl dX5_register_23 ?_
      refine lv_iconst (v := 1) hx hb dX5_register_26 (by decide) ?_
      refine lv_icmp_ne (tgt := 35) hx hb dX5_register_27 (by decide) (fun c202 => ?_) (fun c202 => ?_)
      rotate_left
      · exact absurd c202 (by decide)
      refine lv_aload_n hx hb dX5_register_35 rfl (lv_at hl 0 rfl) ?_
      refine va_get (D := (dC, dI)) (ci := 3) (v := .int 0) (C := RX3) (T := TX3) (N := 6) hx hb hts hi3 hown hK hP 5 rfl rfl 1 (by decide) (hts (.fieldLink RX5 75 "TallyLogs$Producer" "generation" "I") (by decide +kernel)) (fun _ h9 => h9) rfl dX5_register_36 ?_
      refine lv_bipush (v := 8) hx hb dX5_register_39 (by decide) ?_
      refine lv_imul hx hb dX5_register_41 ?_
      refine lv_topi (fun v203 ev203 => ?_)
      obtain rfl : v203 = (0 : Int32) := ev203.trans (by decide)
      refine lv_iload_n hx hb dX5_register_42 rfl (lv_at hl 2 rfl) ?_
      refine lv_iadd hx hb dX5_register_43 ?_
      refine lv_topi (fun v204 ev204 => ?_)
      exact W.iret (v := v204) hx hb hr (fun t ht hW => ⟨⟨v204, (), rfl, by subst ev204; rw [sp_rg, if_pos (by rw [hn196, nI_toInt (by omega)]; omega)]; exact Int32.zero_add xk, trivial⟩, hS.F ht⟩) hS.2.2 dX5_register_44
    · rw [ho196]
      refine W.eq (g2 := F0 m 5 ls [.ref (v 6)]) rfl ?_
      refine lv_astore_n (lv' := [(2, .ref (v 6)), (0, .ref (v 0)), (1, .int xk)]) hx hb dX5_register_5 rfl hl (by decide) rfl (fun ls hl => ?_)
      refine lv_aload_n hx hb dX5_register_6 rfl (lv_at hl 0 rfl) ?_
      refine lv_ifnonnull (tgt := 12) hx hb dX5_register_7 (by decide) ?_
      refine lv_aload_n hx hb dX5_register_12 rfl (lv_at hl 0 rfl) ?_
      refine lv_dup hx hb dX5_register_13 rfl ?_
      refine va_get (D := (dC, dI)) (ci := 3) (v := .int (-1)) (C := RX3) (T := TX3) (N := 6) hx hb hts hi3 hown hK hP 6 rfl rfl 1 (by decide) (hts (.fieldLink RX5 75 "TallyLogs$Producer" "generation" "I") (by decide +kernel)) (fun _ h9 => h9) rfl dX5_register_14 ?_
      refine lv_iconst (v := 1) hx hb dX5_register_17 (by decide) ?_
      refine lv_iadd hx hb dX5_register_18 ?_
      refine lv_topi (fun v205 ev205 => ?_)
      obtain rfl : v205 = (0 : Int32) := ev205.trans (by decide)
      refine va_put (D := (dC, dI)) (ci := 3) (v := .int 0) (ty := .int) (C := RX3) (T := TX3) (N := 6) hx hb hts hi3 tyX3 tyX3_ok nmX3 hown hK hP hD hS 6 rfl rfl 1 (by decide) (hts (.fieldLink RX5 75 "TallyLogs$Producer" "generation" "I") (by decide +kernel)) (fun _ h9 => h9) rfl (by decide +kernel) rfl rfl (Nat.le_of_ble_eq_true rfl) dX5_register_19 (fun H locs hP hD hS => ?_)
      refine lv_aload_n hx hb dX5_register_22 rfl (lv_at hl 0 rfl) ?_
      refine va_get (D := (dC, dI)) (ci := 3) (v := .int 0) (C := RX3) (T := TX3) (N := 6) hx hb hts hi3 hown hK hP 6 rfl rfl 2 (by decide) (hts (.fieldLink RX5 78 "TallyLogs$Producer" "mode" "I") (by decide +kernel)) (fun _ h9 => h9) rfl dX5_register_23 ?_
      refine lv_iconst (v := 1) hx hb dX5_register_26 (by decide) ?_
      refine lv_icmp_ne (tgt := 35) hx hb dX5_register_27 (by decide) (fun c206 => ?_) (fun c206 => ?_)
      rotate_left
      · exact absurd c206 (by decide)
      refine lv_aload_n hx hb dX5_register_35 rfl (lv_at hl 0 rfl) ?_
      refine va_get (D := (dC, dI)) (ci := 3) (v := .int 0) (C := RX3) (T := TX3) (N := 6) hx hb hts hi3 hown hK hP 6 rfl rfl 1 (by decide) (hts (.fieldLink RX5 75 "TallyLogs$Producer" "generation" "I") (by decide +kernel)) (fun _ h9 => h9) rfl dX5_register_36 ?_
      refine lv_bipush (v := 8) hx hb dX5_register_39 (by decide) ?_
      refine lv_imul hx hb dX5_register_41 ?_
      refine lv_topi (fun v207 ev207 => ?_)
      obtain rfl : v207 = (0 : Int32) := ev207.trans (by decide)
      refine lv_iload_n hx hb dX5_register_42 rfl (lv_at hl 2 rfl) ?_
      refine lv_iadd hx hb dX5_register_43 ?_
      refine lv_topi (fun v208 ev208 => ?_)
      exact W.iret (v := v208) hx hb hr (fun t ht hW => ⟨⟨v208, (), rfl, by subst ev208; rw [sp_rg, if_pos (by rw [hn196, nI_toInt (by omega)]; omega)]; exact Int32.zero_add xk, trivial⟩, hS.F ht⟩) hS.2.2 dX5_register_44
    · rw [ho196]
      refine W.eq (g2 := F0 m 5 ls [.ref (v 7)]) rfl ?_
      refine lv_astore_n (lv' := [(2, .ref (v 7)), (0, .ref (v 0)), (1, .int xk)]) hx hb dX5_register_5 rfl hl (by decide) rfl (fun ls hl => ?_)
      refine lv_aload_n hx hb dX5_register_6 rfl (lv_at hl 0 rfl) ?_
      refine lv_ifnonnull (tgt := 12) hx hb dX5_register_7 (by decide) ?_
      refine lv_aload_n hx hb dX5_register_12 rfl (lv_at hl 0 rfl) ?_
      refine lv_dup hx hb dX5_register_13 rfl ?_
      refine va_get (D := (dC, dI)) (ci := 3) (v := .int (-1)) (C := RX3) (T := TX3) (N := 6) hx hb hts hi3 hown hK hP 7 rfl rfl 1 (by decide) (hts (.fieldLink RX5 75 "TallyLogs$Producer" "generation" "I") (by decide +kernel)) (fun _ h9 => h9) rfl dX5_register_14 ?_
      refine lv_iconst (v := 1) hx hb dX5_register_17 (by decide) ?_
      refine lv_iadd hx hb dX5_register_18 ?_
      refine lv_topi (fun v209 ev209 => ?_)
      obtain rfl : v209 = (0 : Int32) := ev209.trans (by decide)
      refine va_put (D := (dC, dI)) (ci := 3) (v := .int 0) (ty := .int) (C := RX3) (T := TX3) (N := 6) hx hb hts hi3 tyX3 tyX3_ok nmX3 hown hK hP hD hS 7 rfl rfl 1 (by decide) (hts (.fieldLink RX5 75 "TallyLogs$Producer" "generation" "I") (by decide +kernel)) (fun _ h9 => h9) rfl (by decide +kernel) rfl rfl (Nat.le_of_ble_eq_true rfl) dX5_register_19 (fun H locs hP hD hS => ?_)
      refine lv_aload_n hx hb dX5_register_22 rfl (lv_at hl 0 rfl) ?_
      refine va_get (D := (dC, dI)) (ci := 3) (v := .int 0) (C := RX3) (T := TX3) (N := 6) hx hb hts hi3 hown hK hP 7 rfl rfl 2 (by decide) (hts (.fieldLink RX5 78 "TallyLogs$Producer" "mode" "I") (by decide +kernel)) (fun _ h9 => h9) rfl dX5_register_23 ?_
      refine lv_iconst (v := 1) hx hb dX5_register_26 (by decide) ?_
      refine lv_icmp_ne (tgt := 35) hx hb dX5_register_27 (by decide) (fun c210 => ?_) (fun c210 => ?_)
      rotate_left
      · exact absurd c210 (by decide)
      refine lv_aload_n hx hb dX5_register_35 rfl (lv_at hl 0 rfl) ?_
      refine va_get (D := (dC, dI)) (ci := 3) (v := .int 0) (C := RX3) (T := TX3) (N := 6) hx hb hts hi3 hown hK hP 7 rfl rfl 1 (by decide) (hts (.fieldLink RX5 75 "TallyLogs$Producer" "generation" "I") (by decide +kernel)) (fun _ h9 => h9) rfl dX5_register_36 ?_
      refine lv_bipush (v := 8) hx hb dX5_register_39 (by decide) ?_
      refine lv_imul hx hb dX5_register_41 ?_
      refine lv_topi (fun v211 ev211 => ?_)
      obtain rfl : v211 = (0 : Int32) := ev211.trans (by decide)
      refine lv_iload_n hx hb dX5_register_42 rfl (lv_at hl 2 rfl) ?_
      refine lv_iadd hx hb dX5_register_43 ?_
      refine lv_topi (fun v212 ev212 => ?_)
      exact W.iret (v := v212) hx hb hr (fun t ht hW => ⟨⟨v212, (), rfl, by subst ev212; rw [sp_rg, if_pos (by rw [hn196, nI_toInt (by omega)]; omega)]; exact Int32.zero_add xk, trivial⟩, hS.F ht⟩) hS.2.2 dX5_register_44
    · rw [ho196]
      refine W.eq (g2 := F0 m 5 ls [.ref (v 8)]) rfl ?_
      refine lv_astore_n (lv' := [(2, .ref (v 8)), (0, .ref (v 0)), (1, .int xk)]) hx hb dX5_register_5 rfl hl (by decide) rfl (fun ls hl => ?_)
      refine lv_aload_n hx hb dX5_register_6 rfl (lv_at hl 0 rfl) ?_
      refine lv_ifnonnull (tgt := 12) hx hb dX5_register_7 (by decide) ?_
      refine lv_aload_n hx hb dX5_register_12 rfl (lv_at hl 0 rfl) ?_
      refine lv_dup hx hb dX5_register_13 rfl ?_
      refine va_get (D := (dC, dI)) (ci := 3) (v := .int (-1)) (C := RX3) (T := TX3) (N := 6) hx hb hts hi3 hown hK hP 8 rfl rfl 1 (by decide) (hts (.fieldLink RX5 75 "TallyLogs$Producer" "generation" "I") (by decide +kernel)) (fun _ h9 => h9) rfl dX5_register_14 ?_
      refine lv_iconst (v := 1) hx hb dX5_register_17 (by decide) ?_
      refine lv_iadd hx hb dX5_register_18 ?_
      refine lv_topi (fun v213 ev213 => ?_)
      obtain rfl : v213 = (0 : Int32) := ev213.trans (by decide)
      refine va_put (D := (dC, dI)) (ci := 3) (v := .int 0) (ty := .int) (C := RX3) (T := TX3) (N := 6) hx hb hts hi3 tyX3 tyX3_ok nmX3 hown hK hP hD hS 8 rfl rfl 1 (by decide) (hts (.fieldLink RX5 75 "TallyLogs$Producer" "generation" "I") (by decide +kernel)) (fun _ h9 => h9) rfl (by decide +kernel) rfl rfl (Nat.le_of_ble_eq_true rfl) dX5_register_19 (fun H locs hP hD hS => ?_)
      refine lv_aload_n hx hb dX5_register_22 rfl (lv_at hl 0 rfl) ?_
      refine va_get (D := (dC, dI)) (ci := 3) (v := .int 0) (C := RX3) (T := TX3) (N := 6) hx hb hts hi3 hown hK hP 8 rfl rfl 2 (by decide) (hts (.fieldLink RX5 78 "TallyLogs$Producer" "mode" "I") (by decide +kernel)) (fun _ h9 => h9) rfl dX5_register_23 ?_
      refine lv_iconst (v := 1) hx hb dX5_register_26 (by decide) ?_
      refine lv_icmp_ne (tgt := 35) hx hb dX5_register_27 (by decide) (fun c214 => ?_) (fun c214 => ?_)
      rotate_left
      · exact absurd c214 (by decide)
      refine lv_aload_n hx hb dX5_register_35 rfl (lv_at hl 0 rfl) ?_
      refine va_get (D := (dC, dI)) (ci := 3) (v := .int 0) (C := RX3) (T := TX3) (N := 6) hx hb hts hi3 hown hK hP 8 rfl rfl 1 (by decide) (hts (.fieldLink RX5 75 "TallyLogs$Producer" "generation" "I") (by decide +kernel)) (fun _ h9 => h9) rfl dX5_register_36 ?_
      refine lv_bipush (v := 8) hx hb dX5_register_39 (by decide) ?_
      refine lv_imul hx hb dX5_register_41 ?_
      refine lv_topi (fun v215 ev215 => ?_)
      obtain rfl : v215 = (0 : Int32) := ev215.trans (by decide)
      refine lv_iload_n hx hb dX5_register_42 rfl (lv_at hl 2 rfl) ?_
      refine lv_iadd hx hb dX5_register_43 ?_
      refine lv_topi (fun v216 ev216 => ?_)
      exact W.iret (v := v216) hx hb hr (fun t ht hW => ⟨⟨v216, (), rfl, by subst ev216; rw [sp_rg, if_pos (by rw [hn196, nI_toInt (by omega)]; omega)]; exact Int32.zero_add xk, trivial⟩, hS.F ht⟩) hS.2.2 dX5_register_44
    · rw [ho196]
      refine W.eq (g2 := F0 m 5 ls [.ref (v 9)]) rfl ?_
      refine lv_astore_n (lv' := [(2, .ref (v 9)), (0, .ref (v 0)), (1, .int xk)]) hx hb dX5_register_5 rfl hl (by decide) rfl (fun ls hl => ?_)
      refine lv_aload_n hx hb dX5_register_6 rfl (lv_at hl 0 rfl) ?_
      refine lv_ifnonnull (tgt := 12) hx hb dX5_register_7 (by decide) ?_
      refine lv_aload_n hx hb dX5_register_12 rfl (lv_at hl 0 rfl) ?_
      refine lv_dup hx hb dX5_register_13 rfl ?_
      refine va_get (D := (dC, dI)) (ci := 3) (v := .int (-1)) (C := RX3) (T := TX3) (N := 6) hx hb hts hi3 hown hK hP 9 rfl rfl 1 (by decide) (hts (.fieldLink RX5 75 "TallyLogs$Producer" "generation" "I") (by decide +kernel)) (fun _ h9 => h9) rfl dX5_register_14 ?_
      refine lv_iconst (v := 1) hx hb dX5_register_17 (by decide) ?_
      refine lv_iadd hx hb dX5_register_18 ?_
      refine lv_topi (fun v217 ev217 => ?_)
      obtain rfl : v217 = (0 : Int32) := ev217.trans (by decide)
      refine va_put (D := (dC, dI)) (ci := 3) (v := .int 0) (ty := .int) (C := RX3) (T := TX3) (N := 6) hx hb hts hi3 tyX3 tyX3_ok nmX3 hown hK hP hD hS 9 rfl rfl 1 (by decide) (hts (.fieldLink RX5 75 "TallyLogs$Producer" "generation" "I") (by decide +kernel)) (fun _ h9 => h9) rfl (by decide +kernel) rfl rfl (Nat.le_of_ble_eq_true rfl) dX5_register_19 (fun H locs hP hD hS => ?_)
      refine lv_aload_n hx hb dX5_register_22 rfl (lv_at hl 0 rfl) ?_
      refine va_get (D := (dC, dI)) (ci := 3) (v := .int 0) (C := RX3) (T := TX3) (N := 6) hx hb hts hi3 hown hK hP 9 rfl rfl 2 (by decide) (hts (.fieldLink RX5 78 "TallyLogs$Producer" "mode" "I") (by decide +kernel)) (fun _ h9 => h9) rfl dX5_register_23 ?_
      refine lv_iconst (v := 1) hx hb dX5_register_26 (by decide) ?_
      refine lv_icmp_ne (tgt := 35) hx hb dX5_register_27 (by decide) (fun c218 => ?_) (fun c218 => ?_)
      rotate_left
      · exact absurd c218 (by decide)
      refine lv_aload_n hx hb dX5_register_35 rfl (lv_at hl 0 rfl) ?_
      refine va_get (D := (dC, dI)) (ci := 3) (v := .int 0) (C := RX3) (T := TX3) (N := 6) hx hb hts hi3 hown hK hP 9 rfl rfl 1 (by decide) (hts (.fieldLink RX5 75 "TallyLogs$Producer" "generation" "I") (by decide +kernel)) (fun _ h9 => h9) rfl dX5_register_36 ?_
      refine lv_bipush (v := 8) hx hb dX5_register_39 (by decide) ?_
      refine lv_imul hx hb dX5_register_41 ?_
      refine lv_topi (fun v219 ev219 => ?_)
      obtain rfl : v219 = (0 : Int32) := ev219.trans (by decide)
      refine lv_iload_n hx hb dX5_register_42 rfl (lv_at hl 2 rfl) ?_
      refine lv_iadd hx hb dX5_register_43 ?_
      refine lv_topi (fun v220 ev220 => ?_)
      exact W.iret (v := v220) hx hb hr (fun t ht hW => ⟨⟨v220, (), rfl, by subst ev220; rw [sp_rg, if_pos (by rw [hn196, nI_toInt (by omega)]; omega)]; exact Int32.zero_add xk, trivial⟩, hS.F ht⟩) hS.2.2 dX5_register_44
set_option maxHeartbeats 4000000 in
set_option maxRecDepth 100000 in
/-- member -/
theorem c_X5_member (l : Launch) (dC : Nat → ClassId) (dI : Nat → Nat → Nat) (v : Nat → Nat) (cy : Nat → ClassId) (sz : Nat) (xg : Int32) (xm : Int32) : Met l yX5_member wsX5_member ({ frames := 1, cells := 0, slots := 0, locals := 21 }) (va_Pc [.ref (v 0), .int xg, .int xm] (fun U => U.heap.size = sz ∧ fxB dC dI v cy U ∧ va_D (fun _ => True) (fxW v cy))) (va_Qi (fun (r : Int32) (_ : Unit) => r = sp_mb xg xm) (fun _ _ => True) (va_A (fxW v cy) sz)) 0 0 (va_A (fxW v cy) sz) := by
  refine Met.ofW (cc := cX5_member) (maxL := 4) (ret := (some .int)) (by decide) rfl ?_
  intro p e s m args below meth c s₁ B hml hv
  obtain ⟨rfl, hsz, ⟨hP, hK⟩, hD0⟩ := hv
  have hx := B.exec
  have hb := B.bytes
  have hr := B.returns
  have hts := atoms_spec (ws := wsX5_member) B.pre
  have hown : s.vm.findClass RX5 = some m.cls := findClass_of_methodNamed B.named
  have hlocks := B.notSynchronized
  have hi1 : ∀ w ∈ wsX10, w ∈ wsX5_member := by decide +kernel
  have hi5 : ∀ w ∈ wsX50, w ∈ wsX5_member := by decide +kernel
  have hl := lv_entry ([.ref (v 0), .int xg, .int xm]) (n := 4) (Nat.le_of_ble_eq_true rfl)
  rw [lg_entry_eq]
  generalize (lg_sl ([.ref (v 0), .int xg, .int xm]) ++ List.replicate (4 - (lg_sl ([.ref (v 0), .int xg, .int xm])).length) Slot.unset).toArray = ls at hl ⊢
  have hl : lv_has ls 4 [(0, .ref (v 0)), (1, .int xg), (2, .int xm)] := hl
  subst hsz
  have hD := hD0.self (sz := s.heap.size)
  generalize hAe : va_A (fxW v cy) s.heap.size = A at hD ⊢
  have hA : ∀ q : Nat, s.heap.size ≤ q → A q := fun q h => by rw [← hAe]; exact Or.inr h
  have hS : va_S A s.heap s.heap [] := va_S.rf
  refine lv_aload_n hx hb dX5_member_0 rfl (lv_at hl 0 rfl) ?_
  refine lv_iload_n hx hb dX5_member_1 rfl (lv_at hl 1 rfl) ?_
  refine va_csq (W.runV (As := [.int xg]) (rest := []) ⟨hx, hb, hml, hown, hts⟩ (c_X5_groupAt l dC dI v cy xg) (cwV 1 hts gX5_member_X5_groupAt rfl rfl rfl (by decide +kernel) ⟨Nat.le_of_ble_eq_true rfl, Nat.le_of_ble_eq_true rfl⟩) ⟨fx_blind, va_recv hK hP (ci := 5) (q0 := 0) rfl rfl, fun U hU hW => ⟨rfl, fx_pre hP hK hU hW⟩⟩ rfl rfl hl.1 rfl (lv_room (Nat.le_of_ble_eq_true rfl)) dX5_member_2 ⟨Nat.le_of_ble_eq_true rfl, Nat.le_of_ble_eq_true rfl⟩) (fun r221 hr221 => ?_)
  subst hr221
  rcases gAt_cs v xg with ⟨hn222, ho222⟩ | ⟨j222, hj222, hn222, ho222⟩
  · rw [ho222]
    refine W.eq (g2 := F0 m 5 ls [.null]) rfl ?_
    refine lv_astore_nN (lv' := [(3, .null), (0, .ref (v 0)), (1, .int xg), (2, .int xm)]) hx hb dX5_member_5 rfl hl (by decide) rfl (fun ls hl => ?_)
    refine lv_aload_nN hx hb dX5_member_6 rfl (lv_at hl 0 rfl) ?_
    refine lv_ifnullN (tgt := 20) hx hb dX5_member_7 (by decide) ?_
    refine lv_iconst (v := (-1)) hx hb dX5_member_20 (by decide) ?_
    exact W.iret (v := (-1)) hx hb hr (fun t ht hW => ⟨⟨(-1), (), rfl, by show _ = _; unfold sp_mb; split <;> first | rfl | omega, trivial⟩, hS.F ht⟩) hS.2.2 dX5_member_21
  · rcases (show j222 = 0 ∨ j222 = 1 ∨ j222 = 2 ∨ j222 = 3 by omega) with rfl | rfl | rfl | rfl
    · rw [ho222]
      refine W.eq (g2 := F0 m 5 ls [.ref (v 10)]) rfl ?_
      refine lv_astore_n (lv' := [(3, .ref (v 10)), (0, .ref (v 0)), (1, .int xg), (2, .int xm)]) hx hb dX5_member_5 rfl hl (by decide) rfl (fun ls hl => ?_)
      refine lv_aload_n hx hb dX5_member_6 rfl (lv_at hl 0 rfl) ?_
      refine lv_ifnull hx hb dX5_member_7 ?_
      refine lv_iload_n hx hb dX5_member_10 rfl (lv_at hl 3 rfl) ?_
      refine lv_if_lt (tgt := 20) hx hb dX5_member_11 (by decide) (fun c223 => ?_) (fun c223 => ?_)
      · refine lv_iconst (v := (-1)) hx hb dX5_member_20 (by decide) ?_
        exact W.iret (v := (-1)) hx hb hr (fun t ht hW => ⟨⟨(-1), (), rfl, by show _ = _; have kc223 := c223; simp only [xk_lt, xk_le, xk_0, xk_1, xk_2, xk_3, xk_4, xk_5, xk_6, xk_7, xk_8, xk_50] at kc223; have kg := congrArg Int32.toInt hn222; rw [nI_toInt (by omega)] at kg; unfold sp_mb; split <;> first | rfl | omega, trivial⟩, hS.F ht⟩) hS.2.2 dX5_member_21
      · refine lv_iload_n hx hb dX5_member_14 rfl (lv_at hl 3 rfl) ?_
        refine lv_bipush (v := 8) hx hb dX5_member_15 (by decide) ?_
        refine lv_icmp_lt (tgt := 22) hx hb dX5_member_17 (by decide) (fun c224 => ?_) (fun c224 => ?_)
        · refine lv_aload_n hx hb dX5_member_22 rfl (lv_at hl 0 rfl) ?_
          refine lv_dup hx hb dX5_member_23 rfl ?_
          refine va_get (D := (dC, dI)) (ci := 1) (v := .int 0) (C := RX1) (T := TX1) (N := 3) hx hb hts hi1 hown hK hP 10 rfl rfl 0 (by decide) (hts (.fieldLink RX5 198 "TallyLogs$Group" "members" "I") (by decide +kernel)) (fun _ h9 => h9) rfl dX5_member_24 ?_
          refine lv_iconst (v := 1) hx hb dX5_member_27 (by decide) ?_
          refine lv_iload_n hx hb dX5_member_28 rfl (lv_at hl 3 rfl) ?_
          refine lv_ishl hx hb dX5_member_29 ?_
          refine lv_topi (fun v225 ev225 => ?_)
          refine lv_ixor hx hb dX5_member_30 ?_
          refine lv_topi (fun v226 ev226 => ?_)
          refine va_put (D := (dC, dI)) (ci := 1) (v := .int v226) (ty := .int) (C := RX1) (T := TX1) (N := 3) hx hb hts hi1 tyX1 tyX1_ok nmX1 hown hK hP hD hS 10 rfl rfl 0 (by decide) (hts (.fieldLink RX5 198 "TallyLogs$Group" "members" "I") (by decide +kernel)) (fun _ h9 => h9) rfl (by decide +kernel) rfl rfl (Nat.le_of_ble_eq_true rfl) dX5_member_31 (fun H locs hP hD hS => ?_)
          refine lv_aload_n hx hb dX5_member_34 rfl (lv_at hl 0 rfl) ?_
          refine lv_dup hx hb dX5_member_35 rfl ?_
          refine va_get (D := (dC, dI)) (ci := 1) (v := .int 0) (C := RX1) (T := TX1) (N := 3) hx hb hts hi1 hown hK hP 10 rfl rfl 1 (by decide) (hts (.fieldLink RX5 201 "TallyLogs$Group" "round" "I") (by decide +kernel)) (fun _ h9 => h9) rfl dX5_member_36 ?_
          refine lv_iconst (v := 1) hx hb dX5_member_39 (by decide) ?_
          refine lv_iadd hx hb dX5_member_40 ?_
          refine lv_topi (fun v227 ev227 => ?_)
          obtain rfl : v227 = (1 : Int32) := ev227.trans (by decide)
          refine va_put (D := (dC, dI)) (ci := 1) (v := .int 1) (ty := .int) (C := RX1) (T := TX1) (N := 3) hx hb hts hi1 tyX1 tyX1_ok nmX1 hown hK hP hD hS 10 rfl rfl 1 (by decide) (hts (.fieldLink RX5 201 "TallyLogs$Group" "round" "I") (by decide +kernel)) (fun _ h9 => h9) rfl (by decide +kernel) rfl rfl (Nat.le_of_ble_eq_true rfl) dX5_member_41 (fun H locs hP hD hS => ?_)
          refine lv_aload_n hx hb dX5_member_44 rfl (lv_at hl 0 rfl) ?_
          refine va_get (D := (dC, dI)) (ci := 1) (v := .int 1) (C := RX1) (T := TX1) (N := 3) hx hb hts hi1 hown hK hP 10 rfl rfl 1 (by decide) (hts (.fieldLink RX5 201 "TallyLogs$Group" "round" "I") (by decide +kernel)) (fun _ h9 => h9) rfl dX5_member_45 ?_
          exact W.iret (v := 1) hx hb hr (fun t ht hW => ⟨⟨1, (), rfl, by show _ = _; have kc223 := c223; have kc224 := c224; simp only [xk_lt, xk_le, xk_0, xk_1, xk_2, xk_3, xk_4, xk_5, xk_6, xk_7, xk_8, xk_50] at kc223 kc224; have kg := congrArg Int32.toInt hn222; rw [nI_toInt (by omega)] at kg; unfold sp_mb; split <;> first | rfl | omega, trivial⟩, hS.F ht⟩) hS.2.2 dX5_member_48
        · refine lv_iconst (v := (-1)) hx hb dX5_member_20 (by decide) ?_
          exact W.iret (v := (-1)) hx hb hr (fun t ht hW => ⟨⟨(-1), (), rfl, by show _ = _; have kc223 := c223; have kc224 := c224; simp only [xk_lt, xk_le, xk_0, xk_1, xk_2, xk_3, xk_4, xk_5, xk_6, xk_7, xk_8, xk_50] at kc223 kc224; have kg := congrArg Int32.toInt hn222; rw [nI_toInt (by omega)] at kg; unfold sp_mb; split <;> first | rfl | omega, trivial⟩, hS.F ht⟩) hS.2.2 dX5_member_21
    · rw [ho222]
      refine W.eq (g2 := F0 m 5 ls [.ref (v 11)]) rfl ?_
      refine lv_astore_n (lv' := [(3, .ref (v 11)), (0, .ref (v 0)), (1, .int xg), (2, .int xm)]) hx hb dX5_member_5 rfl hl (by decide) rfl (fun ls hl => ?_)
      refine lv_aload_n hx hb dX5_member_6 rfl (lv_at hl 0 rfl) ?_
      refine lv_ifnull hx hb dX5_member_7 ?_
      refine lv_iload_n hx hb dX5_member_10 rfl (lv_at hl 3 rfl) ?_
      refine lv_if_lt (tgt := 20) hx hb dX5_member_11 (by decide) (fun c228 => ?_) (fun c228 => ?_)
      · refine lv_iconst (v := (-1)) hx hb dX5_member_20 (by decide) ?_
        exact W.iret (v := (-1)) hx hb hr (fun t ht hW => ⟨⟨(-1), (), rfl, by show _ = _; have kc228 := c228; simp only [xk_lt, xk_le, xk_0, xk_1, xk_2, xk_3, xk_4, xk_5, xk_6, xk_7, xk_8, xk_50] at kc228; have kg := congrArg Int32.toInt hn222; rw [nI_toInt (by omega)] at kg; unfold sp_mb; split <;> first | rfl | omega, trivial⟩, hS.F ht⟩) hS.2.2 dX5_member_21
      · refine lv_iload_n hx hb dX5_member_14 rfl (lv_at hl 3 rfl) ?_
        refine lv_bipush (v := 8) hx hb dX5_member_15 (by decide) ?_
        refine lv_icmp_lt (tgt := 22) hx hb dX5_member_17 (by decide) (fun c229 => ?_) (fun c229 => ?_)
        · refine lv_aload_n hx hb dX5_member_22 rfl (lv_at hl 0 rfl) ?_
          refine lv_dup hx hb dX5_member_23 rfl ?_
          refine va_get (D := (dC, dI)) (ci := 1) (v := .int 0) (C := RX1) (T := TX1) (N := 3) hx hb hts hi1 hown hK hP 11 rfl rfl 0 (by decide) (hts (.fieldLink RX5 198 "TallyLogs$Group" "members" "I") (by decide +kernel)) (fun _ h9 => h9) rfl dX5_member_24 ?_
          refine lv_iconst (v := 1) hx hb dX5_member_27 (by decide) ?_
          refine lv_iload_n hx hb dX5_member_28 rfl (lv_at hl 3 rfl) ?_
          refine lv_ishl hx hb dX5_member_29 ?_
          refine lv_topi (fun v230 ev230 => ?_)
          refine lv_ixor hx hb dX5_member_30 ?_
          refine lv_topi (fun v231 ev231 => ?_)
          refine va_put (D := (dC, dI)) (ci := 1) (v := .int v231) (ty := .int) (C := RX1) (T := TX1) (N := 3) hx hb hts hi1 tyX1 tyX1_ok nmX1 hown hK hP hD hS 11 rfl rfl 0 (by decide) (hts (.fieldLink RX5 198 "TallyLogs$Group" "members" "I") (by decide +kernel)) (fun _ h9 => h9) rfl (by decide +kernel) rfl rfl (Nat.le_of_ble_eq_true rfl) dX5_member_31 (fun H locs hP hD hS => ?_)
          refine lv_aload_n hx hb dX5_member_34 rfl (lv_at hl 0 rfl) ?_
          refine lv_dup hx hb dX5_member_35 rfl ?_
          refine va_get (D := (dC, dI)) (ci := 1) (v := .int 0) (C := RX1) (T := TX1) (N := 3) hx hb hts hi1 hown hK hP 11 rfl rfl 1 (by decide) (hts (.fieldLink RX5 201 "TallyLogs$Group" "round" "I") (by decide +kernel)) (fun _ h9 => h9) rfl dX5_member_36 ?_
          refine lv_iconst (v := 1) hx hb dX5_member_39 (by decide) ?_
          refine lv_iadd hx hb dX5_member_40 ?_
          refine lv_topi (fun v232 ev232 => ?_)
          obtain rfl : v232 = (1 : Int32) := ev232.trans (by decide)
          refine va_put (D := (dC, dI)) (ci := 1) (v := .int 1) (ty := .int) (C := RX1) (T := TX1) (N := 3) hx hb hts hi1 tyX1 tyX1_ok nmX1 hown hK hP hD hS 11 rfl rfl 1 (by decide) (hts (.fieldLink RX5 201 "TallyLogs$Group" "round" "I") (by decide +kernel)) (fun _ h9 => h9) rfl (by decide +kernel) rfl rfl (Nat.le_of_ble_eq_true rfl) dX5_member_41 (fun H locs hP hD hS => ?_)
          refine lv_aload_n hx hb dX5_member_44 rfl (lv_at hl 0 rfl) ?_
          refine va_get (D := (dC, dI)) (ci := 1) (v := .int 1) (C := RX1) (T := TX1) (N := 3) hx hb hts hi1 hown hK hP 11 rfl rfl 1 (by decide) (hts (.fieldLink RX5 201 "TallyLogs$Group" "round" "I") (by decide +kernel)) (fun _ h9 => h9) rfl dX5_member_45 ?_
          exact W.iret (v := 1) hx hb hr (fun t ht hW => ⟨⟨1, (), rfl, by show _ = _; have kc228 := c228; have kc229 := c229; simp only [xk_lt, xk_le, xk_0, xk_1, xk_2, xk_3, xk_4, xk_5, xk_6, xk_7, xk_8, xk_50] at kc228 kc229; have kg := congrArg Int32.toInt hn222; rw [nI_toInt (by omega)] at kg; unfold sp_mb; split <;> first | rfl | omega, trivial⟩, hS.F ht⟩) hS.2.2 dX5_member_48
        · refine lv_iconst (v := (-1)) hx hb dX5_member_20 (by decide) ?_
          exact W.iret (v := (-1)) hx hb hr (fun t ht hW => ⟨⟨(-1), (), rfl, by show _ = _; have kc228 := c228; have kc229 := c229; simp only [xk_lt, xk_le, xk_0, xk_1, xk_2, xk_3, xk_4, xk_5, xk_6, xk_7, xk_8, xk_50] at kc228 kc229; have kg := congrArg Int32.toInt hn222; rw [nI_toInt (by omega)] at kg; unfold sp_mb; split <;> first | rfl | omega, trivial⟩, hS.F ht⟩) hS.2.2 dX5_member_21
    · rw [ho222]
      refine W.eq (g2 := F0 m 5 ls [.ref (v 12)]) rfl ?_
      refine lv_astore_n (lv' := [(3, .ref (v 12)), (0, .ref (v 0)), (1, .int xg), (2, .int xm)]) hx hb dX5_member_5 rfl hl (by decide) rfl (fun ls hl => ?_)
      refine lv_aload_n hx hb dX5_member_6 rfl (lv_at hl 0 rfl) ?_
      refine lv_ifnull hx hb dX5_member_7 ?_
      refine lv_iload_n hx hb dX5_member_10 rfl (lv_at hl 3 rfl) ?_
      refine lv_if_lt (tgt := 20) hx hb dX5_member_11 (by decide) (fun c233 => ?_) (fun c233 => ?_)
      · refine lv_iconst (v := (-1)) hx hb dX5_member_20 (by decide) ?_
        exact W.iret (v := (-1)) hx hb hr (fun t ht hW => ⟨⟨(-1), (), rfl, by show _ = _; have kc233 := c233; simp only [xk_lt, xk_le, xk_0, xk_1, xk_2, xk_3, xk_4, xk_5, xk_6, xk_7, xk_8, xk_50] at kc233; have kg := congrArg Int32.toInt hn222; rw [nI_toInt (by omega)] at kg; unfold sp_mb; split <;> first | rfl | omega, trivial⟩, hS.F ht⟩) hS.2.2 dX5_member_21
      · refine lv_iload_n hx hb dX5_member_14 rfl (lv_at hl 3 rfl) ?_
        refine lv_bipush (v := 8) hx hb dX5_member_15 (by decide) ?_
        refine lv_icmp_lt (tgt := 22) hx hb dX5_member_17 (by decide) (fun c234 => ?_) (fun c234 => ?_)
        · refine lv_aload_n hx hb dX5_member_22 rfl (lv_at hl 0 rfl) ?_
          refine lv_dup hx hb dX5_member_23 rfl ?_
          refine va_get (D := (dC, dI)) (ci := 1) (v := .int 0) (C := RX1) (T := TX1) (N := 3) hx hb hts hi1 hown hK hP 12 rfl rfl 0 (by decide) (hts (.fieldLink RX5 198 "TallyLogs$Group" "members" "I") (by decide +kernel)) (fun _ h9 => h9) rfl dX5_member_24 ?_
          refine lv_iconst (v := 1) hx hb dX5_member_27 (by decide) ?_
          refine lv_iload_n hx hb dX5_member_28 rfl (lv_at hl 3 rfl) ?_
          refine lv_ishl hx hb dX5_member_29 ?_
          refine lv_topi (fun v235 ev235 => ?_)
          refine lv_ixor hx hb dX5_member_30 ?_
          refine lv_topi (fun v236 ev236 => ?_)
          refine va_put (D := (dC, dI)) (ci := 1) (v := .int v236) (ty := .int) (C := RX1) (T := TX1) (N := 3) hx hb hts hi1 tyX1 tyX1_ok nmX1 hown hK hP hD hS 12 rfl rfl 0 (by decide) (hts (.fieldLink RX5 198 "TallyLogs$Group" "members" "I") (by decide +kernel)) (fun _ h9 => h9) rfl (by decide +kernel) rfl rfl (Nat.le_of_ble_eq_true rfl) dX5_member_31 (fun H locs hP hD hS => ?_)
          refine lv_aload_n hx hb dX5_member_34 rfl (lv_at hl 0 rfl) ?_
          refine lv_dup hx hb dX5_member_35 rfl ?_
          refine va_get (D := (dC, dI)) (ci := 1) (v := .int 0) (C := RX1) (T := TX1) (N := 3) hx hb hts hi1 hown hK hP 12 rfl rfl 1 (by decide) (hts (.fieldLink RX5 201 "TallyLogs$Group" "round" "I") (by decide +kernel)) (fun _ h9 => h9) rfl dX5_member_36 ?_
          refine lv_iconst (v := 1) hx hb dX5_member_39 (by decide) ?_
          refine lv_iadd hx hb dX5_member_40 ?_
          refine lv_topi (fun v237 ev237 => ?_)
          obtain rfl : v237 = (1 : Int32) := ev237.trans (by decide)
          refine va_put (D := (dC, dI)) (ci := 1) (v := .int 1) (ty := .int) (C := RX1) (T := TX1) (N := 3) hx hb hts hi1 tyX1 tyX1_ok nmX1 hown hK hP hD hS 12 rfl rfl 1 (by decide) (hts (.fieldLink RX5 201 "TallyLogs$Group" "round" "I") (by decide +kernel)) (fun _ h9 => h9) rfl (by decide +kernel) rfl rfl (Nat.le_of_ble_eq_true rfl) dX5_member_41 (fun H locs hP hD hS => ?_)
          refine lv_aload_n hx hb dX5_member_44 rfl (lv_at hl 0 rfl) ?_
          refine va_get (D := (dC, dI)) (ci := 1) (v := .int 1) (C := RX1) (T := TX1) (N := 3) hx hb hts hi1 hown hK hP 12 rfl rfl 1 (by decide) (hts (.fieldLink RX5 201 "TallyLogs$Group" "round" "I") (by decide +kernel)) (fun _ h9 => h9) rfl dX5_member_45 ?_
          exact W.iret (v := 1) hx hb hr (fun t ht hW => ⟨⟨1, (), rfl, by show _ = _; have kc233 := c233; have kc234 := c234; simp only [xk_lt, xk_le, xk_0, xk_1, xk_2, xk_3, xk_4, xk_5, xk_6, xk_7, xk_8, xk_50] at kc233 kc234; have kg := congrArg Int32.toInt hn222; rw [nI_toInt (by omega)] at kg; unfold sp_mb; split <;> first | rfl | omega, trivial⟩, hS.F ht⟩) hS.2.2 dX5_member_48
        · refine lv_iconst (v := (-1)) hx hb dX5_member_20 (by decide) ?_
          exact W.iret (v := (-1)) hx hb hr (fun t ht hW => ⟨⟨(-1), (), rfl, by show _ = _; have kc233 := c233; have kc234 := c234; simp only [xk_lt, xk_le, xk_0, xk_1, xk_2, xk_3, xk_4, xk_5, xk_6, xk_7, xk_8, xk_50] at kc233 kc234; have kg := congrArg Int32.toInt hn222; rw [nI_toInt (by omega)] at kg; unfold sp_mb; split <;> first | rfl | omega, trivial⟩, hS.F ht⟩) hS.2.2 dX5_member_21
    · rw [ho222]
      refine W.eq (g2 := F0 m 5 ls [.ref (v 13)]) rfl ?_
      refine lv_astore_n (lv' := [(3, .ref (v 13)), (0, .ref (v 0)), (1, .int xg), (2, .int xm)]) hx hb dX5_member_5 rfl hl (by decide) rfl (fun ls hl => ?_)
      refine lv_aload_n hx hb dX5_member_6 rfl (lv_at hl 0 rfl) ?_
      refine lv_ifnull hx hb dX5_member_7 ?_
      refine lv_iload_n hx hb dX5_member_10 rfl (lv_at hl 3 rfl) ?_
      refine lv_if_lt (tgt := 20) hx hb dX5_member_11 (by decide) (fun c238 => ?_) (fun c238 => ?_)
      · refine lv_iconst (v := (-1)) hx hb dX5_member_20 (by decide) ?_
        exact W.iret (v := (-1)) hx hb hr (fun t ht hW => ⟨⟨(-1), (), rfl, by show _ = _; have kc238 := c238; simp only [xk_lt, xk_le, xk_0, xk_1, xk_2, xk_3, xk_4, xk_5, xk_6, xk_7, xk_8, xk_50] at kc238; have kg := congrArg Int32.toInt hn222; rw [nI_toInt (by omega)] at kg; unfold sp_mb; split <;> first | rfl | omega, trivial⟩, hS.F ht⟩) hS.2.2 dX5_member_21
      · refine lv_iload_n hx hb dX5_member_14 rfl (lv_at hl 3 rfl) ?_
        refine lv_bipush (v := 8) hx hb dX5_member_15 (by decide) ?_
        refine lv_icmp_lt (tgt := 22) hx hb dX5_member_17 (by decide) (fun c239 => ?_) (fun c239 => ?_)
        · refine lv_aload_n hx hb dX5_member_22 rfl (lv_at hl 0 rfl) ?_
          refine lv_dup hx hb dX5_member_23 rfl ?_
          refine va_get (D := (dC, dI)) (ci := 1) (v := .int 0) (C := RX1) (T := TX1) (N := 3) hx hb hts hi1 hown hK hP 13 rfl rfl 0 (by decide) (hts (.fieldLink RX5 198 "TallyLogs$Group" "members" "I") (by decide +kernel)) (fun _ h9 => h9) rfl dX5_member_24 ?_
          refine lv_iconst (v := 1) hx hb dX5_member_27 (by decide) ?_
          refine lv_iload_n hx hb dX5_member_28 rfl (lv_at hl 3 rfl) ?_
          refine lv_ishl hx hb dX5_member_29 ?_
          refine lv_topi (fun v240 ev240 => ?_)
          refine lv_ixor hx hb dX5_member_30 ?_
          refine lv_topi (fun v241 ev241 => ?_)
          refine va_put (D := (dC, dI)) (ci := 1) (v := .int v241) (ty := .int) (C := RX1) (T := TX1) (N := 3) hx hb hts hi1 tyX1 tyX1_ok nmX1 hown hK hP hD hS 13 rfl rfl 0 (by decide) (hts (.fieldLink RX5 198 "TallyLogs$Group" "members" "I") (by decide +kernel)) (fun _ h9 => h9) rfl (by decide +kernel) rfl rfl (Nat.le_of_ble_eq_true rfl) dX5_member_31 (fun H locs hP hD hS => ?_)
          refine lv_aload_n hx hb dX5_member_34 rfl (lv_at hl 0 rfl) ?_
          refine lv_dup hx hb dX5_member_35 rfl ?_
          refine va_get (D := (dC, dI)) (ci := 1) (v := .int 0) (C := RX1) (T := TX1) (N := 3) hx hb hts hi1 hown hK hP 13 rfl rfl 1 (by decide) (hts (.fieldLink RX5 201 "TallyLogs$Group" "round" "I") (by decide +kernel)) (fun _ h9 => h9) rfl dX5_member_36 ?_
          refine lv_iconst (v := 1) hx hb dX5_member_39 (by decide) ?_
          refine lv_iadd hx hb dX5_member_40 ?_
          refine lv_topi (fun v242 ev242 => ?_)
          obtain rfl : v242 = (1 : Int32) := ev242.trans (by decide)
          refine va_put (D := (dC, dI)) (ci := 1) (v := .int 1) (ty := .int) (C := RX1) (T := TX1) (N := 3) hx hb hts hi1 tyX1 tyX1_ok nmX1 hown hK hP hD hS 13 rfl rfl 1 (by decide) (hts (.fieldLink RX5 201 "TallyLogs$Group" "round" "I") (by decide +kernel)) (fun _ h9 => h9) rfl (by decide +kernel) rfl rfl (Nat.le_of_ble_eq_true rfl) dX5_member_41 (fun H locs hP hD hS => ?_)
          refine lv_aload_n hx hb dX5_member_44 rfl (lv_at hl 0 rfl) ?_
          refine va_get (D := (dC, dI)) (ci := 1) (v := .int 1) (C := RX1) (T := TX1) (N := 3) hx hb hts hi1 hown hK hP 13 rfl rfl 1 (by decide) (hts (.fieldLink RX5 201 "TallyLogs$Group" "round" "I") (by decide +kernel)) (fun _ h9 => h9) rfl dX5_member_45 ?_
          exact W.iret (v := 1) hx hb hr (fun t ht hW => ⟨⟨1, (), rfl, by show _ = _; have kc238 := c238; have kc239 := c239; simp only [xk_lt, xk_le, xk_0, xk_1, xk_2, xk_3, xk_4, xk_5, xk_6, xk_7, xk_8, xk_50] at kc238 kc239; have kg := congrArg Int32.toInt hn222; rw [nI_toInt (by omega)] at kg; unfold sp_mb; split <;> first | rfl | omega, trivial⟩, hS.F ht⟩) hS.2.2 dX5_member_48
        · refine lv_iconst (v := (-1)) hx hb dX5_member_20 (by decide) ?_
          exact W.iret (v := (-1)) hx hb hr (fun t ht hW => ⟨⟨(-1), (), rfl, by show _ = _; have kc238 := c238; have kc239 := c239; simp only [xk_lt, xk_le, xk_0, xk_1, xk_2, xk_3, xk_4, xk_5, xk_6, xk_7, xk_8, xk_50] at kc238 kc239; have kg := congrArg Int32.toInt hn222; rw [nI_toInt (by omega)] at kg; unfold sp_mb; split <;> first | rfl | omega, trivial⟩, hS.F ht⟩) hS.2.2 dX5_member_21
