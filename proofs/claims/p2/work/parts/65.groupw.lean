set_option maxHeartbeats 4000000 in
set_option maxRecDepth 100000 in
/-- owner -/
theorem c_X5_owner (l : Launch) (dC : Nat → ClassId) (dI : Nat → Nat → Nat) (cy : Nat → ClassId) (v : Nat → Nat) (L : List Nat) (K N : Nat → Nat) (T : Nat → Nat → Nat) (I : Nat → Nat → Int32) (Q : Nat → Nat → Option Nat) (J : Nat → Nat → Int32) (xg : Int32) (xp : Int32) (hC : CT v L K N T I Q) : Met l yX5_owner wsX5_owner ({ frames := 2, cells := 0, slots := 0, locals := 45 }) (va_Pc [.ref (v 0), .int xg, .int xp] (pB dC dI cy L (pF cy K N T I Q J))) (vp_Si (fun r => True)) 0 0 (fun _ => False) := by
  refine Met.ofW (cc := cX5_owner) (maxL := 5) (ret := (some .int)) (by decide) rfl ?_
  intro p e s m args below meth c s₁ B hml hv
  obtain ⟨rfl, hP, hK, hN⟩ := hv
  have hx := B.exec
  have hb := B.bytes
  have hr := B.returns
  have hts := atoms_spec (ws := wsX5_owner) B.pre
  have hown : s.vm.findClass RX5 = some m.cls := findClass_of_methodNamed B.named
  have hlocks := B.notSynchronized
  have hi5 : ∀ w ∈ wsX50, w ∈ wsX5_owner := by decide +kernel
  have hl := lv_entry ([.ref (v 0), .int xg, .int xp]) (n := 5) (Nat.le_of_ble_eq_true rfl)
  rw [lg_entry_eq]
  generalize (lg_sl ([.ref (v 0), .int xg, .int xp]) ++ List.replicate (5 - (lg_sl ([.ref (v 0), .int xg, .int xp])).length) Slot.unset).toArray = ls at hl ⊢
  have hl : lv_has ls 5 [(0, .ref (v 0)), (1, .int xg), (2, .int xp)] := hl
  have hn28 := hN.1
  have hn30 := hN.2.1
  have hn37 := hN.2.2.1
  refine lv_aload_n hx hb dX5_owner_0 rfl (lv_at hl 0 rfl) ?_
  refine lv_iload_n hx hb dX5_owner_1 rfl (lv_at hl 1 rfl) ?_
  obtain ⟨j1451, hj1451⟩ := pG_5 (cy := cy) (N := N) (T := T) (I := I) (Q := Q) (J := J) (hC.at 0 (by decide)) (hC.k 0 (by decide) rfl)
  refine va_csq (W.runV (As := [.int xg]) (rest := []) ⟨hx, hb, hml, hown, hts⟩ (c_X5_groupAt l dC dI cy v L K N T I Q J  xg hC) (cwV 1 hts gX5_owner_X5_groupAt rfl rfl rfl (by decide +kernel) ⟨Nat.le_of_ble_eq_true rfl, Nat.le_of_ble_eq_true rfl⟩) ⟨pb_blind, va_recv hK hP (ci := 5) (q0 := j1451) rfl hj1451, fun U hU hW => ⟨rfl, pb_pre hP hK hN hU hW⟩⟩ rfl rfl hl.1 rfl (lv_room (Nat.le_of_ble_eq_true rfl)) dX5_owner_2 ⟨Nat.le_of_ble_eq_true rfl, Nat.le_of_ble_eq_true rfl⟩) (fun r1450 hr1450 => ?_)
  rcases hr1450 with ⟨hn1452, rfl⟩ | ⟨j1452, hj1452, hn1452, rfl⟩
  · refine W.eq (g2 := F0 m 5 ls [.null]) rfl ?_
    refine lv_astore_nN (lv' := [(3, .null), (0, .ref (v 0)), (1, .int xg), (2, .int xp)]) hx hb dX5_owner_5 rfl hl (by decide) rfl (fun ls hl => ?_)
    refine lv_aload_nN hx hb dX5_owner_6 rfl (lv_at hl 0 rfl) ?_
    refine lv_ifnullN (tgt := 18) hx hb dX5_owner_7 (by decide) ?_
    refine lv_iconst (v := (-1)) hx hb dX5_owner_18 (by decide) ?_
    exact W.iret (v := (-1)) hx hb hr (fun t ht hW => ⟨(-1), rfl, trivial, ht⟩) (fun _ h => by cases h) dX5_owner_19
  · refine W.eq (g2 := F0 m 5 ls [.ref (v (10 + j1452))]) rfl ?_
    refine lv_astore_n (lv' := [(3, .ref (v (10 + j1452))), (0, .ref (v 0)), (1, .int xg), (2, .int xp)]) hx hb dX5_owner_5 rfl hl (by decide) rfl (fun ls hl => ?_)
    refine lv_aload_n hx hb dX5_owner_6 rfl (lv_at hl 0 rfl) ?_
    refine lv_ifnull hx hb dX5_owner_7 ?_
    refine lv_aload_n hx hb dX5_owner_10 rfl (lv_at hl 1 rfl) ?_
    refine lv_iload_n hx hb dX5_owner_11 rfl (lv_at hl 3 rfl) ?_
    obtain ⟨j1454, hj1454⟩ := pG_5 (cy := cy) (N := N) (T := T) (I := I) (Q := Q) (J := J) (hC.at 0 (by decide)) (hC.k 0 (by decide) rfl)
    refine va_csq (W.runV (As := [.int xp]) (rest := []) ⟨hx, hb, hml, hown, hts⟩ (c_X5_partitionAt l dC dI cy v L K N T I Q J  xp hC) (cwV 1 hts gX5_owner_X5_partitionAt rfl rfl rfl (by decide +kernel) ⟨Nat.le_of_ble_eq_true rfl, Nat.le_of_ble_eq_true rfl⟩) ⟨pb_blind, va_recv hK hP (ci := 5) (q0 := j1454) rfl hj1454, fun U hU hW => ⟨rfl, pb_pre hP hK hN hU hW⟩⟩ rfl rfl hl.1 rfl (lv_room (Nat.le_of_ble_eq_true rfl)) dX5_owner_12 ⟨Nat.le_of_ble_eq_true rfl, Nat.le_of_ble_eq_true rfl⟩) (fun r1453 hr1453 => ?_)
    cases r1453 with
    | none =>
      refine W.eq (g2 := F0 m 15 ls [.null]) rfl ?_
      refine lv_ifnonnullN hx hb dX5_owner_15 ?_
      refine lv_iconst (v := (-1)) hx hb dX5_owner_18 (by decide) ?_
      exact W.iret (v := (-1)) hx hb hr (fun t ht hW => ⟨(-1), rfl, trivial, ht⟩) (fun _ h => by cases h) dX5_owner_19
    | some b1455 =>
      have hTb1455 := hr1453 b1455 rfl
      refine W.eq (g2 := F0 m 15 ls [.ref b1455]) rfl ?_
      refine lv_ifnonnull (tgt := 20) hx hb dX5_owner_15 (by decide) ?_
      refine lv_aload_n hx hb dX5_owner_20 rfl (lv_at hl 0 rfl) ?_
      refine lv_aload_n hx hb dX5_owner_21 rfl (lv_at hl 1 rfl) ?_
      refine lv_iload_n hx hb dX5_owner_22 rfl (lv_at hl 3 rfl) ?_
      obtain ⟨j1457, hj1457⟩ := pG_5 (cy := cy) (N := N) (T := T) (I := I) (Q := Q) (J := J) (hC.at 0 (by decide)) (hC.k 0 (by decide) rfl)
      refine vp_callSi (W.runV (As := [.int xp]) (rest := [.ref (v (10 + j1452))]) ⟨hx, hb, hml, hown, hts⟩ (c_X5_placeOf l dC dI cy v L K N T I Q J  xp hC) (cwV 1 hts gX5_owner_X5_placeOf rfl rfl rfl (by decide +kernel) ⟨Nat.le_of_ble_eq_true rfl, Nat.le_of_ble_eq_true rfl⟩) ⟨pb_blind, va_recv hK hP (ci := 5) (q0 := j1457) rfl hj1457, fun U hU hW => ⟨rfl, pb_pre hP hK hN hU hW⟩⟩ rfl rfl hl.1 rfl (lv_room (Nat.le_of_ble_eq_true rfl)) dX5_owner_23 ⟨Nat.le_of_ble_eq_true rfl, Nat.le_of_ble_eq_true rfl⟩) (fun r1456 hr1456 => ?_)
      obtain ⟨j1459, hj1459⟩ := pG_1 (cy := cy) (N := N) (T := T) (I := I) (Q := Q) (J := J) (hC.kg hj1452).1 (hC.kg hj1452).2
      refine vp_callSi (W.runV (As := [.int r1456]) (rest := []) ⟨hx, hb, hml, hown, hts⟩ (c_X1_memberAt l dC dI cy v L K N T I Q J (v (10 + j1452)) r1456 hC (hC.kg hj1452).1 (hC.kg hj1452).2) (cwV 1 hts gX5_owner_X1_memberAt rfl rfl rfl (by decide +kernel) ⟨Nat.le_of_ble_eq_true rfl, Nat.le_of_ble_eq_true rfl⟩) ⟨pb_blind, va_recv hK hP (ci := 1) (q0 := j1459) rfl hj1459, fun U hU hW => ⟨rfl, pb_pre hP hK hN hU hW⟩⟩ rfl rfl hl.1 rfl (lv_room (Nat.le_of_ble_eq_true rfl)) dX5_owner_26 ⟨Nat.le_of_ble_eq_true rfl, Nat.le_of_ble_eq_true rfl⟩) (fun r1458 hr1458 => ?_)
      refine lv_istore (lv' := [(4, .int r1458), (3, .ref (v (10 + j1452))), (0, .ref (v 0)), (1, .int xg), (2, .int xp)]) hx hb dX5_owner_29 hl (by decide) rfl (fun ls hl => ?_)
      refine lv_iload hx hb dX5_owner_31 (lv_at hl 0 rfl) ?_
      refine lv_iconst (v := (-1)) hx hb dX5_owner_33 (by decide) ?_
      refine lv_icmp_ne (tgt := 42) hx hb dX5_owner_34 (by decide) (fun c1460 => ?_) (fun c1460 => ?_)
      · refine lv_iload hx hb dX5_owner_42 (lv_at hl 0 rfl) ?_
        exact W.iret (v := r1458) hx hb hr (fun t ht hW => ⟨r1458, rfl, trivial, ht⟩) (fun _ h => by cases h) dX5_owner_44
      · refine lv_bipush (v := (-2)) hx hb dX5_owner_37 (by decide) ?_
        refine lv_goto (tgt := 44) hx hb dX5_owner_39 (by decide) ?_
        exact W.iret (v := (-2)) hx hb hr (fun t ht hW => ⟨(-2), rfl, trivial, ht⟩) (fun _ h => by cases h) dX5_owner_44
set_option maxHeartbeats 4000000 in
set_option maxRecDepth 100000 in
/-- position -/
theorem c_X5_position (l : Launch) (dC : Nat → ClassId) (dI : Nat → Nat → Nat) (cy : Nat → ClassId) (v : Nat → Nat) (L : List Nat) (K N : Nat → Nat) (T : Nat → Nat → Nat) (I : Nat → Nat → Int32) (Q : Nat → Nat → Option Nat) (J : Nat → Nat → Int32) (xg : Int32) (xp : Int32) (hC : CT v L K N T I Q) : Met l yX5_position wsX5_position ({ frames := 1, cells := 0, slots := 0, locals := 21 }) (va_Pc [.ref (v 0), .int xg, .int xp] (pB dC dI cy L (pF cy K N T I Q J))) (vp_Si (fun r => True)) 0 0 (fun _ => False) := by
  refine Met.ofW (cc := cX5_position) (maxL := 4) (ret := (some .int)) (by decide) rfl ?_
  intro p e s m args below meth c s₁ B hml hv
  obtain ⟨rfl, hP, hK, hN⟩ := hv
  have hx := B.exec
  have hb := B.bytes
  have hr := B.returns
  have hts := atoms_spec (ws := wsX5_position) B.pre
  have hown : s.vm.findClass RX5 = some m.cls := findClass_of_methodNamed B.named
  have hlocks := B.notSynchronized
  have hi5 : ∀ w ∈ wsX50, w ∈ wsX5_position := by decide +kernel
  have hl := lv_entry ([.ref (v 0), .int xg, .int xp]) (n := 4) (Nat.le_of_ble_eq_true rfl)
  rw [lg_entry_eq]
  generalize (lg_sl ([.ref (v 0), .int xg, .int xp]) ++ List.replicate (4 - (lg_sl ([.ref (v 0), .int xg, .int xp])).length) Slot.unset).toArray = ls at hl ⊢
  have hl : lv_has ls 4 [(0, .ref (v 0)), (1, .int xg), (2, .int xp)] := hl
  have hn28 := hN.1
  have hn30 := hN.2.1
  have hn37 := hN.2.2.1
  refine lv_aload_n hx hb dX5_position_0 rfl (lv_at hl 0 rfl) ?_
  refine lv_iload_n hx hb dX5_position_1 rfl (lv_at hl 1 rfl) ?_
  obtain ⟨j1462, hj1462⟩ := pG_5 (cy := cy) (N := N) (T := T) (I := I) (Q := Q) (J := J) (hC.at 0 (by decide)) (hC.k 0 (by decide) rfl)
  refine va_csq (W.runV (As := [.int xg]) (rest := []) ⟨hx, hb, hml, hown, hts⟩ (c_X5_groupAt l dC dI cy v L K N T I Q J  xg hC) (cwV 1 hts gX5_position_X5_groupAt rfl rfl rfl (by decide +kernel) ⟨Nat.le_of_ble_eq_true rfl, Nat.le_of_ble_eq_true rfl⟩) ⟨pb_blind, va_recv hK hP (ci := 5) (q0 := j1462) rfl hj1462, fun U hU hW => ⟨rfl, pb_pre hP hK hN hU hW⟩⟩ rfl rfl hl.1 rfl (lv_room (Nat.le_of_ble_eq_true rfl)) dX5_position_2 ⟨Nat.le_of_ble_eq_true rfl, Nat.le_of_ble_eq_true rfl⟩) (fun r1461 hr1461 => ?_)
  rcases hr1461 with ⟨hn1463, rfl⟩ | ⟨j1463, hj1463, hn1463, rfl⟩
  · refine W.eq (g2 := F0 m 5 ls [.null]) rfl ?_
    refine lv_astore_nN (lv' := [(3, .null), (0, .ref (v 0)), (1, .int xg), (2, .int xp)]) hx hb dX5_position_5 rfl hl (by decide) rfl (fun ls hl => ?_)
    refine lv_aload_nN hx hb dX5_position_6 rfl (lv_at hl 0 rfl) ?_
    refine lv_ifnullN (tgt := 18) hx hb dX5_position_7 (by decide) ?_
    refine lv_iconst (v := (-1)) hx hb dX5_position_18 (by decide) ?_
    exact W.iret (v := (-1)) hx hb hr (fun t ht hW => ⟨(-1), rfl, trivial, ht⟩) (fun _ h => by cases h) dX5_position_19
  · refine W.eq (g2 := F0 m 5 ls [.ref (v (10 + j1463))]) rfl ?_
    refine lv_astore_n (lv' := [(3, .ref (v (10 + j1463))), (0, .ref (v 0)), (1, .int xg), (2, .int xp)]) hx hb dX5_position_5 rfl hl (by decide) rfl (fun ls hl => ?_)
    refine lv_aload_n hx hb dX5_position_6 rfl (lv_at hl 0 rfl) ?_
    refine lv_ifnull hx hb dX5_position_7 ?_
    refine lv_aload_n hx hb dX5_position_10 rfl (lv_at hl 1 rfl) ?_
    refine lv_iload_n hx hb dX5_position_11 rfl (lv_at hl 3 rfl) ?_
    obtain ⟨j1465, hj1465⟩ := pG_5 (cy := cy) (N := N) (T := T) (I := I) (Q := Q) (J := J) (hC.at 0 (by decide)) (hC.k 0 (by decide) rfl)
    refine va_csq (W.runV (As := [.int xp]) (rest := []) ⟨hx, hb, hml, hown, hts⟩ (c_X5_partitionAt l dC dI cy v L K N T I Q J  xp hC) (cwV 1 hts gX5_position_X5_partitionAt rfl rfl rfl (by decide +kernel) ⟨Nat.le_of_ble_eq_true rfl, Nat.le_of_ble_eq_true rfl⟩) ⟨pb_blind, va_recv hK hP (ci := 5) (q0 := j1465) rfl hj1465, fun U hU hW => ⟨rfl, pb_pre hP hK hN hU hW⟩⟩ rfl rfl hl.1 rfl (lv_room (Nat.le_of_ble_eq_true rfl)) dX5_position_12 ⟨Nat.le_of_ble_eq_true rfl, Nat.le_of_ble_eq_true rfl⟩) (fun r1464 hr1464 => ?_)
    cases r1464 with
    | none =>
      refine W.eq (g2 := F0 m 15 ls [.null]) rfl ?_
      refine lv_ifnonnullN hx hb dX5_position_15 ?_
      refine lv_iconst (v := (-1)) hx hb dX5_position_18 (by decide) ?_
      exact W.iret (v := (-1)) hx hb hr (fun t ht hW => ⟨(-1), rfl, trivial, ht⟩) (fun _ h => by cases h) dX5_position_19
    | some b1466 =>
      have hTb1466 := hr1464 b1466 rfl
      refine W.eq (g2 := F0 m 15 ls [.ref b1466]) rfl ?_
      refine lv_ifnonnull (tgt := 20) hx hb dX5_position_15 (by decide) ?_
      refine lv_aload_n hx hb dX5_position_20 rfl (lv_at hl 0 rfl) ?_
      refine lv_iload_n hx hb dX5_position_21 rfl (lv_at hl 3 rfl) ?_
      obtain ⟨j1467, hj1467⟩ := pG_1 (cy := cy) (N := N) (T := T) (I := I) (Q := Q) (J := J) (hC.kg hj1463).1 (hC.kg hj1463).2
      refine vp_callSi (W.runV (As := [.int xp]) (rest := []) ⟨hx, hb, hml, hown, hts⟩ (c_X1_offsetFor l dC dI cy v L K N T I Q J j1463 xp hC hj1463) (cwV 1 hts gX5_position_X1_offsetFor rfl rfl rfl (by decide +kernel) ⟨Nat.le_of_ble_eq_true rfl, Nat.le_of_ble_eq_true rfl⟩) ⟨pb_blind, va_recv hK hP (ci := 1) (q0 := j1467) rfl hj1467, fun U hU hW => ⟨rfl, pb_pre hP hK hN hU hW⟩⟩ rfl rfl hl.1 rfl (lv_room (Nat.le_of_ble_eq_true rfl)) dX5_position_22 ⟨Nat.le_of_ble_eq_true rfl, Nat.le_of_ble_eq_true rfl⟩) (fun r1468 hr1468 => ?_)
      exact W.iret (v := r1468) hx hb hr (fun t ht hW => ⟨r1468, rfl, trivial, ht⟩) (fun _ h => by cases h) dX5_position_25
set_option maxHeartbeats 4000000 in
set_option maxRecDepth 100000 in
/-- register -/
theorem c_X5_register (l : Launch) (dC : Nat → ClassId) (dI : Nat → Nat → Nat) (cy : Nat → ClassId) (v : Nat → Nat) (L : List Nat) (K N : Nat → Nat) (T : Nat → Nat → Nat) (I : Nat → Nat → Int32) (Q : Nat → Nat → Option Nat) (J : Nat → Nat → Int32) (sz : Nat) (xk : Int32) (hC : CT v L K N T I Q) : Met l yX5_register wsX5_register ({ frames := 1, cells := 0, slots := 0, locals := 21 }) (va_Pc [.ref (v 0), .int xk] (pW dC dI cy L (pF cy K N T I Q J) sz)) (va_Qi (fun (r : Int32) (d : (Nat → Nat → Int32) × (Nat → Nat → Option Nat) × (Nat → Nat → Int32)) => (CT v L K N T d.1 d.2.1 ∧ d.1 (v 0) 3 = I (v 0) 3) ∧ True) (fun (d : (Nat → Nat → Int32) × (Nat → Nat → Option Nat) × (Nat → Nat → Int32)) t => va_P (dC, dI) vwCl (va_pl L (pF cy K N T d.1 d.2.1 d.2.2)) t.heap ∧ va_K (dC, dI) vwCl (pTy cy) t ∧ va_D (va_A (va_pl L (pF cy K N T I Q J)) sz) (va_pl L (pF cy K N T d.1 d.2.1 d.2.2))) (va_A (va_pl L (pF cy K N T I Q J)) sz)) 0 0 (va_A (va_pl L (pF cy K N T I Q J)) sz) := by
  refine Met.ofW (cc := cX5_register) (maxL := 3) (ret := (some .int)) (by decide) rfl ?_
  intro p e s m args below meth c s₁ B hml hv
  obtain ⟨rfl, hsz, ⟨hP, hK, hN⟩, hD0⟩ := hv
  have hx := B.exec
  have hb := B.bytes
  have hr := B.returns
  have hts := atoms_spec (ws := wsX5_register) B.pre
  have hown : s.vm.findClass RX5 = some m.cls := findClass_of_methodNamed B.named
  have hlocks := B.notSynchronized
  have hi5 : ∀ w ∈ wsX50, w ∈ wsX5_register := by decide +kernel
  have hi3 : ∀ w ∈ wsX30, w ∈ wsX5_register := by decide +kernel
  have hl := lv_entry ([.ref (v 0), .int xk]) (n := 3) (Nat.le_of_ble_eq_true rfl)
  rw [lg_entry_eq]
  generalize (lg_sl ([.ref (v 0), .int xk]) ++ List.replicate (3 - (lg_sl ([.ref (v 0), .int xk])).length) Slot.unset).toArray = ls at hl ⊢
  have hl : lv_has ls 3 [(0, .ref (v 0)), (1, .int xk)] := hl
  subst hsz
  have hD := hD0.self (sz := s.heap.size)
  generalize hAe : va_A (va_pl L (pF cy K N T I Q J)) s.heap.size = A at hD ⊢
  have hA : ∀ q : Nat, s.heap.size ≤ q → A q := fun q h => by rw [← hAe]; exact Or.inr h
  have hS : va_S A s.heap s.heap [] := va_S.rf
  have hR : RS v I Q J I Q J := RS.rf
  have hn28 := hN.1
  have hn30 := hN.2.1
  have hn37 := hN.2.2.1
  refine lv_aload_n hx hb dX5_register_0 rfl (lv_at hl 0 rfl) ?_
  refine lv_iload_n hx hb dX5_register_1 rfl (lv_at hl 1 rfl) ?_
  obtain ⟨j1470, hj1470⟩ := pG_5 (cy := cy) (N := N) (T := T) (I := I) (Q := Q) (J := J) (hC.at 0 (by decide)) (hC.k 0 (by decide) rfl)
  refine va_csq (W.runV (As := [.int xk]) (rest := []) ⟨hx, hb, hml, hown, hts⟩ (c_X5_producerAt l dC dI cy v L K N T I Q J  xk hC) (cwV 1 hts gX5_register_X5_producerAt rfl rfl rfl (by decide +kernel) ⟨Nat.le_of_ble_eq_true rfl, Nat.le_of_ble_eq_true rfl⟩) ⟨pb_blind, va_recv hK hP (ci := 5) (q0 := j1470) rfl hj1470, fun U hU hW => ⟨rfl, pb_pre hP hK hN hU hW⟩⟩ rfl rfl hl.1 rfl (lv_room (Nat.le_of_ble_eq_true rfl)) dX5_register_2 ⟨Nat.le_of_ble_eq_true rfl, Nat.le_of_ble_eq_true rfl⟩) (fun r1469 hr1469 => ?_)
  rcases hr1469 with ⟨hn1471, rfl⟩ | ⟨j1471, hj1471, hn1471, rfl⟩
  · refine W.eq (g2 := F0 m 5 ls [.null]) rfl ?_
    refine lv_astore_nN (lv' := [(2, .null), (0, .ref (v 0)), (1, .int xk)]) hx hb dX5_register_5 rfl hl (by decide) rfl (fun ls hl => ?_)
    refine lv_aload_nN hx hb dX5_register_6 rfl (lv_at hl 0 rfl) ?_
    refine lv_ifnonnullN hx hb dX5_register_7 ?_
    refine lv_iconst (v := (-1)) hx hb dX5_register_10 (by decide) ?_
    exact W.iret (v := (-1)) hx hb hr (fun t ht hW => ⟨⟨(-1), (I, Q, J), rfl, ⟨⟨hC, hR.1⟩, trivial⟩, by rw [ht]; exact hP, va_K.moved hW.alike hK, hD⟩, hS.F ht⟩) hS.2.2 dX5_register_11
  · refine W.eq (g2 := F0 m 5 ls [.ref (v (4 + j1471))]) rfl ?_
    refine lv_astore_n (lv' := [(2, .ref (v (4 + j1471))), (0, .ref (v 0)), (1, .int xk)]) hx hb dX5_register_5 rfl hl (by decide) rfl (fun ls hl => ?_)
    refine lv_aload_n hx hb dX5_register_6 rfl (lv_at hl 0 rfl) ?_
    refine lv_ifnonnull (tgt := 12) hx hb dX5_register_7 (by decide) ?_
    refine lv_aload_n hx hb dX5_register_12 rfl (lv_at hl 0 rfl) ?_
    refine lv_dup hx hb dX5_register_13 rfl ?_
    obtain ⟨j1472, hj1472⟩ := pG_3 (cy := cy) (N := N) (T := T) (I := I) (Q := Q) (J := J) (hC.kp hj1471).1 (hC.kp hj1471).2
    refine va_get (D := (dC, dI)) (ci := 3) (v := .int (I (v (4 + j1471)) 1)) (C := RX3) (T := TX3) (N := 6) hx hb hts hi3 hown hK hP j1472 hj1472 rfl 1 (by decide) (hts (.fieldLink RX5 75 "TallyLogs$Producer" "generation" "I") (by decide +kernel)) (fun _ h9 => h9) rfl dX5_register_14 ?_
    refine lv_topi (fun x1473 ex1473 => ?_)
    refine lv_iconst (v := 1) hx hb dX5_register_17 (by decide) ?_
    refine lv_iadd hx hb dX5_register_18 ?_
    refine lv_topi (fun v1474 ev1474 => ?_)
    obtain ⟨j1475, hj1475⟩ := pG_3 (cy := cy) (N := N) (T := T) (I := I) (Q := Q) (J := J) (hC.kp hj1471).1 (hC.kp hj1471).2
    have hDo := hD
    refine va_put (D := (dC, dI)) (ci := 3) (v := .int v1474) (ty := .int) (C := RX3) (T := TX3) (N := 6) hx hb hts hi3 tyX3 tyX3_ok nmX3 hown hK hP hD hS j1475 hj1475 rfl 1 (by decide) (hts (.fieldLink RX5 75 "TallyLogs$Producer" "generation" "I") (by decide +kernel)) (fun _ h9 => h9) rfl (by decide +kernel) rfl rfl (Nat.le_of_ble_eq_true rfl) dX5_register_19 (fun H locs hP hD hS => ?_)
    have hP := Eq.mp (congrArg (fun w => va_P (dC, dI) vwCl w H) (pP_3_1 (x := v1474) hDo (hC.kp hj1471).1 (hC.kp hj1471).2 hj1475)) hP
    obtain ⟨I1476, eI1476⟩ : ∃ z, z = p2 I (v (4 + j1471)) 1 v1474 := ⟨_, rfl⟩
    rw [← eI1476] at hP
    have hub : I1476 (v 0) 3 = I (v 0) 3 := by rw [eI1476]; exact (p2_k (K := K) (hC.k 0 (by decide) rfl) (hC.kp hj1471).2 (by decide)).trans (hR.1)
    have hR : RS v I1476 Q J I1476 Q J := RS.rf
    have hC : CT v L K N T I1476 Q := by rw [eI1476]; exact hC.pi (by rw [(hC.kp hj1471).2]; decide)
    have hD : va_D A (va_pl L (pF cy K N T I1476 Q J)) := pD hDo
    refine lv_aload_n hx hb dX5_register_22 rfl (lv_at hl 0 rfl) ?_
    obtain ⟨j1477, hj1477⟩ := pG_3 (cy := cy) (N := N) (T := T) (I := I1476) (Q := Q) (J := J) (hC.kp hj1471).1 (hC.kp hj1471).2
    refine va_get (D := (dC, dI)) (ci := 3) (v := .int (I1476 (v (4 + j1471)) 2)) (C := RX3) (T := TX3) (N := 6) hx hb hts hi3 hown hK hP j1477 hj1477 rfl 2 (by decide) (hts (.fieldLink RX5 78 "TallyLogs$Producer" "mode" "I") (by decide +kernel)) (fun _ h9 => h9) rfl dX5_register_23 ?_
    refine lv_topi (fun x1478 ex1478 => ?_)
    refine lv_iconst (v := 1) hx hb dX5_register_26 (by decide) ?_
    refine lv_icmp_ne (tgt := 35) hx hb dX5_register_27 (by decide) (fun c1479 => ?_) (fun c1479 => ?_)
    · refine lv_aload_n hx hb dX5_register_35 rfl (lv_at hl 0 rfl) ?_
      obtain ⟨j1480, hj1480⟩ := pG_3 (cy := cy) (N := N) (T := T) (I := I1476) (Q := Q) (J := J) (hC.kp hj1471).1 (hC.kp hj1471).2
      refine va_get (D := (dC, dI)) (ci := 3) (v := .int (I1476 (v (4 + j1471)) 1)) (C := RX3) (T := TX3) (N := 6) hx hb hts hi3 hown hK hP j1480 hj1480 rfl 1 (by decide) (hts (.fieldLink RX5 75 "TallyLogs$Producer" "generation" "I") (by decide +kernel)) (fun _ h9 => h9) rfl dX5_register_36 ?_
      refine lv_topi (fun x1481 ex1481 => ?_)
      refine lv_bipush (v := 8) hx hb dX5_register_39 (by decide) ?_
      refine lv_imul hx hb dX5_register_41 ?_
      refine lv_topi (fun v1482 ev1482 => ?_)
      refine lv_iload_n hx hb dX5_register_42 rfl (lv_at hl 2 rfl) ?_
      refine lv_iadd hx hb dX5_register_43 ?_
      refine lv_topi (fun v1483 ev1483 => ?_)
      exact W.iret (v := v1483) hx hb hr (fun t ht hW => ⟨⟨v1483, (I1476, Q, J), rfl, ⟨⟨hC, hR.1.trans hub⟩, trivial⟩, by rw [ht]; exact hP, va_K.moved hW.alike hK, hD⟩, hS.F ht⟩) hS.2.2 dX5_register_44
    · refine lv_aload_n hx hb dX5_register_30 rfl (lv_at hl 0 rfl) ?_
      refine lv_iconst (v := 0) hx hb dX5_register_31 (by decide) ?_
      obtain ⟨j1484, hj1484⟩ := pG_3 (cy := cy) (N := N) (T := T) (I := I1476) (Q := Q) (J := J) (hC.kp hj1471).1 (hC.kp hj1471).2
      have hFc := pfree hD hS hA
      refine va_callv (va_runV (As := [.int 0]) (rest := []) ⟨hx, hb, hml, hown, hts⟩ (c_X3_startEnding l dC dI cy v L K N T I1476 Q J H.size (v (4 + j1471)) 0 hC (hC.kp hj1471).1 (hC.kp hj1471).2 rfl rfl) (cwV 1 hts gX5_register_X3_startEnding rfl rfl rfl (by decide +kernel) ⟨Nat.le_of_ble_eq_true rfl, Nat.le_of_ble_eq_true rfl⟩) ⟨pw_blind, va_recv hK hP (ci := 3) (q0 := j1484) rfl hj1484, fun U hU hW => ⟨rfl, pw_pre hP hK hN hD hU hW⟩⟩ rfl rfl hl.1 rfl (lv_room (Nat.le_of_ble_eq_true rfl)) dX5_register_32 ⟨Nat.le_of_ble_eq_true rfl, Nat.le_of_ble_eq_true rfl⟩) hS (fun q _ h => hFc q h) hFc (fun d9 t H1 locs ht hvm hw hB hz1 hk1 hS => ?_)
      obtain ⟨I1485, Q1485, J1485⟩ := d9
      obtain ⟨hC, hR1⟩ := hw
      obtain ⟨hP, hK1, hD1⟩ := hB
      rw [ht] at hP
      have hD := hD1.weaken (fun _ _ _ h => hFc _ h)
      have hR := hR.trans hR1
      generalize H1 = H at hP hS ⊢
      have hP : va_P (dC, dI) vwCl (va_pl L (pF cy K N T I1485 Q1485 J1485)) H := hP
      have hD : va_D A (va_pl L (pF cy K N T I1485 Q1485 J1485)) := hD
      have hC : CT v L K N T I1485 Q1485 := hC
      have hR : RS v I1476 Q J I1485 Q1485 J1485 := hR
      refine lv_aload_n hx hb dX5_register_35 rfl (lv_at hl 0 rfl) ?_
      obtain ⟨j1487, hj1487⟩ := pG_3 (cy := cy) (N := N) (T := T) (I := I1485) (Q := Q1485) (J := J1485) (hC.kp hj1471).1 (hC.kp hj1471).2
      refine va_get (D := (dC, dI)) (ci := 3) (v := .int (I1485 (v (4 + j1471)) 1)) (C := RX3) (T := TX3) (N := 6) hx hb hts hi3 hown hK hP j1487 hj1487 rfl 1 (by decide) (hts (.fieldLink RX5 75 "TallyLogs$Producer" "generation" "I") (by decide +kernel)) (fun _ h9 => h9) rfl dX5_register_36 ?_
      refine lv_topi (fun x1488 ex1488 => ?_)
      refine lv_bipush (v := 8) hx hb dX5_register_39 (by decide) ?_
      refine lv_imul hx hb dX5_register_41 ?_
      refine lv_topi (fun v1489 ev1489 => ?_)
      refine lv_iload_n hx hb dX5_register_42 rfl (lv_at hl 2 rfl) ?_
      refine lv_iadd hx hb dX5_register_43 ?_
      refine lv_topi (fun v1490 ev1490 => ?_)
      exact W.iret (v := v1490) hx hb hr (fun t ht hW => ⟨⟨v1490, (I1485, Q1485, J1485), rfl, ⟨⟨hC, hR.1.trans hub⟩, trivial⟩, by rw [ht]; exact hP, va_K.moved hW.alike hK, hD⟩, hS.F ht⟩) hS.2.2 dX5_register_44
set_option maxHeartbeats 4000000 in
set_option maxRecDepth 100000 in
/-- member -/
theorem c_X5_member (l : Launch) (dC : Nat → ClassId) (dI : Nat → Nat → Nat) (cy : Nat → ClassId) (v : Nat → Nat) (L : List Nat) (K N : Nat → Nat) (T : Nat → Nat → Nat) (I : Nat → Nat → Int32) (Q : Nat → Nat → Option Nat) (J : Nat → Nat → Int32) (sz : Nat) (xg : Int32) (xm : Int32) (hC : CT v L K N T I Q) : Met l yX5_member wsX5_member ({ frames := 1, cells := 0, slots := 0, locals := 21 }) (va_Pc [.ref (v 0), .int xg, .int xm] (pW dC dI cy L (pF cy K N T I Q J) sz)) (va_Qi (fun (r : Int32) (d : (Nat → Nat → Int32) × (Nat → Nat → Option Nat) × (Nat → Nat → Int32)) => (CT v L K N T d.1 d.2.1 ∧ d.1 (v 0) 3 = I (v 0) 3) ∧ True) (fun (d : (Nat → Nat → Int32) × (Nat → Nat → Option Nat) × (Nat → Nat → Int32)) t => va_P (dC, dI) vwCl (va_pl L (pF cy K N T d.1 d.2.1 d.2.2)) t.heap ∧ va_K (dC, dI) vwCl (pTy cy) t ∧ va_D (va_A (va_pl L (pF cy K N T I Q J)) sz) (va_pl L (pF cy K N T d.1 d.2.1 d.2.2))) (va_A (va_pl L (pF cy K N T I Q J)) sz)) 0 0 (va_A (va_pl L (pF cy K N T I Q J)) sz) := by
  refine Met.ofW (cc := cX5_member) (maxL := 4) (ret := (some .int)) (by decide) rfl ?_
  intro p e s m args below meth c s₁ B hml hv
  obtain ⟨rfl, hsz, ⟨hP, hK, hN⟩, hD0⟩ := hv
  have hx := B.exec
  have hb := B.bytes
  have hr := B.returns
  have hts := atoms_spec (ws := wsX5_member) B.pre
  have hown : s.vm.findClass RX5 = some m.cls := findClass_of_methodNamed B.named
  have hlocks := B.notSynchronized
  have hi5 : ∀ w ∈ wsX50, w ∈ wsX5_member := by decide +kernel
  have hi1 : ∀ w ∈ wsX10, w ∈ wsX5_member := by decide +kernel
  have hl := lv_entry ([.ref (v 0), .int xg, .int xm]) (n := 4) (Nat.le_of_ble_eq_true rfl)
  rw [lg_entry_eq]
  generalize (lg_sl ([.ref (v 0), .int xg, .int xm]) ++ List.replicate (4 - (lg_sl ([.ref (v 0), .int xg, .int xm])).length) Slot.unset).toArray = ls at hl ⊢
  have hl : lv_has ls 4 [(0, .ref (v 0)), (1, .int xg), (2, .int xm)] := hl
  subst hsz
  have hD := hD0.self (sz := s.heap.size)
  generalize hAe : va_A (va_pl L (pF cy K N T I Q J)) s.heap.size = A at hD ⊢
  have hA : ∀ q : Nat, s.heap.size ≤ q → A q := fun q h => by rw [← hAe]; exact Or.inr h
  have hS : va_S A s.heap s.heap [] := va_S.rf
  have hR : RS v I Q J I Q J := RS.rf
  have hn28 := hN.1
  have hn30 := hN.2.1
  have hn37 := hN.2.2.1
  refine lv_aload_n hx hb dX5_member_0 rfl (lv_at hl 0 rfl) ?_
  refine lv_iload_n hx hb dX5_member_1 rfl (lv_at hl 1 rfl) ?_
  obtain ⟨j1492, hj1492⟩ := pG_5 (cy := cy) (N := N) (T := T) (I := I) (Q := Q) (J := J) (hC.at 0 (by decide)) (hC.k 0 (by decide) rfl)
  refine va_csq (W.runV (As := [.int xg]) (rest := []) ⟨hx, hb, hml, hown, hts⟩ (c_X5_groupAt l dC dI cy v L K N T I Q J  xg hC) (cwV 1 hts gX5_member_X5_groupAt rfl rfl rfl (by decide +kernel) ⟨Nat.le_of_ble_eq_true rfl, Nat.le_of_ble_eq_true rfl⟩) ⟨pb_blind, va_recv hK hP (ci := 5) (q0 := j1492) rfl hj1492, fun U hU hW => ⟨rfl, pb_pre hP hK hN hU hW⟩⟩ rfl rfl hl.1 rfl (lv_room (Nat.le_of_ble_eq_true rfl)) dX5_member_2 ⟨Nat.le_of_ble_eq_true rfl, Nat.le_of_ble_eq_true rfl⟩) (fun r1491 hr1491 => ?_)
  rcases hr1491 with ⟨hn1493, rfl⟩ | ⟨j1493, hj1493, hn1493, rfl⟩
  · refine W.eq (g2 := F0 m 5 ls [.null]) rfl ?_
    refine lv_astore_nN (lv' := [(3, .null), (0, .ref (v 0)), (1, .int xg), (2, .int xm)]) hx hb dX5_member_5 rfl hl (by decide) rfl (fun ls hl => ?_)
    refine lv_aload_nN hx hb dX5_member_6 rfl (lv_at hl 0 rfl) ?_
    refine lv_ifnullN (tgt := 20) hx hb dX5_member_7 (by decide) ?_
    refine lv_iconst (v := (-1)) hx hb dX5_member_20 (by decide) ?_
    exact W.iret (v := (-1)) hx hb hr (fun t ht hW => ⟨⟨(-1), (I, Q, J), rfl, ⟨⟨hC, hR.1⟩, trivial⟩, by rw [ht]; exact hP, va_K.moved hW.alike hK, hD⟩, hS.F ht⟩) hS.2.2 dX5_member_21
  · refine W.eq (g2 := F0 m 5 ls [.ref (v (10 + j1493))]) rfl ?_
    refine lv_astore_n (lv' := [(3, .ref (v (10 + j1493))), (0, .ref (v 0)), (1, .int xg), (2, .int xm)]) hx hb dX5_member_5 rfl hl (by decide) rfl (fun ls hl => ?_)
    refine lv_aload_n hx hb dX5_member_6 rfl (lv_at hl 0 rfl) ?_
    refine lv_ifnull hx hb dX5_member_7 ?_
    refine lv_iload_n hx hb dX5_member_10 rfl (lv_at hl 3 rfl) ?_
    refine lv_if_lt (tgt := 20) hx hb dX5_member_11 (by decide) (fun c1494 => ?_) (fun c1494 => ?_)
    · refine lv_iconst (v := (-1)) hx hb dX5_member_20 (by decide) ?_
      exact W.iret (v := (-1)) hx hb hr (fun t ht hW => ⟨⟨(-1), (I, Q, J), rfl, ⟨⟨hC, hR.1⟩, trivial⟩, by rw [ht]; exact hP, va_K.moved hW.alike hK, hD⟩, hS.F ht⟩) hS.2.2 dX5_member_21
    · refine lv_iload_n hx hb dX5_member_14 rfl (lv_at hl 3 rfl) ?_
      refine lv_bipush (v := 8) hx hb dX5_member_15 (by decide) ?_
      refine lv_icmp_lt (tgt := 22) hx hb dX5_member_17 (by decide) (fun c1495 => ?_) (fun c1495 => ?_)
      · refine lv_aload_n hx hb dX5_member_22 rfl (lv_at hl 0 rfl) ?_
        refine lv_dup hx hb dX5_member_23 rfl ?_
        obtain ⟨j1496, hj1496⟩ := pG_1 (cy := cy) (N := N) (T := T) (I := I) (Q := Q) (J := J) (hC.kg hj1493).1 (hC.kg hj1493).2
        refine va_get (D := (dC, dI)) (ci := 1) (v := .int (I (v (10 + j1493)) 0)) (C := RX1) (T := TX1) (N := 3) hx hb hts hi1 hown hK hP j1496 hj1496 rfl 0 (by decide) (hts (.fieldLink RX5 198 "TallyLogs$Group" "members" "I") (by decide +kernel)) (fun _ h9 => h9) rfl dX5_member_24 ?_
        refine lv_topi (fun x1497 ex1497 => ?_)
        refine lv_iconst (v := 1) hx hb dX5_member_27 (by decide) ?_
        refine lv_iload_n hx hb dX5_member_28 rfl (lv_at hl 3 rfl) ?_
        refine lv_ishl hx hb dX5_member_29 ?_
        refine lv_topi (fun v1498 ev1498 => ?_)
        refine lv_ixor hx hb dX5_member_30 ?_
        refine lv_topi (fun v1499 ev1499 => ?_)
        obtain ⟨j1500, hj1500⟩ := pG_1 (cy := cy) (N := N) (T := T) (I := I) (Q := Q) (J := J) (hC.kg hj1493).1 (hC.kg hj1493).2
        have hDo := hD
        refine va_put (D := (dC, dI)) (ci := 1) (v := .int v1499) (ty := .int) (C := RX1) (T := TX1) (N := 3) hx hb hts hi1 tyX1 tyX1_ok nmX1 hown hK hP hD hS j1500 hj1500 rfl 0 (by decide) (hts (.fieldLink RX5 198 "TallyLogs$Group" "members" "I") (by decide +kernel)) (fun _ h9 => h9) rfl (by decide +kernel) rfl rfl (Nat.le_of_ble_eq_true rfl) dX5_member_31 (fun H locs hP hD hS => ?_)
        have hP := Eq.mp (congrArg (fun w => va_P (dC, dI) vwCl w H) (pP_1_0 (x := v1499) hDo (hC.kg hj1493).1 (hC.kg hj1493).2 hj1500)) hP
        obtain ⟨I1501, eI1501⟩ : ∃ z, z = p2 I (v (10 + j1493)) 0 v1499 := ⟨_, rfl⟩
        rw [← eI1501] at hP
        have hub : I1501 (v 0) 3 = I (v 0) 3 := by rw [eI1501]; exact (p2_k (K := K) (hC.k 0 (by decide) rfl) (hC.kg hj1493).2 (by decide)).trans (hR.1)
        have hR : RS v I1501 Q J I1501 Q J := RS.rf
        have hC : CT v L K N T I1501 Q := by rw [eI1501]; exact hC.pi (by rw [(hC.kg hj1493).2]; decide)
        have hD : va_D A (va_pl L (pF cy K N T I1501 Q J)) := pD hDo
        refine lv_aload_n hx hb dX5_member_34 rfl (lv_at hl 0 rfl) ?_
        refine lv_dup hx hb dX5_member_35 rfl ?_
        obtain ⟨j1502, hj1502⟩ := pG_1 (cy := cy) (N := N) (T := T) (I := I1501) (Q := Q) (J := J) (hC.kg hj1493).1 (hC.kg hj1493).2
        refine va_get (D := (dC, dI)) (ci := 1) (v := .int (I1501 (v (10 + j1493)) 1)) (C := RX1) (T := TX1) (N := 3) hx hb hts hi1 hown hK hP j1502 hj1502 rfl 1 (by decide) (hts (.fieldLink RX5 201 "TallyLogs$Group" "round" "I") (by decide +kernel)) (fun _ h9 => h9) rfl dX5_member_36 ?_
        refine lv_topi (fun x1503 ex1503 => ?_)
        refine lv_iconst (v := 1) hx hb dX5_member_39 (by decide) ?_
        refine lv_iadd hx hb dX5_member_40 ?_
        refine lv_topi (fun v1504 ev1504 => ?_)
        obtain ⟨j1505, hj1505⟩ := pG_1 (cy := cy) (N := N) (T := T) (I := I1501) (Q := Q) (J := J) (hC.kg hj1493).1 (hC.kg hj1493).2
        have hDo := hD
        refine va_put (D := (dC, dI)) (ci := 1) (v := .int v1504) (ty := .int) (C := RX1) (T := TX1) (N := 3) hx hb hts hi1 tyX1 tyX1_ok nmX1 hown hK hP hD hS j1505 hj1505 rfl 1 (by decide) (hts (.fieldLink RX5 201 "TallyLogs$Group" "round" "I") (by decide +kernel)) (fun _ h9 => h9) rfl (by decide +kernel) rfl rfl (Nat.le_of_ble_eq_true rfl) dX5_member_41 (fun H locs hP hD hS => ?_)
        have hP := Eq.mp (congrArg (fun w => va_P (dC, dI) vwCl w H) (pP_1_1 (x := v1504) hDo (hC.kg hj1493).1 (hC.kg hj1493).2 hj1505)) hP
        obtain ⟨I1506, eI1506⟩ : ∃ z, z = p2 I1501 (v (10 + j1493)) 1 v1504 := ⟨_, rfl⟩
        rw [← eI1506] at hP
        have hub : I1506 (v 0) 3 = I (v 0) 3 := by rw [eI1506]; exact (p2_k (K := K) (hC.k 0 (by decide) rfl) (hC.kg hj1493).2 (by decide)).trans (hR.1.trans hub)
        have hR : RS v I1506 Q J I1506 Q J := RS.rf
        have hC : CT v L K N T I1506 Q := by rw [eI1506]; exact hC.pi (by rw [(hC.kg hj1493).2]; decide)
        have hD : va_D A (va_pl L (pF cy K N T I1506 Q J)) := pD hDo
        refine lv_aload_n hx hb dX5_member_44 rfl (lv_at hl 0 rfl) ?_
        obtain ⟨j1507, hj1507⟩ := pG_1 (cy := cy) (N := N) (T := T) (I := I1506) (Q := Q) (J := J) (hC.kg hj1493).1 (hC.kg hj1493).2
        refine va_get (D := (dC, dI)) (ci := 1) (v := .int (I1506 (v (10 + j1493)) 1)) (C := RX1) (T := TX1) (N := 3) hx hb hts hi1 hown hK hP j1507 hj1507 rfl 1 (by decide) (hts (.fieldLink RX5 201 "TallyLogs$Group" "round" "I") (by decide +kernel)) (fun _ h9 => h9) rfl dX5_member_45 ?_
        refine lv_topi (fun x1508 ex1508 => ?_)
        exact W.iret (v := x1508) hx hb hr (fun t ht hW => ⟨⟨x1508, (I1506, Q, J), rfl, ⟨⟨hC, hR.1.trans hub⟩, trivial⟩, by rw [ht]; exact hP, va_K.moved hW.alike hK, hD⟩, hS.F ht⟩) hS.2.2 dX5_member_48
      · refine lv_iconst (v := (-1)) hx hb dX5_member_20 (by decide) ?_
        exact W.iret (v := (-1)) hx hb hr (fun t ht hW => ⟨⟨(-1), (I, Q, J), rfl, ⟨⟨hC, hR.1⟩, trivial⟩, by rw [ht]; exact hP, va_K.moved hW.alike hK, hD⟩, hS.F ht⟩) hS.2.2 dX5_member_21
set_option maxHeartbeats 4000000 in
set_option maxRecDepth 100000 in
/-- Group.setOffset -/
theorem c_X1_setOffset (l : Launch) (dC : Nat → ClassId) (dI : Nat → Nat → Nat) (cy : Nat → ClassId) (v : Nat → Nat) (L : List Nat) (K N : Nat → Nat) (T : Nat → Nat → Nat) (I : Nat → Nat → Int32) (Q : Nat → Nat → Option Nat) (J : Nat → Nat → Int32) (sz : Nat) (gj : Nat) (xp xo : Int32) (hC : CT v L K N T I Q) (hgj : gj < 4) : Met l yX1_setOffset wsX1_setOffset ({ frames := 0, cells := 0, slots := 0, locals := 0 }) (va_Pc [.ref (v (10 + gj)), .int xp, .int xo] (pW dC dI cy L (pF cy K N T I Q J) sz)) (va_Qv (fun d : (Nat → Nat → Int32) × (Nat → Nat → Option Nat) × (Nat → Nat → Int32) => CT v L K N T d.1 d.2.1 ∧ d.1 (v 0) 3 = I (v 0) 3) (fun (d : (Nat → Nat → Int32) × (Nat → Nat → Option Nat) × (Nat → Nat → Int32)) t => va_P (dC, dI) vwCl (va_pl L (pF cy K N T d.1 d.2.1 d.2.2)) t.heap ∧ va_K (dC, dI) vwCl (pTy cy) t ∧ va_D (va_A (va_pl L (pF cy K N T I Q J)) sz) (va_pl L (pF cy K N T d.1 d.2.1 d.2.2))) (va_A (va_pl L (pF cy K N T I Q J)) sz)) 0 0 (va_A (va_pl L (pF cy K N T I Q J)) sz) := by
  refine Met.ofW (cc := cX1_setOffset) (maxL := 3) (ret := none) (by decide) rfl ?_
  intro p e s m args below meth c s₁ B hml hv
  obtain ⟨rfl, hsz, ⟨hP, hK, hN⟩, hD0⟩ := hv
  have hx := B.exec
  have hb := B.bytes
  have hr := B.returns
  have hts := atoms_spec (ws := wsX1_setOffset) B.pre
  have hown : s.vm.findClass RX1 = some m.cls := findClass_of_methodNamed B.named
  have hlocks := B.notSynchronized
  have hi1 : ∀ w ∈ wsX10, w ∈ wsX1_setOffset := by decide +kernel
  have hl := lv_entry ([.ref (v (10 + gj)), .int xp, .int xo]) (n := 3) (Nat.le_of_ble_eq_true rfl)
  rw [lg_entry_eq]
  generalize (lg_sl ([.ref (v (10 + gj)), .int xp, .int xo]) ++ List.replicate (3 - (lg_sl ([.ref (v (10 + gj)), .int xp, .int xo])).length) Slot.unset).toArray = ls at hl ⊢
  have hl : lv_has ls 3 [(0, .ref (v (10 + gj))), (1, .int xp), (2, .int xo)] := hl
  subst hsz
  have hD := hD0.self (sz := s.heap.size)
  generalize hAe : va_A (va_pl L (pF cy K N T I Q J)) s.heap.size = A at hD ⊢
  have hA : ∀ q : Nat, s.heap.size ≤ q → A q := fun q h => by rw [← hAe]; exact Or.inr h
  have hS : va_S A s.heap s.heap [] := va_S.rf
  have hR : RS v I Q J I Q J := RS.rf
  refine lv_iload_n hx hb dX1_setOffset_0 rfl (lv_at hl 1 rfl) ?_
  refine lv_if_lt (tgt := 16) hx hb dX1_setOffset_1 (by decide) (fun c1509 => ?_) (fun c1509 => ?_)
  · exact W.vret hx hb hr (fun t ht hW => ⟨⟨(I, Q, J), rfl, ⟨hC, rfl⟩, by rw [ht]; exact hP, va_K.moved hW.alike hK, hD⟩, hS.F ht⟩) hS.2.2 dX1_setOffset_16
  · refine lv_iload_n hx hb dX1_setOffset_4 rfl (lv_at hl 1 rfl) ?_
    refine lv_iconst (v := 4) hx hb dX1_setOffset_5 (by decide) ?_
    refine lv_icmp_ge (tgt := 16) hx hb dX1_setOffset_6 (by decide) (fun c1510 => ?_) (fun c1510 => ?_)
    · exact W.vret hx hb hr (fun t ht hW => ⟨⟨(I, Q, J), rfl, ⟨hC, rfl⟩, by rw [ht]; exact hP, va_K.moved hW.alike hK, hD⟩, hS.F ht⟩) hS.2.2 dX1_setOffset_16
    · refine lv_aload_n hx hb dX1_setOffset_9 rfl (lv_at hl 0 rfl) ?_
      obtain ⟨j1511, hj1511⟩ := pG_1 (cy := cy) (N := N) (T := T) (I := I) (Q := Q) (J := J) (hC.kg hgj).1 (hC.kg hgj).2
      refine va_get (D := (dC, dI)) (ci := 1) (v := .ref (T (v (10 + gj)) 2)) (C := RX1) (T := TX1) (N := 3) hx hb hts hi1 hown hK hP j1511 hj1511 rfl 2 (by decide) (hts (.fieldLink RX1 18 "TallyLogs$Group" "offsets" "[I") (by decide +kernel)) (fun _ h9 => h9) rfl dX1_setOffset_10 ?_
      refine W.eq (g2 := F0 m 13 ls [.ref (v (14 + gj))]) (by rw [(hC.1.2.2.2 gj hgj).1]) ?_
      have hin1512 : vp_in xp 4 := xin_of (by have kc1509 := c1509; have kc1510 := c1510; simp only [xk_lt, xk_le, xk_0, xk_1, xk_2, xk_3, xk_4, xk_5, xk_6, xk_7, xk_8, xk_50] at kc1509 kc1510; omega) (by have kc1509 := c1509; have kc1510 := c1510; simp only [xk_lt, xk_le, xk_0, xk_1, xk_2, xk_3, xk_4, xk_5, xk_6, xk_7, xk_8, xk_50] at kc1509 kc1510; omega)
      refine lv_iload_n hx hb dX1_setOffset_13 rfl (lv_at hl 1 rfl) ?_
      refine lv_iload_n hx hb dX1_setOffset_14 rfl (lv_at hl 2 rfl) ?_
      obtain ⟨j1513, hj1513⟩ := pG_7 (cy := cy) (N := N) (T := T) (I := I) (Q := Q) (J := J) (hC.ko hgj).1 (hC.ko hgj).2
      have hDo := hD
      refine va_iast (x := xo) hx hb hK hP hD hS j1513 0 hj1513 rfl (by rw [(hC.1.2.2.2 gj hgj).2]; exact hin1512) dX1_setOffset_15 (fun H locs hP hD hS => ?_)
      have hP := Eq.mp (congrArg (fun w => va_P (dC, dI) vwCl w H) (pS_7 (x := xo) hDo (hC.ko hgj).1 (hC.ko hgj).2 hj1513)) hP
      obtain ⟨J1514, eJ1514⟩ : ∃ z, z = va_up J (v (14 + gj)) (upd (J (v (14 + gj))) xp.toNatClampNeg xo) := ⟨_, rfl⟩
      rw [← eJ1514] at hP
      have hD : va_D A (va_pl L (pF cy K N T I Q J1514)) := pD hDo
      exact W.vret hx hb hr (fun t ht hW => ⟨⟨(I, Q, J1514), rfl, ⟨hC, rfl⟩, by rw [ht]; exact hP, va_K.moved hW.alike hK, hD⟩, hS.F ht⟩) hS.2.2 dX1_setOffset_16
set_option maxHeartbeats 4000000 in
set_option maxRecDepth 100000 in
/-- move -/
theorem c_X5_move (l : Launch) (dC : Nat → ClassId) (dI : Nat → Nat → Nat) (cy : Nat → ClassId) (v : Nat → Nat) (L : List Nat) (K N : Nat → Nat) (T : Nat → Nat → Nat) (I : Nat → Nat → Int32) (Q : Nat → Nat → Option Nat) (J : Nat → Nat → Int32) (sz : Nat) (xg : Int32) (xm : Int32) (xr : Int32) (xp : Int32) (xo : Int32) (hC : CT v L K N T I Q) : Met l yX5_move wsX5_move ({ frames := 2, cells := 0, slots := 0, locals := 45 }) (va_Pc [.ref (v 0), .int xg, .int xm, .int xr, .int xp, .int xo] (pW dC dI cy L (pF cy K N T I Q J) sz)) (va_Qi (fun (r : Int32) (d : (Nat → Nat → Int32) × (Nat → Nat → Option Nat) × (Nat → Nat → Int32)) => (CT v L K N T d.1 d.2.1 ∧ d.1 (v 0) 3 = I (v 0) 3) ∧ True) (fun (d : (Nat → Nat → Int32) × (Nat → Nat → Option Nat) × (Nat → Nat → Int32)) t => va_P (dC, dI) vwCl (va_pl L (pF cy K N T d.1 d.2.1 d.2.2)) t.heap ∧ va_K (dC, dI) vwCl (pTy cy) t ∧ va_D (va_A (va_pl L (pF cy K N T I Q J)) sz) (va_pl L (pF cy K N T d.1 d.2.1 d.2.2))) (va_A (va_pl L (pF cy K N T I Q J)) sz)) 0 0 (va_A (va_pl L (pF cy K N T I Q J)) sz) := by
  refine Met.ofW (cc := cX5_move) (maxL := 7) (ret := (some .int)) (by decide) rfl ?_
  intro p e s m args below meth c s₁ B hml hv
  obtain ⟨rfl, hsz, ⟨hP, hK, hN⟩, hD0⟩ := hv
  have hx := B.exec
  have hb := B.bytes
  have hr := B.returns
  have hts := atoms_spec (ws := wsX5_move) B.pre
  have hown : s.vm.findClass RX5 = some m.cls := findClass_of_methodNamed B.named
  have hlocks := B.notSynchronized
  have hi5 : ∀ w ∈ wsX50, w ∈ wsX5_move := by decide +kernel
  have hi1 : ∀ w ∈ wsX10, w ∈ wsX5_move := by decide +kernel
  have hl := lv_entry ([.ref (v 0), .int xg, .int xm, .int xr, .int xp, .int xo]) (n := 7) (Nat.le_of_ble_eq_true rfl)
  rw [lg_entry_eq]
  generalize (lg_sl ([.ref (v 0), .int xg, .int xm, .int xr, .int xp, .int xo]) ++ List.replicate (7 - (lg_sl ([.ref (v 0), .int xg, .int xm, .int xr, .int xp, .int xo])).length) Slot.unset).toArray = ls at hl ⊢
  have hl : lv_has ls 7 [(0, .ref (v 0)), (1, .int xg), (2, .int xm), (3, .int xr), (4, .int xp), (5, .int xo)] := hl
  subst hsz
  have hD := hD0.self (sz := s.heap.size)
  generalize hAe : va_A (va_pl L (pF cy K N T I Q J)) s.heap.size = A at hD ⊢
  have hA : ∀ q : Nat, s.heap.size ≤ q → A q := fun q h => by rw [← hAe]; exact Or.inr h
  have hS : va_S A s.heap s.heap [] := va_S.rf
  have hR : RS v I Q J I Q J := RS.rf
  have hn28 := hN.1
  have hn30 := hN.2.1
  have hn37 := hN.2.2.1
  refine lv_aload_n hx hb dX5_move_0 rfl (lv_at hl 0 rfl) ?_
  refine lv_iload_n hx hb dX5_move_1 rfl (lv_at hl 1 rfl) ?_
  obtain ⟨j1516, hj1516⟩ := pG_5 (cy := cy) (N := N) (T := T) (I := I) (Q := Q) (J := J) (hC.at 0 (by decide)) (hC.k 0 (by decide) rfl)
  refine va_csq (W.runV (As := [.int xg]) (rest := []) ⟨hx, hb, hml, hown, hts⟩ (c_X5_groupAt l dC dI cy v L K N T I Q J  xg hC) (cwV 1 hts gX5_move_X5_groupAt rfl rfl rfl (by decide +kernel) ⟨Nat.le_of_ble_eq_true rfl, Nat.le_of_ble_eq_true rfl⟩) ⟨pb_blind, va_recv hK hP (ci := 5) (q0 := j1516) rfl hj1516, fun U hU hW => ⟨rfl, pb_pre hP hK hN hU hW⟩⟩ rfl rfl hl.1 rfl (lv_room (Nat.le_of_ble_eq_true rfl)) dX5_move_2 ⟨Nat.le_of_ble_eq_true rfl, Nat.le_of_ble_eq_true rfl⟩) (fun r1515 hr1515 => ?_)
  rcases hr1515 with ⟨hn1517, rfl⟩ | ⟨j1517, hj1517, hn1517, rfl⟩
  · refine W.eq (g2 := F0 m 5 ls [.null]) rfl ?_
    refine lv_astoreN (lv' := [(6, .null), (0, .ref (v 0)), (1, .int xg), (2, .int xm), (3, .int xr), (4, .int xp), (5, .int xo)]) hx hb dX5_move_5 hl (by decide) rfl (fun ls hl => ?_)
    refine lv_aloadN hx hb dX5_move_7 (lv_at hl 0 rfl) ?_
    refine lv_ifnullN (tgt := 26) hx hb dX5_move_9 (by decide) ?_
    refine lv_iconst (v := (-1)) hx hb dX5_move_26 (by decide) ?_
    exact W.iret (v := (-1)) hx hb hr (fun t ht hW => ⟨⟨(-1), (I, Q, J), rfl, ⟨⟨hC, hR.1⟩, trivial⟩, by rw [ht]; exact hP, va_K.moved hW.alike hK, hD⟩, hS.F ht⟩) hS.2.2 dX5_move_27
  · refine W.eq (g2 := F0 m 5 ls [.ref (v (10 + j1517))]) rfl ?_
    refine lv_astore (lv' := [(6, .ref (v (10 + j1517))), (0, .ref (v 0)), (1, .int xg), (2, .int xm), (3, .int xr), (4, .int xp), (5, .int xo)]) hx hb dX5_move_5 hl (by decide) rfl (fun ls hl => ?_)
    refine lv_aload hx hb dX5_move_7 (lv_at hl 0 rfl) ?_
    refine lv_ifnull hx hb dX5_move_9 ?_
    refine lv_aload_n hx hb dX5_move_12 rfl (lv_at hl 1 rfl) ?_
    refine lv_iload hx hb dX5_move_13 (lv_at hl 5 rfl) ?_
    obtain ⟨j1519, hj1519⟩ := pG_5 (cy := cy) (N := N) (T := T) (I := I) (Q := Q) (J := J) (hC.at 0 (by decide)) (hC.k 0 (by decide) rfl)
    refine va_csq (W.runV (As := [.int xp]) (rest := []) ⟨hx, hb, hml, hown, hts⟩ (c_X5_partitionAt l dC dI cy v L K N T I Q J  xp hC) (cwV 1 hts gX5_move_X5_partitionAt rfl rfl rfl (by decide +kernel) ⟨Nat.le_of_ble_eq_true rfl, Nat.le_of_ble_eq_true rfl⟩) ⟨pb_blind, va_recv hK hP (ci := 5) (q0 := j1519) rfl hj1519, fun U hU hW => ⟨rfl, pb_pre hP hK hN hU hW⟩⟩ rfl rfl hl.1 rfl (lv_room (Nat.le_of_ble_eq_true rfl)) dX5_move_15 ⟨Nat.le_of_ble_eq_true rfl, Nat.le_of_ble_eq_true rfl⟩) (fun r1518 hr1518 => ?_)
    cases r1518 with
    | none =>
      refine W.eq (g2 := F0 m 18 ls [.null]) rfl ?_
      refine lv_ifnullN (tgt := 26) hx hb dX5_move_18 (by decide) ?_
      refine lv_iconst (v := (-1)) hx hb dX5_move_26 (by decide) ?_
      exact W.iret (v := (-1)) hx hb hr (fun t ht hW => ⟨⟨(-1), (I, Q, J), rfl, ⟨⟨hC, hR.1⟩, trivial⟩, by rw [ht]; exact hP, va_K.moved hW.alike hK, hD⟩, hS.F ht⟩) hS.2.2 dX5_move_27
    | some b1520 =>
      have hTb1520 := hr1518 b1520 rfl
      refine W.eq (g2 := F0 m 18 ls [.ref b1520]) rfl ?_
      refine lv_ifnull hx hb dX5_move_18 ?_
      refine lv_iload hx hb dX5_move_21 (lv_at hl 6 rfl) ?_
      refine lv_if_ge (tgt := 28) hx hb dX5_move_23 (by decide) (fun c1521 => ?_) (fun c1521 => ?_)
      · refine lv_iload_n hx hb dX5_move_28 rfl (lv_at hl 3 rfl) ?_
        refine lv_if_lt (tgt := 56) hx hb dX5_move_29 (by decide) (fun c1522 => ?_) (fun c1522 => ?_)
        · refine lv_bipush (v := (-4)) hx hb dX5_move_56 (by decide) ?_
          exact W.iret (v := (-4)) hx hb hr (fun t ht hW => ⟨⟨(-4), (I, Q, J), rfl, ⟨⟨hC, hR.1⟩, trivial⟩, by rw [ht]; exact hP, va_K.moved hW.alike hK, hD⟩, hS.F ht⟩) hS.2.2 dX5_move_58
        · refine lv_iload_n hx hb dX5_move_32 rfl (lv_at hl 3 rfl) ?_
          refine lv_aload hx hb dX5_move_33 (lv_at hl 0 rfl) ?_
          refine lv_aload_n hx hb dX5_move_35 rfl (lv_at hl 1 rfl) ?_
          refine lv_iload hx hb dX5_move_36 (lv_at hl 5 rfl) ?_
          obtain ⟨j1524, hj1524⟩ := pG_5 (cy := cy) (N := N) (T := T) (I := I) (Q := Q) (J := J) (hC.at 0 (by decide)) (hC.k 0 (by decide) rfl)
          refine vp_callSi (W.runV (As := [.int xp]) (rest := [.ref (v (10 + j1517)), .int xm]) ⟨hx, hb, hml, hown, hts⟩ (c_X5_placeOf l dC dI cy v L K N T I Q J  xp hC) (cwV 1 hts gX5_move_X5_placeOf rfl rfl rfl (by decide +kernel) ⟨Nat.le_of_ble_eq_true rfl, Nat.le_of_ble_eq_true rfl⟩) ⟨pb_blind, va_recv hK hP (ci := 5) (q0 := j1524) rfl hj1524, fun U hU hW => ⟨rfl, pb_pre hP hK hN hU hW⟩⟩ rfl rfl hl.1 rfl (lv_room (Nat.le_of_ble_eq_true rfl)) dX5_move_38 ⟨Nat.le_of_ble_eq_true rfl, Nat.le_of_ble_eq_true rfl⟩) (fun r1523 hr1523 => ?_)
          obtain ⟨j1526, hj1526⟩ := pG_1 (cy := cy) (N := N) (T := T) (I := I) (Q := Q) (J := J) (hC.kg hj1517).1 (hC.kg hj1517).2
          refine vp_callSi (W.runV (As := [.int r1523]) (rest := [.int xm]) ⟨hx, hb, hml, hown, hts⟩ (c_X1_memberAt l dC dI cy v L K N T I Q J (v (10 + j1517)) r1523 hC (hC.kg hj1517).1 (hC.kg hj1517).2) (cwV 1 hts gX5_move_X1_memberAt rfl rfl rfl (by decide +kernel) ⟨Nat.le_of_ble_eq_true rfl, Nat.le_of_ble_eq_true rfl⟩) ⟨pb_blind, va_recv hK hP (ci := 1) (q0 := j1526) rfl hj1526, fun U hU hW => ⟨rfl, pb_pre hP hK hN hU hW⟩⟩ rfl rfl hl.1 rfl (lv_room (Nat.le_of_ble_eq_true rfl)) dX5_move_41 ⟨Nat.le_of_ble_eq_true rfl, Nat.le_of_ble_eq_true rfl⟩) (fun r1525 hr1525 => ?_)
          refine lv_icmp_ne (tgt := 56) hx hb dX5_move_44 (by decide) (fun c1527 => ?_) (fun c1527 => ?_)
          · refine lv_bipush (v := (-4)) hx hb dX5_move_56 (by decide) ?_
            exact W.iret (v := (-4)) hx hb hr (fun t ht hW => ⟨⟨(-4), (I, Q, J), rfl, ⟨⟨hC, hR.1⟩, trivial⟩, by rw [ht]; exact hP, va_K.moved hW.alike hK, hD⟩, hS.F ht⟩) hS.2.2 dX5_move_58
          · refine lv_iload_n hx hb dX5_move_47 rfl (lv_at hl 4 rfl) ?_
            refine lv_aload hx hb dX5_move_48 (lv_at hl 0 rfl) ?_
            obtain ⟨j1528, hj1528⟩ := pG_1 (cy := cy) (N := N) (T := T) (I := I) (Q := Q) (J := J) (hC.kg hj1517).1 (hC.kg hj1517).2
            refine va_get (D := (dC, dI)) (ci := 1) (v := .int (I (v (10 + j1517)) 1)) (C := RX1) (T := TX1) (N := 3) hx hb hts hi1 hown hK hP j1528 hj1528 rfl 1 (by decide) (hts (.fieldLink RX5 201 "TallyLogs$Group" "round" "I") (by decide +kernel)) (fun _ h9 => h9) rfl dX5_move_50 ?_
            refine lv_topi (fun x1529 ex1529 => ?_)
            refine lv_icmp_eq (tgt := 59) hx hb dX5_move_53 (by decide) (fun c1530 => ?_) (fun c1530 => ?_)
            · refine lv_aload hx hb dX5_move_59 (lv_at hl 0 rfl) ?_
              refine lv_iload hx hb dX5_move_61 (lv_at hl 5 rfl) ?_
              refine lv_iload hx hb dX5_move_63 (lv_at hl 6 rfl) ?_
              obtain ⟨j1531, hj1531⟩ := pG_1 (cy := cy) (N := N) (T := T) (I := I) (Q := Q) (J := J) (hC.kg hj1517).1 (hC.kg hj1517).2
              have hFc := pfree hD hS hA
              refine va_callv (va_runV (As := [.int xp, .int xo]) (rest := []) ⟨hx, hb, hml, hown, hts⟩ (c_X1_setOffset l dC dI cy v L K N T I Q J s.heap.size j1517 xp xo hC hj1517) (cwV 2 hts gX5_move_X1_setOffset rfl rfl rfl (by decide +kernel) ⟨Nat.le_of_ble_eq_true rfl, Nat.le_of_ble_eq_true rfl⟩) ⟨pw_blind, va_recv hK hP (ci := 1) (q0 := j1531) rfl hj1531, fun U hU hW => ⟨rfl, pw_pre hP hK hN hD hU hW⟩⟩ rfl rfl hl.1 rfl (lv_room (Nat.le_of_ble_eq_true rfl)) dX5_move_65 ⟨Nat.le_of_ble_eq_true rfl, Nat.le_of_ble_eq_true rfl⟩) hS (fun q _ h => hFc q h) hFc (fun d9 t H1 locs ht hvm hw hB hz1 hk1 hS => ?_)
              obtain ⟨I1533, Q1533, J1533⟩ := d9
              obtain ⟨hC, hR1⟩ := hw
              obtain ⟨hP, hK1, hD1⟩ := hB
              rw [ht] at hP
              have hD := hD1.weaken (fun _ _ _ h => hFc _ h)
              generalize H1 = H at hP hS ⊢
              have hP : va_P (dC, dI) vwCl (va_pl L (pF cy K N T I1533 Q1533 J1533)) H := hP
              have hD : va_D A (va_pl L (pF cy K N T I1533 Q1533 J1533)) := hD
              have hC : CT v L K N T I1533 Q1533 := hC
              have hub : I1533 (v 0) 3 = I (v 0) 3 := (show I1533 (v 0) 3 = I (v 0) 3 from hR1).trans (hR.1)
              have hR : RS v I1533 Q1533 J1533 I1533 Q1533 J1533 := RS.rf
              refine lv_iconst (v := 0) hx hb dX5_move_68 (by decide) ?_
              exact W.iret (v := 0) hx hb hr (fun t ht hW => ⟨⟨0, (I1533, Q1533, J1533), rfl, ⟨⟨hC, hR.1.trans hub⟩, trivial⟩, by rw [ht]; exact hP, va_K.moved hW.alike hK, hD⟩, hS.F ht⟩) hS.2.2 dX5_move_69
            · refine lv_bipush (v := (-4)) hx hb dX5_move_56 (by decide) ?_
              exact W.iret (v := (-4)) hx hb hr (fun t ht hW => ⟨⟨(-4), (I, Q, J), rfl, ⟨⟨hC, hR.1⟩, trivial⟩, by rw [ht]; exact hP, va_K.moved hW.alike hK, hD⟩, hS.F ht⟩) hS.2.2 dX5_move_58
      · refine lv_iconst (v := (-1)) hx hb dX5_move_26 (by decide) ?_
        exact W.iret (v := (-1)) hx hb hr (fun t ht hW => ⟨⟨(-1), (I, Q, J), rfl, ⟨⟨hC, hR.1⟩, trivial⟩, by rw [ht]; exact hP, va_K.moved hW.alike hK, hD⟩, hS.F ht⟩) hS.2.2 dX5_move_27
