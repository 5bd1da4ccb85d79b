set_option maxHeartbeats 4000000 in
set_option maxRecDepth 100000 in
/-- owner -/
theorem c_X5_owner (l : Launch) (dC : Nat → ClassId) (dI : Nat → Nat → Nat) (cy : Nat → ClassId) (v : Nat → Nat) (L : List Nat) (K N : Nat → Nat) (T : Nat → Nat → Nat) (I : Nat → Nat → Int32) (Q : Nat → Nat → Option Nat) (J : Nat → Nat → Int32) (xg : Int32) (xp : Int32) (hC : CT v L K N T I Q) : Met l yX5_owner wsX5_owner ({ frames := 2, cells := 0, slots := 0, locals := 45 }) (va_Pc [.ref (v 0), .int xg, .int xp] (pB dC dI cy L (pF cy K N T I Q J))) (vp_Si (fun r => True)) 0 0 (fun _ => False) := by
  refine Met.ofW (cc := cX5_owner) (maxL := 5) (ret := (some .int)) (by decide) rfl ?_
  intro p e s m args below meth c s₁ B hml hv
  obtain ⟨rfl, hP, hK, hN⟩ := hv
  have hx := B.exec
  have hb := B.bytes
  have hr := B.returns
  have hts := atoms_spec (ws := wsX5_owner) B.pre
  have hown : s.vm.findClass RX5 = some m.cls := findClass_of_methodNamed B.named
  have hlocks := B.notSynchronized
  have hi5 : ∀ w ∈ wsX50, w ∈ wsX5_owner := by decide +kernel
  have hl := lv_entry ([.ref (v 0), .int xg, .int xp]) (n := 5) (Nat.le_of_ble_eq_true rfl)
  rw [lg_entry_eq]
  generalize (lg_sl ([.ref (v 0), .int xg, .int xp]) ++ List.replicate (5 - (lg_sl ([.ref (v 0), .int xg, .int xp])).length) Slot.unset).toArray = ls at hl ⊢
  have hl : lv_has ls 5 [(0, .ref (v 0)), (1, .int xg), (2, .int xp)] := hl
  have hn28 := hN.1
  have hn30 := hN.2.1
  have hn37 := hN.2.2.1
  refine lv_aload_n hx hb dX5_owner_0 rfl (lv_at hl 0 rfl) ?_
  refine lv_iload_n hx hb dX5_owner_1 rfl (lv_at hl 1 rfl) ?_
  obtain ⟨j1451, hj1451⟩ := pG_5 (cy := cy) (N := N) (T := T) (I := I) (Q := Q) (J := J) (hC.at 0 (by decide)) (hC.k 0 (by decide) rfl)
  refine va_csq (W.runV (As := [.int xg]) (rest := []) ⟨hx, hb, hml, hown, hts⟩ (c_X5_groupAt l dC dI cy v L K N T I Q J  xg hC) (cwV 1 hts gX5_owner_X5_groupAt rfl rfl rfl (by decide +kernel) ⟨Nat.le_of_ble_eq_true rfl, Nat.le_of_ble_eq_true rfl⟩) ⟨pb_blind, va_recv hK hP (ci := 5) (q0 := j1451) rfl hj1451, fun U hU hW => ⟨rfl, pb_pre hP hK hN hU hW⟩⟩ rfl rfl hl.1 rfl (lv_room (Nat.le_of_ble_eq_true rfl)) dX5_owner_2 ⟨Nat.le_of_ble_eq_true rfl, Nat.le_of_ble_eq_true rfl⟩) (fun r1450 hr1450 => ?_)
  rcases hr1450 with ⟨hn1452, rfl⟩ | ⟨j1452, hj1452, hn1452, rfl⟩
  · refine W.eq (g2 := F0 m 5 ls [.null]) rfl ?_
    refine lv_astore_nN (lv' := [(3, .null), (0, .ref (v 0)), (1, .int xg), (2, .int xp)]) hx hb dX5_owner_5 rfl hl (by decide) rfl (fun ls hl => ?_)
    refine lv_aload_nN hx hb dX5_owner_6 rfl (lv_at hl 0 rfl) ?_
    refine lv_ifnullN (tgt := 18) hx hb dX5_owner_7 (by decide) ?_
    refine lv_iconst (v := (-1)) hx hb dX5_owner_18 (by decide) ?_
    exact W.iret (v := (-1)) hx hb hr (fun t ht hW => ⟨(-1), rfl, trivial, ht⟩) (fun _ h => by cases h) dX5_owner_19
  · refine W.eq (g2 := F0 m 5 ls [.ref (v (10 + j1452))]) rfl ?_
    refine lv_astore_n (lv' := [(3, .ref (v (10 + j1452))), (0, .ref (v 0)), (1, .int xg), (2, .int xp)]) hx hb dX5_owner_5 rfl hl (by decide) rfl (fun ls hl => ?_)
    refine lv_aload_n hx hb dX5_owner_6 rfl (lv_at hl 0 rfl) ?_
    refine lv_ifnull hx hb dX5_owner_7 ?_
    refine lv_aload_n hx hb dX5_owner_10 rfl (lv_at hl 1 rfl) ?_
    refine lv_iload_n hx hb dX5_owner_11 rfl (lv_at hl 3 rfl) ?_
    obtain ⟨j1454, hj1454⟩ := pG_5 (cy := cy) (N := N) (T := T) (I := I) (Q := Q) (J := J) (hC.at 0 (by decide)) (hC.k 0 (by decide) rfl)
    refine va_csq (W.runV (As := [.int xp]) (rest := []) ⟨hx, hb, hml, hown, hts⟩ (c_X5_partitionAt l dC dI cy v L K N T I Q J  xp hC) (cwV 1 hts gX5_owner_X5_partitionAt rfl rfl rfl (by decide +kernel) ⟨Nat.le_of_ble_eq_true rfl, Nat.le_of_ble_eq_true rfl⟩) ⟨pb_blind, va_recv hK hP (ci := 5) (q0 := j1454) rfl hj1454, fun U hU hW => ⟨rfl, pb_pre hP hK hN hU hW⟩⟩ rfl rfl hl.1 rfl (lv_room (Nat.le_of_ble_eq_true rfl)) dX5_owner_12 ⟨Nat.le_of_ble_eq_true rfl, Nat.le_of_ble_eq_true rfl⟩) (fun r1453 hr1453 => ?_)
    cases r1453 with
    | none =>
      refine W.eq (g2 := F0 m 15 ls [.null]) rfl ?_
      refine lv_ifnonnullN hx hb dX5_owner_15 ?_
      refine lv_iconst (v := (-1)) hx hb dX5_owner_18 (by decide) ?_
      exact W.iret (v := (-1)) hx hb hr (fun t ht hW => ⟨(-1), rfl, trivial, ht⟩) (fun _ h => by cases h) dX5_owner_19
    | some b1455 =>
      have hTb1455 := hr1453 b1455 rfl
      refine W.eq (g2 := F0 m 15 ls [.ref b1455]) rfl ?_
      refine lv_ifnonnull (tgt := 20) hx hb dX5_owner_15 (by decide) ?_
      refine lv_aload_n hx hb dX5_owner_20 rfl (lv_at hl 0 rfl) ?_
      refine lv_aload_n hx hb dX5_owner_21 rfl (lv_at hl 1 rfl) ?_
      refine lv_iload_n hx hb dX5_owner_22 rfl (lv_at hl 3 rfl) ?_
      obtain ⟨j1457, hj1457⟩ := pG_5 (cy := cy) (N := N) (T := T) (I := I) (Q := Q) (J := J) (hC.at 0 (by decide)) (hC.k 0 (by decide) rfl)
      refine vp_callSi (W.runV (As := [.int xp]) (rest := [.ref (v (10 + j1452))]) ⟨hx, hb, hml, hown, hts⟩ (c_X5_placeOf l dC dI cy v L K N T I Q J  xp hC) (cwV 1 hts gX5_owner_X5_placeOf rfl rfl rfl (by decide +kernel) ⟨Nat.le_of_ble_eq_true rfl, Nat.le_of_ble_eq_true rfl⟩) ⟨pb_blind, va_recv hK hP (ci := 5) (q0 := j1457) rfl hj1457, fun U hU hW => ⟨rfl, pb_pre hP hK hN hU hW⟩⟩ rfl rfl hl.1 rfl (lv_room (Nat.le_of_ble_eq_true rfl)) dX5_owner_23 ⟨Nat.le_of_ble_eq_true rfl, Nat.le_of_ble_eq_true rfl⟩) (fun r1456 hr1456 => ?_)
      obtain ⟨j1459, hj1459⟩ := pG_1 (cy := cy) (N := N) (T := T) (I := I) (Q := Q) (J := J) (hC.kg hj1452).1 (hC.kg hj1452).2
      refine vp_callSi (W.runV (As := [.int r1456]) (rest := []) ⟨hx, hb, hml, hown, hts⟩ (c_X1_memberAt l dC dI cy v L K N T I Q J (v (10 + j1452)) r1456 hC (hC.kg hj1452).1 (hC.kg hj1452).2) (cwV 1 hts gX5_owner_X1_memberAt rfl rfl rfl (by decide +kernel) ⟨Nat.le_of_ble_eq_true rfl, Nat.le_of_ble_eq_true rfl⟩) ⟨pb_blind, va_recv hK hP (ci := 1) (q0 := j1459) rfl hj1459, fun U hU hW => ⟨rfl, pb_pre hP hK hN hU hW⟩⟩ rfl rfl hl.1 rfl (lv_room (Nat.le_of_ble_eq_true rfl)) dX5_owner_26 ⟨Nat.le_of_ble_eq_true rfl, Nat.le_of_ble_eq_true rfl⟩) (fun r1458 hr1458 => ?_)
      refine lv_istore (lv' := [(4, .int r1458), (3, .ref (v (10 + j1452))), (0, .ref (v 0)), (1, .int xg), (2, .int xp)]) hx hb dX5_owner_29 hl (by decide) rfl (fun ls hl => ?_)
      refine lv_iload hx hb dX5_owner_31 (lv_at hl 0 rfl) ?_
      refine lv_iconst (v := (-1)) hx hb dX5_owner_33 (by decide) ?_
      refine lv_icmp_ne (tgt := 42) hx hb dX5_owner_34 (by decide) (fun c1460 => ?_) (fun c1460 => ?_)
      · refine lv_iload hx hb dX5_owner_42 (lv_at hl 0 rfl) ?_
        exact W.iret (v := r1458) hx hb hr (fun t ht hW => ⟨r1458, rfl, trivial, ht⟩) (fun _ h => by cases h) dX5_owner_44
      · refine lv_bipush (v := (-2)) hx hb dX5_owner_37 (by decide) ?_
        refine lv_goto (tgt := 44) hx hb dX5_owner_39 (by decide) ?_
        exact W.iret (v := (-2)) hx hb hr (fun t ht hW => ⟨(-2), rfl, trivial, ht⟩) (fun _ h => by cases h) dX5_owner_44
set_option maxHeartbeats 4000000 in
set_option maxRecDepth 100000 in
/-- position -/
theorem c_X5_position (l : Launch) (dC : Nat → ClassId) (dI : Nat → Nat → Nat) (cy : Nat → ClassId) (v : Nat → Nat) (L : List Nat) (K N : Nat → Nat) (T : Nat → Nat → Nat) (I : Nat → Nat → Int32) (Q : Nat → Nat → Option Nat) (J : Nat → Nat → Int32) (xg : Int32) (xp : Int32) (hC : CT v L K N T I Q) : Met l yX5_position wsX5_position ({ frames := 1, cells := 0, slots := 0, locals := 21 }) (va_Pc [.ref (v 0), .int xg, .int xp] (pB dC dI cy L (pF cy K N T I Q J))) (vp_Si (fun r => True)) 0 0 (fun _ => False) := by
  refine Met.ofW (cc := cX5_position) (maxL := 4) (ret := (some .int)) (by decide) rfl ?_
  intro p e s m args below meth c s₁ B hml hv
  obtain ⟨rfl, hP, hK, hN⟩ := hv
  have hx := B.exec
  have hb := B.bytes
  have hr := B.returns
  have hts := atoms_spec (ws := wsX5_position) B.pre
  have hown : s.vm.findClass RX5 = some m.cls := findClass_of_methodNamed B.named
  have hlocks := B.notSynchronized
  have hi5 : ∀ w ∈ wsX50, w ∈ wsX5_position := by decide +kernel
  have hl := lv_entry ([.ref (v 0), .int xg, .int xp]) (n := 4) (Nat.le_of_ble_eq_true rfl)
  rw [lg_entry_eq]
  generalize (lg_sl ([.ref (v 0), .int xg, .int xp]) ++ List.replicate (4 - (lg_sl ([.ref (v 0), .int xg, .int xp])).length) Slot.unset).toArray = ls at hl ⊢
  have hl : lv_has ls 4 [(0, .ref (v 0)), (1, .int xg), (2, .int xp)] := hl
  have hn28 := hN.1
  have hn30 := hN.2.1
  have hn37 := hN.2.2.1
  refine lv_aload_n hx hb dX5_position_0 rfl (lv_at hl 0 rfl) ?_
  refine lv_iload_n hx hb dX5_position_1 rfl (lv_at hl 1 rfl) ?_
  obtain ⟨j1462, hj1462⟩ := pG_5 (cy := cy) (N := N) (T := T) (I := I) (Q := Q) (J := J) (hC.at 0 (by decide)) (hC.k 0 (by decide) rfl)
  refine va_csq (W.runV (As := [.int xg]) (rest := []) ⟨hx, hb, hml, hown, hts⟩ (c_X5_groupAt l dC dI cy v L K N T I Q J  xg hC) (cwV 1 hts gX5_position_X5_groupAt rfl rfl rfl (by decide +kernel) ⟨Nat.le_of_ble_eq_true rfl, Nat.le_of_ble_eq_true rfl⟩) ⟨pb_blind, va_recv hK hP (ci := 5) (q0 := j1462) rfl hj1462, fun U hU hW => ⟨rfl, pb_pre hP hK hN hU hW⟩⟩ rfl rfl hl.1 rfl (lv_room (Nat.le_of_ble_eq_true rfl)) dX5_position_2 ⟨Nat.le_of_ble_eq_true rfl, Nat.le_of_ble_eq_true rfl⟩) (fun r1461 hr1461 => ?_)
  rcases hr1461 with ⟨hn1463, rfl⟩ | ⟨j1463, hj1463, hn1463, rfl⟩
  · refine W.eq (g2 := F0 m 5 ls [.null]) rfl ?_
    refine lv_astore_nN (lv' := [(3, .null), (0, .ref (v 0)), (1, .int xg), (2, .int xp)]) hx hb dX5_position_5 rfl hl (by decide) rfl (fun ls hl => ?_)
    refine lv_aload_nN hx hb dX5_position_6 rfl (lv_at hl 0 rfl) ?_
    refine lv_ifnullN (tgt := 18) hx hb dX5_position_7 (by decide) ?_
    refine lv_iconst (v := (-1)) hx hb dX5_position_18 (by decide) ?_
    exact W.iret (v := (-1)) hx hb hr (fun t ht hW => ⟨(-1), rfl, trivial, ht⟩) (fun _ h => by cases h) dX5_position_19
  · refine W.eq (g2 := F0 m 5 ls [.ref (v (10 + j1463))]) rfl ?_
    refine lv_astore_n (lv' := [(3, .ref (v (10 + j1463))), (0, .ref (v 0)), (1, .int xg), (2, .int xp)]) hx hb dX5_position_5 rfl hl (by decide) rfl (fun ls hl => ?_)
    refine lv_aload_n hx hb dX5_position_6 rfl (lv_at hl 0 rfl) ?_
    refine lv_ifnull hx hb dX5_position_7 ?_
    refine lv_aload_n hx hb dX5_position_10 rfl (lv_at hl 1 rfl) ?_
    refine lv_iload_n hx hb dX5_position_11 rfl (lv_at hl 3 rfl) ?_
    obtain ⟨j1465, hj1465⟩ := pG_5 (cy := cy) (N := N) (T := T) (I := I) (Q := Q) (J := J) (hC.at 0 (by decide)) (hC.k 0 (by decide) rfl)
    refine va_csq (W.runV (As := [.int xp]) (rest := []) ⟨hx, hb, hml, hown, hts⟩ (c_X5_partitionAt l dC dI cy v L K N T I Q J  xp hC) (cwV 1 hts gX5_position_X5_partitionAt rfl rfl rfl (by decide +kernel) ⟨Nat.le_of_ble_eq_true rfl, Nat.le_of_ble_eq_true rfl⟩) ⟨pb_blind, va_recv hK hP (ci := 5) (q0 := j1465) rfl hj1465, fun U hU hW => ⟨rfl, pb_pre hP hK hN hU hW⟩⟩ rfl rfl hl.1 rfl (lv_room (Nat.le_of_ble_eq_true rfl)) dX5_position_12 ⟨Nat.le_of_ble_eq_true rfl, Nat.le_of_ble_eq_true rfl⟩) (fun r1464 hr1464 => ?_)
    cases r1464 with
    | none =>
      refine W.eq (g2 := F0 m 15 ls [.null]) rfl ?_
      refine lv_ifnonnullN hx hb dX5_position_15 ?_
      refine lv_iconst (v := (-1)) hx hb dX5_position_18 (by decide) ?_
      exact W.iret (v := (-1)) hx hb hr (fun t ht hW => ⟨(-1), rfl, trivial, ht⟩) (fun _ h => by cases h) dX5_position_19
    | some b1466 =>
      have hTb1466 := hr1464 b1466 rfl
      refine W.eq (g2 := F0 m 15 ls [.ref b1466]) rfl ?_
      refine lv_ifnonnull (tgt := 20) hx hb dX5_position_15 (by decide) ?_
      refine lv_aload_n hx hb dX5_position_20 rfl (lv_at hl 0 rfl) ?_
      refine lv_iload_n hx hb dX5_position_21 rfl (lv_at hl 3 rfl) ?_
      obtain ⟨j1467, hj1467⟩ := pG_1 (cy := cy) (N := N) (T := T) (I := I) (Q := Q) (J := J) (hC.kg hj1463).1 (hC.kg hj1463).2
      refine vp_callSi (W.runV (As := [.int xp]) (rest := []) ⟨hx, hb, hml, hown, hts⟩ (c_X1_offsetFor l dC dI cy v L K N T I Q J j1463 xp hC hj1463) (cwV 1 hts gX5_position_X1_offsetFor rfl rfl rfl (by decide +kernel) ⟨Nat.le_of_ble_eq_true rfl, Nat.le_of_ble_eq_true rfl⟩) ⟨pb_blind, va_recv hK hP (ci := 1) (q0 := j1467) rfl hj1467, fun U hU hW => ⟨rfl, pb_pre hP hK hN hU hW⟩⟩ rfl rfl hl.1 rfl (lv_room (Nat.le_of_ble_eq_true rfl)) dX5_position_22 ⟨Nat.le_of_ble_eq_true rfl, Nat.le_of_ble_eq_true rfl⟩) (fun r1468 hr1468 => ?_)
      exact W.iret (v := r1468) hx hb hr (fun t ht hW => ⟨r1468, rfl, trivial, ht⟩) (fun _ h => by cases h) dX5_position_25
