set_option maxHeartbeats 4000000 in
set_option maxRecDepth 100000 in
/-- owner, exactly -/
theorem e_X5_owner (l : Launch) (dC : Nat → ClassId) (dI : Nat → Nat → Nat) (cy : Nat → ClassId) (v : Nat → Nat) (L : List Nat) (K N : Nat → Nat) (T : Nat → Nat → Nat) (I : Nat → Nat → Int32) (Q : Nat → Nat → Option Nat) (J : Nat → Nat → Int32) (xg : Int32) (xp : Int32) (hC : CT v L K N T I Q) : Met l yX5_owner wsX5_owner ({ frames := 2, cells := 0, slots := 0, locals := 45 }) (va_Pc [.ref (v 0), .int xg, .int xp] (pB dC dI cy L (pF cy K N T I Q J))) (vp_Si (fun r => r = sp_own (I (v (10 + xg.toNatClampNeg)) 0) (fun q => oN (Q (v 1) q)) xg xp)) 0 0 (fun _ => False) := by
  refine Met.ofW (cc := cX5_owner) (maxL := 5) (ret := (some .int)) (by decide) rfl ?_
  intro p e s m args below meth c s₁ B hml hv
  obtain ⟨rfl, hP, hK, hN⟩ := hv
  have hx := B.exec
  have hb := B.bytes
  have hr := B.returns
  have hts := atoms_spec (ws := wsX5_owner) B.pre
  have hown : s.vm.findClass RX5 = some m.cls := findClass_of_methodNamed B.named
  have hlocks := B.notSynchronized
  have hi5 : ∀ w ∈ wsX50, w ∈ wsX5_owner := by decide +kernel
  have hl := lv_entry ([.ref (v 0), .int xg, .int xp]) (n := 5) (Nat.le_of_ble_eq_true rfl)
  rw [lg_entry_eq]
  generalize (lg_sl ([.ref (v 0), .int xg, .int xp]) ++ List.replicate (5 - (lg_sl ([.ref (v 0), .int xg, .int xp])).length) Slot.unset).toArray = ls at hl ⊢
  have hl : lv_has ls 5 [(0, .ref (v 0)), (1, .int xg), (2, .int xp)] := hl
  have hn28 := hN.1
  have hn30 := hN.2.1
  have hn37 := hN.2.2.1
  refine lv_aload_n hx hb dX5_owner_0 rfl (lv_at hl 0 rfl) ?_
  refine lv_iload_n hx hb dX5_owner_1 rfl (lv_at hl 1 rfl) ?_
  obtain ⟨j100081, hj100081⟩ := pG_5 (cy := cy) (N := N) (T := T) (I := I) (Q := Q) (J := J) (hC.at 0 (by decide)) (hC.k 0 (by decide) rfl)
  refine va_csq (W.runV (As := [.int xg]) (rest := []) ⟨hx, hb, hml, hown, hts⟩ (c_X5_groupAt l dC dI cy v L K N T I Q J  xg hC) (cwV 1 hts gX5_owner_X5_groupAt rfl rfl rfl (by decide +kernel) ⟨Nat.le_of_ble_eq_true rfl, Nat.le_of_ble_eq_true rfl⟩) ⟨pb_blind, va_recv hK hP (ci := 5) (q0 := j100081) rfl hj100081, fun U hU hW => ⟨rfl, pb_pre hP hK hN hU hW⟩⟩ rfl rfl hl.1 rfl (lv_room (Nat.le_of_ble_eq_true rfl)) dX5_owner_2 ⟨Nat.le_of_ble_eq_true rfl, Nat.le_of_ble_eq_true rfl⟩) (fun r100080 hr100080 => ?_)
  rcases hr100080 with ⟨hn100082, rfl⟩ | ⟨j100082, hj100082, hn100082, rfl⟩
  · refine W.eq (g2 := F0 m 5 ls [.null]) rfl ?_
    refine lv_astore_nN (lv' := [(3, .null), (0, .ref (v 0)), (1, .int xg), (2, .int xp)]) hx hb dX5_owner_5 rfl hl (by decide) rfl (fun ls hl => ?_)
    refine lv_aload_nN hx hb dX5_owner_6 rfl (lv_at hl 0 rfl) ?_
    refine lv_ifnullN (tgt := 18) hx hb dX5_owner_7 (by decide) ?_
    refine lv_iconst (v := (-1)) hx hb dX5_owner_18 (by decide) ?_
    exact W.iret (v := (-1)) hx hb hr (fun t ht hW => ⟨(-1), rfl, by show _ = _; rw [sp_own, if_neg (fun q => hn100082 ⟨by omega, by omega⟩)], ht⟩) (fun _ h => by cases h) dX5_owner_19
  · refine W.eq (g2 := F0 m 5 ls [.ref (v (10 + j100082))]) rfl ?_
    refine lv_astore_n (lv' := [(3, .ref (v (10 + j100082))), (0, .ref (v 0)), (1, .int xg), (2, .int xp)]) hx hb dX5_owner_5 rfl hl (by decide) rfl (fun ls hl => ?_)
    refine lv_aload_n hx hb dX5_owner_6 rfl (lv_at hl 0 rfl) ?_
    refine lv_ifnull hx hb dX5_owner_7 ?_
    refine lv_aload_n hx hb dX5_owner_10 rfl (lv_at hl 1 rfl) ?_
    refine lv_iload_n hx hb dX5_owner_11 rfl (lv_at hl 3 rfl) ?_
    obtain ⟨j100084, hj100084⟩ := pG_5 (cy := cy) (N := N) (T := T) (I := I) (Q := Q) (J := J) (hC.at 0 (by decide)) (hC.k 0 (by decide) rfl)
    refine va_csq (W.runV (As := [.int xp]) (rest := []) ⟨hx, hb, hml, hown, hts⟩ (e_X5_partitionAt l dC dI cy v L K N T I Q J  xp hC) (cwV 1 hts gX5_owner_X5_partitionAt rfl rfl rfl (by decide +kernel) ⟨Nat.le_of_ble_eq_true rfl, Nat.le_of_ble_eq_true rfl⟩) ⟨pb_blind, va_recv hK hP (ci := 5) (q0 := j100084) rfl hj100084, fun U hU hW => ⟨rfl, pb_pre hP hK hN hU hW⟩⟩ rfl rfl hl.1 rfl (lv_room (Nat.le_of_ble_eq_true rfl)) dX5_owner_12 ⟨Nat.le_of_ble_eq_true rfl, Nat.le_of_ble_eq_true rfl⟩) (fun r100083 hr100083 => ?_)
    rcases hr100083 with ⟨hn100085, rfl⟩ | ⟨j100085, hj100085, hn100085, hq100085⟩
    · refine W.eq (g2 := F0 m 15 ls [.null]) rfl ?_
      refine lv_ifnonnullN hx hb dX5_owner_15 ?_
      refine lv_iconst (v := (-1)) hx hb dX5_owner_18 (by decide) ?_
      exact W.iret (v := (-1)) hx hb hr (fun t ht hW => ⟨(-1), rfl, by show _ = _; rw [sp_own, if_pos (by rw [hn100082, nI_toInt (by omega)]; omega), if_neg (fun q => hn100085 ⟨by omega, by omega⟩)], ht⟩) (fun _ h => by cases h) dX5_owner_19
    · cases r100083 with
      | none =>
        refine W.eq (g2 := F0 m 15 ls [.null]) rfl ?_
        refine lv_ifnonnullN hx hb dX5_owner_15 ?_
        refine lv_iconst (v := (-1)) hx hb dX5_owner_18 (by decide) ?_
        exact W.iret (v := (-1)) hx hb hr (fun t ht hW => ⟨(-1), rfl, by show _ = _; rw [sp_own, if_pos (by rw [hn100082, nI_toInt (by omega)]; omega), if_pos (by rw [hn100085, nI_toInt (by omega)]; omega), show xp.toNatClampNeg = j100085 by rw [hn100085, nI_clamp (by omega)], if_pos (by show oN (Q (v 1) j100085) = 0; rw [← hq100085]; rfl)], ht⟩) (fun _ h => by cases h) dX5_owner_19
      | some b100086 =>
        have hTb100086 := hC.2.2.2.1 j100085 b100086 hj100085 hq100085.symm
        refine W.eq (g2 := F0 m 15 ls [.ref b100086]) rfl ?_
        refine lv_ifnonnull (tgt := 20) hx hb dX5_owner_15 (by decide) ?_
        refine lv_aload_n hx hb dX5_owner_20 rfl (lv_at hl 0 rfl) ?_
        refine lv_aload_n hx hb dX5_owner_21 rfl (lv_at hl 1 rfl) ?_
        refine lv_iload_n hx hb dX5_owner_22 rfl (lv_at hl 3 rfl) ?_
        obtain ⟨j100088, hj100088⟩ := pG_5 (cy := cy) (N := N) (T := T) (I := I) (Q := Q) (J := J) (hC.at 0 (by decide)) (hC.k 0 (by decide) rfl)
        refine vp_callSi (W.runV (As := [.int xp]) (rest := [.ref (v (10 + j100082))]) ⟨hx, hb, hml, hown, hts⟩ (e_X5_placeOf l dC dI cy v L K N T I Q J  xp j100085 hC hj100085 hn100085) (cwV 1 hts gX5_owner_X5_placeOf rfl rfl rfl (by decide +kernel) ⟨Nat.le_of_ble_eq_true rfl, Nat.le_of_ble_eq_true rfl⟩) ⟨pb_blind, va_recv hK hP (ci := 5) (q0 := j100088) rfl hj100088, fun U hU hW => ⟨rfl, pb_pre hP hK hN hU hW⟩⟩ rfl rfl hl.1 rfl (lv_room (Nat.le_of_ble_eq_true rfl)) dX5_owner_23 ⟨Nat.le_of_ble_eq_true rfl, Nat.le_of_ble_eq_true rfl⟩) (fun r100087 hr100087 => ?_)
        obtain ⟨j100090, hj100090⟩ := pG_1 (cy := cy) (N := N) (T := T) (I := I) (Q := Q) (J := J) (hC.kg hj100082).1 (hC.kg hj100082).2
        refine vp_callSi (W.runV (As := [.int r100087]) (rest := []) ⟨hx, hb, hml, hown, hts⟩ (e_X1_memberAt l dC dI cy v L K N T I Q J (v (10 + j100082)) r100087 hC (hC.kg hj100082).1 (hC.kg hj100082).2) (cwV 1 hts gX5_owner_X1_memberAt rfl rfl rfl (by decide +kernel) ⟨Nat.le_of_ble_eq_true rfl, Nat.le_of_ble_eq_true rfl⟩) ⟨pb_blind, va_recv hK hP (ci := 1) (q0 := j100090) rfl hj100090, fun U hU hW => ⟨rfl, pb_pre hP hK hN hU hW⟩⟩ rfl rfl hl.1 rfl (lv_room (Nat.le_of_ble_eq_true rfl)) dX5_owner_26 ⟨Nat.le_of_ble_eq_true rfl, Nat.le_of_ble_eq_true rfl⟩) (fun r100089 hr100089 => ?_)
        refine lv_istore (lv' := [(4, .int r100089), (3, .ref (v (10 + j100082))), (0, .ref (v 0)), (1, .int xg), (2, .int xp)]) hx hb dX5_owner_29 hl (by decide) rfl (fun ls hl => ?_)
        refine lv_iload hx hb dX5_owner_31 (lv_at hl 0 rfl) ?_
        refine lv_iconst (v := (-1)) hx hb dX5_owner_33 (by decide) ?_
        refine lv_icmp_ne (tgt := 42) hx hb dX5_owner_34 (by decide) (fun c100091 => ?_) (fun c100091 => ?_)
        · refine lv_iload hx hb dX5_owner_42 (lv_at hl 0 rfl) ?_
          exact W.iret (v := r100089) hx hb hr (fun t ht hW => ⟨r100089, rfl, by show _ = _; rw [sp_own, if_pos (by rw [hn100082, nI_toInt (by omega)]; omega), if_pos (by rw [hn100085, nI_toInt (by omega)]; omega), show xp.toNatClampNeg = j100085 by rw [hn100085, nI_clamp (by omega)], if_neg (fun q => by have q := oN_0.mp q; rw [← hq100085] at q; cases q), show xg.toNatClampNeg = j100082 by rw [hn100082, nI_clamp (by omega)], ← hr100087, ← hr100089, sp_ow1, if_neg c100091], ht⟩) (fun _ h => by cases h) dX5_owner_44
        · refine lv_bipush (v := (-2)) hx hb dX5_owner_37 (by decide) ?_
          refine lv_goto (tgt := 44) hx hb dX5_owner_39 (by decide) ?_
          exact W.iret (v := (-2)) hx hb hr (fun t ht hW => ⟨(-2), rfl, by show _ = _; rw [sp_own, if_pos (by rw [hn100082, nI_toInt (by omega)]; omega), if_pos (by rw [hn100085, nI_toInt (by omega)]; omega), show xp.toNatClampNeg = j100085 by rw [hn100085, nI_clamp (by omega)], if_neg (fun q => by have q := oN_0.mp q; rw [← hq100085] at q; cases q), show xg.toNatClampNeg = j100082 by rw [hn100082, nI_clamp (by omega)], ← hr100087, ← hr100089, sp_ow1, if_pos c100091], ht⟩) (fun _ h => by cases h) dX5_owner_44
set_option maxHeartbeats 4000000 in
set_option maxRecDepth 100000 in
/-- position, exactly -/
theorem e_X5_position (l : Launch) (dC : Nat → ClassId) (dI : Nat → Nat → Nat) (cy : Nat → ClassId) (v : Nat → Nat) (L : List Nat) (K N : Nat → Nat) (T : Nat → Nat → Nat) (I : Nat → Nat → Int32) (Q : Nat → Nat → Option Nat) (J : Nat → Nat → Int32) (xg : Int32) (xp : Int32) (hC : CT v L K N T I Q) : Met l yX5_position wsX5_position ({ frames := 1, cells := 0, slots := 0, locals := 21 }) (va_Pc [.ref (v 0), .int xg, .int xp] (pB dC dI cy L (pF cy K N T I Q J))) (vp_Si (fun r => r = sp_pos (J (v (14 + xg.toNatClampNeg)) xp.toNatClampNeg) (fun q => oN (Q (v 1) q)) xg xp)) 0 0 (fun _ => False) := by
  refine Met.ofW (cc := cX5_position) (maxL := 4) (ret := (some .int)) (by decide) rfl ?_
  intro p e s m args below meth c s₁ B hml hv
  obtain ⟨rfl, hP, hK, hN⟩ := hv
  have hx := B.exec
  have hb := B.bytes
  have hr := B.returns
  have hts := atoms_spec (ws := wsX5_position) B.pre
  have hown : s.vm.findClass RX5 = some m.cls := findClass_of_methodNamed B.named
  have hlocks := B.notSynchronized
  have hi5 : ∀ w ∈ wsX50, w ∈ wsX5_position := by decide +kernel
  have hl := lv_entry ([.ref (v 0), .int xg, .int xp]) (n := 4) (Nat.le_of_ble_eq_true rfl)
  rw [lg_entry_eq]
  generalize (lg_sl ([.ref (v 0), .int xg, .int xp]) ++ List.replicate (4 - (lg_sl ([.ref (v 0), .int xg, .int xp])).length) Slot.unset).toArray = ls at hl ⊢
  have hl : lv_has ls 4 [(0, .ref (v 0)), (1, .int xg), (2, .int xp)] := hl
  have hn28 := hN.1
  have hn30 := hN.2.1
  have hn37 := hN.2.2.1
  refine lv_aload_n hx hb dX5_position_0 rfl (lv_at hl 0 rfl) ?_
  refine lv_iload_n hx hb dX5_position_1 rfl (lv_at hl 1 rfl) ?_
  obtain ⟨j100093, hj100093⟩ := pG_5 (cy := cy) (N := N) (T := T) (I := I) (Q := Q) (J := J) (hC.at 0 (by decide)) (hC.k 0 (by decide) rfl)
  refine va_csq (W.runV (As := [.int xg]) (rest := []) ⟨hx, hb, hml, hown, hts⟩ (c_X5_groupAt l dC dI cy v L K N T I Q J  xg hC) (cwV 1 hts gX5_position_X5_groupAt rfl rfl rfl (by decide +kernel) ⟨Nat.le_of_ble_eq_true rfl, Nat.le_of_ble_eq_true rfl⟩) ⟨pb_blind, va_recv hK hP (ci := 5) (q0 := j100093) rfl hj100093, fun U hU hW => ⟨rfl, pb_pre hP hK hN hU hW⟩⟩ rfl rfl hl.1 rfl (lv_room (Nat.le_of_ble_eq_true rfl)) dX5_position_2 ⟨Nat.le_of_ble_eq_true rfl, Nat.le_of_ble_eq_true rfl⟩) (fun r100092 hr100092 => ?_)
  rcases hr100092 with ⟨hn100094, rfl⟩ | ⟨j100094, hj100094, hn100094, rfl⟩
  · refine W.eq (g2 := F0 m 5 ls [.null]) rfl ?_
    refine lv_astore_nN (lv' := [(3, .null), (0, .ref (v 0)), (1, .int xg), (2, .int xp)]) hx hb dX5_position_5 rfl hl (by decide) rfl (fun ls hl => ?_)
    refine lv_aload_nN hx hb dX5_position_6 rfl (lv_at hl 0 rfl) ?_
    refine lv_ifnullN (tgt := 18) hx hb dX5_position_7 (by decide) ?_
    refine lv_iconst (v := (-1)) hx hb dX5_position_18 (by decide) ?_
    exact W.iret (v := (-1)) hx hb hr (fun t ht hW => ⟨(-1), rfl, by show _ = _; rw [sp_pos, if_neg (fun q => hn100094 ⟨by omega, by omega⟩)], ht⟩) (fun _ h => by cases h) dX5_position_19
  · refine W.eq (g2 := F0 m 5 ls [.ref (v (10 + j100094))]) rfl ?_
    refine lv_astore_n (lv' := [(3, .ref (v (10 + j100094))), (0, .ref (v 0)), (1, .int xg), (2, .int xp)]) hx hb dX5_position_5 rfl hl (by decide) rfl (fun ls hl => ?_)
    refine lv_aload_n hx hb dX5_position_6 rfl (lv_at hl 0 rfl) ?_
    refine lv_ifnull hx hb dX5_position_7 ?_
    refine lv_aload_n hx hb dX5_position_10 rfl (lv_at hl 1 rfl) ?_
    refine lv_iload_n hx hb dX5_position_11 rfl (lv_at hl 3 rfl) ?_
    obtain ⟨j100096, hj100096⟩ := pG_5 (cy := cy) (N := N) (T := T) (I := I) (Q := Q) (J := J) (hC.at 0 (by decide)) (hC.k 0 (by decide) rfl)
    refine va_csq (W.runV (As := [.int xp]) (rest := []) ⟨hx, hb, hml, hown, hts⟩ (e_X5_partitionAt l dC dI cy v L K N T I Q J  xp hC) (cwV 1 hts gX5_position_X5_partitionAt rfl rfl rfl (by decide +kernel) ⟨Nat.le_of_ble_eq_true rfl, Nat.le_of_ble_eq_true rfl⟩) ⟨pb_blind, va_recv hK hP (ci := 5) (q0 := j100096) rfl hj100096, fun U hU hW => ⟨rfl, pb_pre hP hK hN hU hW⟩⟩ rfl rfl hl.1 rfl (lv_room (Nat.le_of_ble_eq_true rfl)) dX5_position_12 ⟨Nat.le_of_ble_eq_true rfl, Nat.le_of_ble_eq_true rfl⟩) (fun r100095 hr100095 => ?_)
    rcases hr100095 with ⟨hn100097, rfl⟩ | ⟨j100097, hj100097, hn100097, hq100097⟩
    · refine W.eq (g2 := F0 m 15 ls [.null]) rfl ?_
      refine lv_ifnonnullN hx hb dX5_position_15 ?_
      refine lv_iconst (v := (-1)) hx hb dX5_position_18 (by decide) ?_
      exact W.iret (v := (-1)) hx hb hr (fun t ht hW => ⟨(-1), rfl, by show _ = _; rw [sp_pos, if_pos (by rw [hn100094, nI_toInt (by omega)]; omega), if_neg (fun q => hn100097 ⟨by omega, by omega⟩)], ht⟩) (fun _ h => by cases h) dX5_position_19
    · cases r100095 with
      | none =>
        refine W.eq (g2 := F0 m 15 ls [.null]) rfl ?_
        refine lv_ifnonnullN hx hb dX5_position_15 ?_
        refine lv_iconst (v := (-1)) hx hb dX5_position_18 (by decide) ?_
        exact W.iret (v := (-1)) hx hb hr (fun t ht hW => ⟨(-1), rfl, by show _ = _; rw [sp_pos, if_pos (by rw [hn100094, nI_toInt (by omega)]; omega), if_pos (by rw [hn100097, nI_toInt (by omega)]; omega), show xp.toNatClampNeg = j100097 by rw [hn100097, nI_clamp (by omega)], if_pos (by show oN (Q (v 1) j100097) = 0; rw [← hq100097]; rfl)], ht⟩) (fun _ h => by cases h) dX5_position_19
      | some b100098 =>
        have hTb100098 := hC.2.2.2.1 j100097 b100098 hj100097 hq100097.symm
        refine W.eq (g2 := F0 m 15 ls [.ref b100098]) rfl ?_
        refine lv_ifnonnull (tgt := 20) hx hb dX5_position_15 (by decide) ?_
        refine lv_aload_n hx hb dX5_position_20 rfl (lv_at hl 0 rfl) ?_
        refine lv_iload_n hx hb dX5_position_21 rfl (lv_at hl 3 rfl) ?_
        obtain ⟨j100099, hj100099⟩ := pG_1 (cy := cy) (N := N) (T := T) (I := I) (Q := Q) (J := J) (hC.kg hj100094).1 (hC.kg hj100094).2
        have hin9 : vp_in xp 4 := by rw [hn100097]; exact nI_in hj100097 (by decide)
        refine vp_callSi (W.runV (As := [.int xp]) (rest := []) ⟨hx, hb, hml, hown, hts⟩ (e_X1_offsetFor l dC dI cy v L K N T I Q J j100094 xp hC hj100094 hin9) (cwV 1 hts gX5_position_X1_offsetFor rfl rfl rfl (by decide +kernel) ⟨Nat.le_of_ble_eq_true rfl, Nat.le_of_ble_eq_true rfl⟩) ⟨pb_blind, va_recv hK hP (ci := 1) (q0 := j100099) rfl hj100099, fun U hU hW => ⟨rfl, pb_pre hP hK hN hU hW⟩⟩ rfl rfl hl.1 rfl (lv_room (Nat.le_of_ble_eq_true rfl)) dX5_position_22 ⟨Nat.le_of_ble_eq_true rfl, Nat.le_of_ble_eq_true rfl⟩) (fun r100100 hr100100 => ?_)
        exact W.iret (v := r100100) hx hb hr (fun t ht hW => ⟨r100100, rfl, by show _ = _; rw [sp_pos, if_pos (by rw [hn100094, nI_toInt (by omega)]; omega), if_pos (by rw [hn100097, nI_toInt (by omega)]; omega), if_neg (fun q => by rw [show xp.toNatClampNeg = j100097 by rw [hn100097, nI_clamp (by omega)]] at q; have q := oN_0.mp q; rw [← hq100097] at q; cases q), show xg.toNatClampNeg = j100094 by rw [hn100094, nI_clamp (by omega)]]; exact hr100100, ht⟩) (fun _ h => by cases h) dX5_position_25
