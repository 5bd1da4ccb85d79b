set_option maxHeartbeats 4000000 in
set_option maxRecDepth 100000 in
/-- Group.setOffset, exactly -/
theorem e_X1_setOffset (l : Launch) (dC : Nat → ClassId) (dI : Nat → Nat → Nat) (cy : Nat → ClassId) (v : Nat → Nat) (L : List Nat) (K N : Nat → Nat) (T : Nat → Nat → Nat) (I : Nat → Nat → Int32) (Q : Nat → Nat → Option Nat) (J : Nat → Nat → Int32) (sz : Nat) (gj : Nat) (xp xo : Int32) (hC : CT v L K N T I Q) (hgj : gj < 4) (hxp : vp_in xp 4) : Met l yX1_setOffset wsX1_setOffset ({ frames := 0, cells := 0, slots := 0, locals := 0 }) (va_Pc [.ref (v (10 + gj)), .int xp, .int xo] (pW dC dI cy L (pF cy K N T I Q J) sz)) (va_Qv (fun d : (Nat → Nat → Int32) × (Nat → Nat → Option Nat) × (Nat → Nat → Int32) => CT v L K N T d.1 d.2.1 ∧ d.1 = I ∧ d.2.1 = Q ∧ d.2.2 = va_up J (v (14 + gj)) (upd (J (v (14 + gj))) xp.toNatClampNeg xo)) (fun (d : (Nat → Nat → Int32) × (Nat → Nat → Option Nat) × (Nat → Nat → Int32)) t => va_P (dC, dI) vwCl (va_pl L (pF cy K N T d.1 d.2.1 d.2.2)) t.heap ∧ va_K (dC, dI) vwCl (pTy cy) t ∧ va_D (va_A (va_pl L (pF cy K N T I Q J)) sz) (va_pl L (pF cy K N T d.1 d.2.1 d.2.2))) (va_A (va_pl L (pF cy K N T I Q J)) sz)) 0 0 (va_A (va_pl L (pF cy K N T I Q J)) sz) := by
  refine Met.ofW (cc := cX1_setOffset) (maxL := 3) (ret := none) (by decide) rfl ?_
  intro p e s m args below meth c s₁ B hml hv
  obtain ⟨rfl, hsz, ⟨hP, hK, hN⟩, hD0⟩ := hv
  have hx := B.exec
  have hb := B.bytes
  have hr := B.returns
  have hts := atoms_spec (ws := wsX1_setOffset) B.pre
  have hown : s.vm.findClass RX1 = some m.cls := findClass_of_methodNamed B.named
  have hlocks := B.notSynchronized
  have hi1 : ∀ w ∈ wsX10, w ∈ wsX1_setOffset := by decide +kernel
  have hl := lv_entry ([.ref (v (10 + gj)), .int xp, .int xo]) (n := 3) (Nat.le_of_ble_eq_true rfl)
  rw [lg_entry_eq]
  generalize (lg_sl ([.ref (v (10 + gj)), .int xp, .int xo]) ++ List.replicate (3 - (lg_sl ([.ref (v (10 + gj)), .int xp, .int xo])).length) Slot.unset).toArray = ls at hl ⊢
  have hl : lv_has ls 3 [(0, .ref (v (10 + gj))), (1, .int xp), (2, .int xo)] := hl
  subst hsz
  have hD := hD0.self (sz := s.heap.size)
  generalize hAe : va_A (va_pl L (pF cy K N T I Q J)) s.heap.size = A at hD ⊢
  have hA : ∀ q : Nat, s.heap.size ≤ q → A q := fun q h => by rw [← hAe]; exact Or.inr h
  have hS : va_S A s.heap s.heap [] := va_S.rf
  have hR : RS v I Q J I Q J := RS.rf
  refine lv_iload_n hx hb dX1_setOffset_0 rfl (lv_at hl 1 rfl) ?_
  refine lv_if_lt (tgt := 16) hx hb dX1_setOffset_1 (by decide) (fun c100101 => ?_) (fun c100101 => ?_)
  · exact absurd c100101 (fun q => hxp (Or.inl q))
  refine lv_iload_n hx hb dX1_setOffset_4 rfl (lv_at hl 1 rfl) ?_
  refine lv_iconst (v := 4) hx hb dX1_setOffset_5 (by decide) ?_
  refine lv_icmp_ge (tgt := 16) hx hb dX1_setOffset_6 (by decide) (fun c100102 => ?_) (fun c100102 => ?_)
  · exact absurd c100102 (by have h9 := vp_in_iff.mp hxp; rw [xk_le, xk_4]; omega)
  refine lv_aload_n hx hb dX1_setOffset_9 rfl (lv_at hl 0 rfl) ?_
  obtain ⟨j100103, hj100103⟩ := pG_1 (cy := cy) (N := N) (T := T) (I := I) (Q := Q) (J := J) (hC.kg hgj).1 (hC.kg hgj).2
  refine va_get (D := (dC, dI)) (ci := 1) (v := .ref (T (v (10 + gj)) 2)) (C := RX1) (T := TX1) (N := 3) hx hb hts hi1 hown hK hP j100103 hj100103 rfl 2 (by decide) (hts (.fieldLink RX1 18 "TallyLogs$Group" "offsets" "[I") (by decide +kernel)) (fun _ h9 => h9) rfl dX1_setOffset_10 ?_
  refine W.eq (g2 := F0 m 13 ls [.ref (v (14 + gj))]) (by rw [(hC.1.2.2.2 gj hgj).1]) ?_
  refine lv_iload_n hx hb dX1_setOffset_13 rfl (lv_at hl 1 rfl) ?_
  refine lv_iload_n hx hb dX1_setOffset_14 rfl (lv_at hl 2 rfl) ?_
  obtain ⟨j100104, hj100104⟩ := pG_7 (cy := cy) (N := N) (T := T) (I := I) (Q := Q) (J := J) (hC.ko hgj).1 (hC.ko hgj).2
  have hDo := hD
  refine va_iast (x := xo) hx hb hK hP hD hS j100104 0 hj100104 rfl (by rw [(hC.1.2.2.2 gj hgj).2]; exact hxp) dX1_setOffset_15 (fun H locs hP hD hS => ?_)
  have hP := Eq.mp (congrArg (fun w => va_P (dC, dI) vwCl w H) (pS_7 (x := xo) hDo (hC.ko hgj).1 (hC.ko hgj).2 hj100104)) hP
  obtain ⟨J100105, eJ100105⟩ : ∃ z, z = va_up J (v (14 + gj)) (upd (J (v (14 + gj))) xp.toNatClampNeg xo) := ⟨_, rfl⟩
  rw [← eJ100105] at hP
  have hD : va_D A (va_pl L (pF cy K N T I Q J100105)) := pD hDo
  exact W.vret hx hb hr (fun t ht hW => ⟨⟨(I, Q, J100105), rfl, ⟨hC, rfl, rfl, eJ100105⟩, by rw [ht]; exact hP, va_K.moved hW.alike hK, hD⟩, hS.F ht⟩) hS.2.2 dX1_setOffset_16
set_option maxHeartbeats 4000000 in
set_option maxRecDepth 100000 in
/-- move, exactly -/
theorem e_X5_move (l : Launch) (dC : Nat → ClassId) (dI : Nat → Nat → Nat) (cy : Nat → ClassId) (v : Nat → Nat) (L : List Nat) (K N : Nat → Nat) (T : Nat → Nat → Nat) (I : Nat → Nat → Int32) (Q : Nat → Nat → Option Nat) (J : Nat → Nat → Int32) (sz : Nat) (xg : Int32) (xm : Int32) (xr : Int32) (xp : Int32) (xo : Int32) (hC : CT v L K N T I Q) : Met l yX5_move wsX5_move ({ frames := 2, cells := 0, slots := 0, locals := 45 }) (va_Pc [.ref (v 0), .int xg, .int xm, .int xr, .int xp, .int xo] (pW dC dI cy L (pF cy K N T I Q J) sz)) (va_Qi (fun (r : Int32) (d : (Nat → Nat → Int32) × (Nat → Nat → Option Nat) × (Nat → Nat → Int32)) => (CT v L K N T d.1 d.2.1 ∧ RS v I Q (sp_mvJ v J xg xp xo r) d.1 d.2.1 d.2.2) ∧ r = sp_mvr (I (v (10 + xg.toNatClampNeg)) 0) (I (v (10 + xg.toNatClampNeg)) 1) (fun q => oN (Q (v 1) q)) xg xm xr xp xo) (fun (d : (Nat → Nat → Int32) × (Nat → Nat → Option Nat) × (Nat → Nat → Int32)) t => va_P (dC, dI) vwCl (va_pl L (pF cy K N T d.1 d.2.1 d.2.2)) t.heap ∧ va_K (dC, dI) vwCl (pTy cy) t ∧ va_D (va_A (va_pl L (pF cy K N T I Q J)) sz) (va_pl L (pF cy K N T d.1 d.2.1 d.2.2))) (va_A (va_pl L (pF cy K N T I Q J)) sz)) 0 0 (va_A (va_pl L (pF cy K N T I Q J)) sz) := by
  refine Met.ofW (cc := cX5_move) (maxL := 7) (ret := (some .int)) (by decide) rfl ?_
  intro p e s m args below meth c s₁ B hml hv
  obtain ⟨rfl, hsz, ⟨hP, hK, hN⟩, hD0⟩ := hv
  have hx := B.exec
  have hb := B.bytes
  have hr := B.returns
  have hts := atoms_spec (ws := wsX5_move) B.pre
  have hown : s.vm.findClass RX5 = some m.cls := findClass_of_methodNamed B.named
  have hlocks := B.notSynchronized
  have hi5 : ∀ w ∈ wsX50, w ∈ wsX5_move := by decide +kernel
  have hi1 : ∀ w ∈ wsX10, w ∈ wsX5_move := by decide +kernel
  have hl := lv_entry ([.ref (v 0), .int xg, .int xm, .int xr, .int xp, .int xo]) (n := 7) (Nat.le_of_ble_eq_true rfl)
  rw [lg_entry_eq]
  generalize (lg_sl ([.ref (v 0), .int xg, .int xm, .int xr, .int xp, .int xo]) ++ List.replicate (7 - (lg_sl ([.ref (v 0), .int xg, .int xm, .int xr, .int xp, .int xo])).length) Slot.unset).toArray = ls at hl ⊢
  have hl : lv_has ls 7 [(0, .ref (v 0)), (1, .int xg), (2, .int xm), (3, .int xr), (4, .int xp), (5, .int xo)] := hl
  subst hsz
  have hD := hD0.self (sz := s.heap.size)
  generalize hAe : va_A (va_pl L (pF cy K N T I Q J)) s.heap.size = A at hD ⊢
  have hA : ∀ q : Nat, s.heap.size ≤ q → A q := fun q h => by rw [← hAe]; exact Or.inr h
  have hS : va_S A s.heap s.heap [] := va_S.rf
  have hR : RS v I Q J I Q J := RS.rf
  have hn28 := hN.1
  have hn30 := hN.2.1
  have hn37 := hN.2.2.1
  refine lv_aload_n hx hb dX5_move_0 rfl (lv_at hl 0 rfl) ?_
  refine lv_iload_n hx hb dX5_move_1 rfl (lv_at hl 1 rfl) ?_
  obtain ⟨j100107, hj100107⟩ := pG_5 (cy := cy) (N := N) (T := T) (I := I) (Q := Q) (J := J) (hC.at 0 (by decide)) (hC.k 0 (by decide) rfl)
  refine va_csq (W.runV (As := [.int xg]) (rest := []) ⟨hx, hb, hml, hown, hts⟩ (c_X5_groupAt l dC dI cy v L K N T I Q J  xg hC) (cwV 1 hts gX5_move_X5_groupAt rfl rfl rfl (by decide +kernel) ⟨Nat.le_of_ble_eq_true rfl, Nat.le_of_ble_eq_true rfl⟩) ⟨pb_blind, va_recv hK hP (ci := 5) (q0 := j100107) rfl hj100107, fun U hU hW => ⟨rfl, pb_pre hP hK hN hU hW⟩⟩ rfl rfl hl.1 rfl (lv_room (Nat.le_of_ble_eq_true rfl)) dX5_move_2 ⟨Nat.le_of_ble_eq_true rfl, Nat.le_of_ble_eq_true rfl⟩) (fun r100106 hr100106 => ?_)
  rcases hr100106 with ⟨hn100108, rfl⟩ | ⟨j100108, hj100108, hn100108, rfl⟩
  · refine W.eq (g2 := F0 m 5 ls [.null]) rfl ?_
    refine lv_astoreN (lv' := [(6, .null), (0, .ref (v 0)), (1, .int xg), (2, .int xm), (3, .int xr), (4, .int xp), (5, .int xo)]) hx hb dX5_move_5 hl (by decide) rfl (fun ls hl => ?_)
    refine lv_aloadN hx hb dX5_move_7 (lv_at hl 0 rfl) ?_
    refine lv_ifnullN (tgt := 26) hx hb dX5_move_9 (by decide) ?_
    refine lv_iconst (v := (-1)) hx hb dX5_move_26 (by decide) ?_
    exact W.iret (v := (-1)) hx hb hr (fun t ht hW => ⟨⟨(-1), (I, Q, J), rfl, ⟨⟨hC, by show RS v I Q (sp_mvJ v J xg xp xo ((-1))) _ _ _; rw [sp_mvJ, if_neg (by decide)]; exact hR⟩, by show _ = _; rw [sp_mvr, if_neg (fun q => hn100108 ⟨by omega, by omega⟩)]⟩, by rw [ht]; exact hP, va_K.moved hW.alike hK, hD⟩, hS.F ht⟩) hS.2.2 dX5_move_27
  · refine W.eq (g2 := F0 m 5 ls [.ref (v (10 + j100108))]) rfl ?_
    refine lv_astore (lv' := [(6, .ref (v (10 + j100108))), (0, .ref (v 0)), (1, .int xg), (2, .int xm), (3, .int xr), (4, .int xp), (5, .int xo)]) hx hb dX5_move_5 hl (by decide) rfl (fun ls hl => ?_)
    refine lv_aload hx hb dX5_move_7 (lv_at hl 0 rfl) ?_
    refine lv_ifnull hx hb dX5_move_9 ?_
    refine lv_aload_n hx hb dX5_move_12 rfl (lv_at hl 1 rfl) ?_
    refine lv_iload hx hb dX5_move_13 (lv_at hl 5 rfl) ?_
    obtain ⟨j100110, hj100110⟩ := pG_5 (cy := cy) (N := N) (T := T) (I := I) (Q := Q) (J := J) (hC.at 0 (by decide)) (hC.k 0 (by decide) rfl)
    refine va_csq (W.runV (As := [.int xp]) (rest := []) ⟨hx, hb, hml, hown, hts⟩ (e_X5_partitionAt l dC dI cy v L K N T I Q J  xp hC) (cwV 1 hts gX5_move_X5_partitionAt rfl rfl rfl (by decide +kernel) ⟨Nat.le_of_ble_eq_true rfl, Nat.le_of_ble_eq_true rfl⟩) ⟨pb_blind, va_recv hK hP (ci := 5) (q0 := j100110) rfl hj100110, fun U hU hW => ⟨rfl, pb_pre hP hK hN hU hW⟩⟩ rfl rfl hl.1 rfl (lv_room (Nat.le_of_ble_eq_true rfl)) dX5_move_15 ⟨Nat.le_of_ble_eq_true rfl, Nat.le_of_ble_eq_true rfl⟩) (fun r100109 hr100109 => ?_)
    rcases hr100109 with ⟨hn100111, rfl⟩ | ⟨j100111, hj100111, hn100111, hq100111⟩
    · refine W.eq (g2 := F0 m 18 ls [.null]) rfl ?_
      refine lv_ifnullN (tgt := 26) hx hb dX5_move_18 (by decide) ?_
      refine lv_iconst (v := (-1)) hx hb dX5_move_26 (by decide) ?_
      exact W.iret (v := (-1)) hx hb hr (fun t ht hW => ⟨⟨(-1), (I, Q, J), rfl, ⟨⟨hC, by show RS v I Q (sp_mvJ v J xg xp xo ((-1))) _ _ _; rw [sp_mvJ, if_neg (by decide)]; exact hR⟩, by show _ = _; rw [sp_mvr, if_pos (by rw [hn100108, nI_toInt (by omega)]; omega), if_neg (fun q => hn100111 ⟨by omega, by omega⟩)]⟩, by rw [ht]; exact hP, va_K.moved hW.alike hK, hD⟩, hS.F ht⟩) hS.2.2 dX5_move_27
    · cases r100109 with
      | none =>
        refine W.eq (g2 := F0 m 18 ls [.null]) rfl ?_
        refine lv_ifnullN (tgt := 26) hx hb dX5_move_18 (by decide) ?_
        refine lv_iconst (v := (-1)) hx hb dX5_move_26 (by decide) ?_
        exact W.iret (v := (-1)) hx hb hr (fun t ht hW => ⟨⟨(-1), (I, Q, J), rfl, ⟨⟨hC, by show RS v I Q (sp_mvJ v J xg xp xo ((-1))) _ _ _; rw [sp_mvJ, if_neg (by decide)]; exact hR⟩, by show _ = _; rw [sp_mvr, if_pos (by rw [hn100108, nI_toInt (by omega)]; omega), if_pos (by rw [hn100111, nI_toInt (by omega)]; omega), show xp.toNatClampNeg = j100111 by rw [hn100111, nI_clamp (by omega)], if_pos (by show oN (Q (v 1) j100111) = 0; rw [← hq100111]; rfl)]⟩, by rw [ht]; exact hP, va_K.moved hW.alike hK, hD⟩, hS.F ht⟩) hS.2.2 dX5_move_27
      | some b100112 =>
        have hTb100112 := hC.2.2.2.1 j100111 b100112 hj100111 hq100111.symm
        refine W.eq (g2 := F0 m 18 ls [.ref b100112]) rfl ?_
        refine lv_ifnull hx hb dX5_move_18 ?_
        refine lv_iload hx hb dX5_move_21 (lv_at hl 6 rfl) ?_
        refine lv_if_ge (tgt := 28) hx hb dX5_move_23 (by decide) (fun c100113 => ?_) (fun c100113 => ?_)
        · refine lv_iload_n hx hb dX5_move_28 rfl (lv_at hl 3 rfl) ?_
          refine lv_if_lt (tgt := 56) hx hb dX5_move_29 (by decide) (fun c100114 => ?_) (fun c100114 => ?_)
          · refine lv_bipush (v := (-4)) hx hb dX5_move_56 (by decide) ?_
            exact W.iret (v := (-4)) hx hb hr (fun t ht hW => ⟨⟨(-4), (I, Q, J), rfl, ⟨⟨hC, by show RS v I Q (sp_mvJ v J xg xp xo ((-4))) _ _ _; rw [sp_mvJ, if_neg (by decide)]; exact hR⟩, by show _ = _; rw [sp_mvr, if_pos (by rw [hn100108, nI_toInt (by omega)]; omega), if_pos (by rw [hn100111, nI_toInt (by omega)]; omega), show xp.toNatClampNeg = j100111 by rw [hn100111, nI_clamp (by omega)], if_neg (fun q => by have q := oN_0.mp q; rw [← hq100111] at q; cases q), if_neg (by have k9 := c100113; rw [xk_le, xk_0] at k9; omega), show xg.toNatClampNeg = j100108 by rw [hn100108, nI_clamp (by omega)]]; rw [if_neg (fun q => by have k9 := c100114; rw [xk_lt, xk_0] at k9; omega)]⟩, by rw [ht]; exact hP, va_K.moved hW.alike hK, hD⟩, hS.F ht⟩) hS.2.2 dX5_move_58
          · refine lv_iload_n hx hb dX5_move_32 rfl (lv_at hl 3 rfl) ?_
            refine lv_aload hx hb dX5_move_33 (lv_at hl 0 rfl) ?_
            refine lv_aload_n hx hb dX5_move_35 rfl (lv_at hl 1 rfl) ?_
            refine lv_iload hx hb dX5_move_36 (lv_at hl 5 rfl) ?_
            obtain ⟨j100116, hj100116⟩ := pG_5 (cy := cy) (N := N) (T := T) (I := I) (Q := Q) (J := J) (hC.at 0 (by decide)) (hC.k 0 (by decide) rfl)
            refine vp_callSi (W.runV (As := [.int xp]) (rest := [.ref (v (10 + j100108)), .int xm]) ⟨hx, hb, hml, hown, hts⟩ (e_X5_placeOf l dC dI cy v L K N T I Q J  xp j100111 hC hj100111 hn100111) (cwV 1 hts gX5_move_X5_placeOf rfl rfl rfl (by decide +kernel) ⟨Nat.le_of_ble_eq_true rfl, Nat.le_of_ble_eq_true rfl⟩) ⟨pb_blind, va_recv hK hP (ci := 5) (q0 := j100116) rfl hj100116, fun U hU hW => ⟨rfl, pb_pre hP hK hN hU hW⟩⟩ rfl rfl hl.1 rfl (lv_room (Nat.le_of_ble_eq_true rfl)) dX5_move_38 ⟨Nat.le_of_ble_eq_true rfl, Nat.le_of_ble_eq_true rfl⟩) (fun r100115 hr100115 => ?_)
            obtain ⟨j100118, hj100118⟩ := pG_1 (cy := cy) (N := N) (T := T) (I := I) (Q := Q) (J := J) (hC.kg hj100108).1 (hC.kg hj100108).2
            refine vp_callSi (W.runV (As := [.int r100115]) (rest := [.int xm]) ⟨hx, hb, hml, hown, hts⟩ (e_X1_memberAt l dC dI cy v L K N T I Q J (v (10 + j100108)) r100115 hC (hC.kg hj100108).1 (hC.kg hj100108).2) (cwV 1 hts gX5_move_X1_memberAt rfl rfl rfl (by decide +kernel) ⟨Nat.le_of_ble_eq_true rfl, Nat.le_of_ble_eq_true rfl⟩) ⟨pb_blind, va_recv hK hP (ci := 1) (q0 := j100118) rfl hj100118, fun U hU hW => ⟨rfl, pb_pre hP hK hN hU hW⟩⟩ rfl rfl hl.1 rfl (lv_room (Nat.le_of_ble_eq_true rfl)) dX5_move_41 ⟨Nat.le_of_ble_eq_true rfl, Nat.le_of_ble_eq_true rfl⟩) (fun r100117 hr100117 => ?_)
            refine lv_icmp_ne (tgt := 56) hx hb dX5_move_44 (by decide) (fun c100119 => ?_) (fun c100119 => ?_)
            · refine lv_bipush (v := (-4)) hx hb dX5_move_56 (by decide) ?_
              exact W.iret (v := (-4)) hx hb hr (fun t ht hW => ⟨⟨(-4), (I, Q, J), rfl, ⟨⟨hC, by show RS v I Q (sp_mvJ v J xg xp xo ((-4))) _ _ _; rw [sp_mvJ, if_neg (by decide)]; exact hR⟩, by show _ = _; rw [sp_mvr, if_pos (by rw [hn100108, nI_toInt (by omega)]; omega), if_pos (by rw [hn100111, nI_toInt (by omega)]; omega), show xp.toNatClampNeg = j100111 by rw [hn100111, nI_clamp (by omega)], if_neg (fun q => by have q := oN_0.mp q; rw [← hq100111] at q; cases q), if_neg (by have k9 := c100113; rw [xk_le, xk_0] at k9; omega), show xg.toNatClampNeg = j100108 by rw [hn100108, nI_clamp (by omega)]]; rw [← hr100115, ← hr100117, if_neg (fun q => c100119 q.2.1)]⟩, by rw [ht]; exact hP, va_K.moved hW.alike hK, hD⟩, hS.F ht⟩) hS.2.2 dX5_move_58
            · refine lv_iload_n hx hb dX5_move_47 rfl (lv_at hl 4 rfl) ?_
              refine lv_aload hx hb dX5_move_48 (lv_at hl 0 rfl) ?_
              obtain ⟨j100120, hj100120⟩ := pG_1 (cy := cy) (N := N) (T := T) (I := I) (Q := Q) (J := J) (hC.kg hj100108).1 (hC.kg hj100108).2
              refine va_get (D := (dC, dI)) (ci := 1) (v := .int (I (v (10 + j100108)) 1)) (C := RX1) (T := TX1) (N := 3) hx hb hts hi1 hown hK hP j100120 hj100120 rfl 1 (by decide) (hts (.fieldLink RX5 201 "TallyLogs$Group" "round" "I") (by decide +kernel)) (fun _ h9 => h9) rfl dX5_move_50 ?_
              refine lv_topi (fun x100121 ex100121 => ?_)
              refine lv_icmp_eq (tgt := 59) hx hb dX5_move_53 (by decide) (fun c100122 => ?_) (fun c100122 => ?_)
              · refine lv_aload hx hb dX5_move_59 (lv_at hl 0 rfl) ?_
                refine lv_iload hx hb dX5_move_61 (lv_at hl 5 rfl) ?_
                refine lv_iload hx hb dX5_move_63 (lv_at hl 6 rfl) ?_
                obtain ⟨j100123, hj100123⟩ := pG_1 (cy := cy) (N := N) (T := T) (I := I) (Q := Q) (J := J) (hC.kg hj100108).1 (hC.kg hj100108).2
                have hFc := pfree hD hS hA
                have hin9 : vp_in xp 4 := by rw [hn100111]; exact nI_in hj100111 (by decide)
                refine va_callv (va_runV (As := [.int xp, .int xo]) (rest := []) ⟨hx, hb, hml, hown, hts⟩ (e_X1_setOffset l dC dI cy v L K N T I Q J s.heap.size j100108 xp xo hC hj100108 hin9) (cwV 2 hts gX5_move_X1_setOffset rfl rfl rfl (by decide +kernel) ⟨Nat.le_of_ble_eq_true rfl, Nat.le_of_ble_eq_true rfl⟩) ⟨pw_blind, va_recv hK hP (ci := 1) (q0 := j100123) rfl hj100123, fun U hU hW => ⟨rfl, pw_pre hP hK hN hD hU hW⟩⟩ rfl rfl hl.1 rfl (lv_room (Nat.le_of_ble_eq_true rfl)) dX5_move_65 ⟨Nat.le_of_ble_eq_true rfl, Nat.le_of_ble_eq_true rfl⟩) hS (fun q _ h => hFc q h) hFc (fun d9 t H1 locs ht hvm hw hB hz1 hk1 hS => ?_)
                obtain ⟨I100124, Q100124, J100124⟩ := d9
                obtain ⟨hC, eI9, eQ9, eJ9⟩ := hw
                obtain ⟨hP, hK1, hD1⟩ := hB
                rw [ht] at hP
                have hD := hD1.weaken (fun _ _ _ h => hFc _ h)
                generalize H1 = H at hP hS ⊢
                have hP : va_P (dC, dI) vwCl (va_pl L (pF cy K N T I100124 Q100124 J100124)) H := hP
                have hD : va_D A (va_pl L (pF cy K N T I100124 Q100124 J100124)) := hD
                have hC : CT v L K N T I100124 Q100124 := hC
                have eI9 : I100124 = I := eI9
                have eQ9 : Q100124 = Q := eQ9
                have eJ9 : J100124 = va_up J (v (14 + j100108)) (upd (J (v (14 + j100108))) xp.toNatClampNeg xo) := eJ9
                refine lv_iconst (v := 0) hx hb dX5_move_68 (by decide) ?_
                exact W.iret (v := 0) hx hb hr (fun t ht hW => ⟨⟨0, (I100124, Q100124, J100124), rfl, ⟨⟨hC, by show RS v I Q (sp_mvJ v J xg xp xo 0) I100124 Q100124 J100124; rw [sp_mvJ, if_pos rfl, show xg.toNatClampNeg = j100108 by rw [hn100108, nI_clamp (by omega)], ← eJ9, eI9, eQ9]; exact RS.rf⟩, by show _ = _; rw [sp_mvr, if_pos (by rw [hn100108, nI_toInt (by omega)]; omega), if_pos (by rw [hn100111, nI_toInt (by omega)]; omega), show xp.toNatClampNeg = j100111 by rw [hn100111, nI_clamp (by omega)], if_neg (fun q => by have q := oN_0.mp q; rw [← hq100111] at q; cases q), if_neg (by have k9 := c100113; rw [xk_le, xk_0] at k9; omega), show xg.toNatClampNeg = j100108 by rw [hn100108, nI_clamp (by omega)]]; rw [← hr100115, ← hr100117, if_pos ⟨by have k9 := c100114; rw [xk_lt, xk_0] at k9; omega, c100119, by rw [← ex100121]; exact c100122⟩]⟩, by rw [ht]; exact hP, va_K.moved hW.alike hK, hD⟩, hS.F ht⟩) hS.2.2 dX5_move_69
              · refine lv_bipush (v := (-4)) hx hb dX5_move_56 (by decide) ?_
                exact W.iret (v := (-4)) hx hb hr (fun t ht hW => ⟨⟨(-4), (I, Q, J), rfl, ⟨⟨hC, by show RS v I Q (sp_mvJ v J xg xp xo ((-4))) _ _ _; rw [sp_mvJ, if_neg (by decide)]; exact hR⟩, by show _ = _; rw [sp_mvr, if_pos (by rw [hn100108, nI_toInt (by omega)]; omega), if_pos (by rw [hn100111, nI_toInt (by omega)]; omega), show xp.toNatClampNeg = j100111 by rw [hn100111, nI_clamp (by omega)], if_neg (fun q => by have q := oN_0.mp q; rw [← hq100111] at q; cases q), if_neg (by have k9 := c100113; rw [xk_le, xk_0] at k9; omega), show xg.toNatClampNeg = j100108 by rw [hn100108, nI_clamp (by omega)]]; rw [← hr100115, ← hr100117, if_neg (fun q => c100122 (by rw [ex100121]; exact q.2.2))]⟩, by rw [ht]; exact hP, va_K.moved hW.alike hK, hD⟩, hS.F ht⟩) hS.2.2 dX5_move_58
        · refine lv_iconst (v := (-1)) hx hb dX5_move_26 (by decide) ?_
          exact W.iret (v := (-1)) hx hb hr (fun t ht hW => ⟨⟨(-1), (I, Q, J), rfl, ⟨⟨hC, by show RS v I Q (sp_mvJ v J xg xp xo ((-1))) _ _ _; rw [sp_mvJ, if_neg (by decide)]; exact hR⟩, by show _ = _; rw [sp_mvr, if_pos (by rw [hn100108, nI_toInt (by omega)]; omega), if_pos (by rw [hn100111, nI_toInt (by omega)]; omega), show xp.toNatClampNeg = j100111 by rw [hn100111, nI_clamp (by omega)], if_neg (fun q => by have q := oN_0.mp q; rw [← hq100111] at q; cases q), if_pos (by have k9 := c100113; rw [xk_le, xk_0] at k9; omega)]⟩, by rw [ht]; exact hP, va_K.moved hW.alike hK, hD⟩, hS.F ht⟩) hS.2.2 dX5_move_27
