set_option maxHeartbeats 4000000 in
set_option maxRecDepth 100000 in
/-- move, exactly -/
theorem e_X7_move (l : Launch) (dC : Nat → ClassId) (dI : Nat → Nat → Nat) (cy : Nat → ClassId) (w : Nat → Nat) (L : List Nat) (K N : Nat → Nat) (T : Nat → Nat → Nat) (Q : Nat → Nat → Option Nat) (I J : Nat → Nat → Int32) (sz : Nat) (E : Int) (xg : Int32) (xm : Int32) (xr : Int32) (xp : Int32) (xo : Int32) (hM : MS w L K N T Q) (hI : MI w E I J) (hE : E ≤ 1000) : Met l yX7_move wsX7_move ({ frames := 3, cells := 0, slots := 0, locals := 77 }) (va_Pc [.ref (w 0), .int xg, .int xm, .int xr, .int xp, .int xo] (mW dC dI cy L (wF cy K N T I Q J) sz)) (va_Qi (fun (r : Int32) (d : (Nat → Nat → Int32) × (Nat → Nat → Int32)) => MI w (E + 5) d.1 d.2 ∧ RM w [] I (sp_mvM w J xg xp xo r) d.1 d.2 ∧ r = sp_mvr (J (w 13) xg.toNatClampNeg) (J (w 14) xg.toNatClampNeg) (fun q => zN (J (w 2) q)) xg xm xr xp xo) (fun (d : (Nat → Nat → Int32) × (Nat → Nat → Int32)) t => va_P (dC, dI) vwCl (va_pl L (wF cy K N T d.1 Q d.2)) t.heap ∧ va_K (dC, dI) vwCl (mTy cy) t ∧ va_D (va_A (va_pl L (wF cy K N T I Q J)) sz) (va_pl L (wF cy K N T d.1 Q d.2))) (va_A (va_pl L (wF cy K N T I Q J)) sz)) 0 0 (va_A (va_pl L (wF cy K N T I Q J)) sz) := by
  refine Met.ofW (cc := cX7_move) (maxL := 6) (ret := (some .int)) (by decide) rfl ?_
  intro p e s m args below meth c s₁ B hml hv
  obtain ⟨rfl, hsz, ⟨hP, hK⟩, hD0⟩ := hv
  have hx := B.exec
  have hb := B.bytes
  have hr := B.returns
  have hts := atoms_spec (ws := wsX7_move) B.pre
  have hown : s.vm.findClass RX7 = some m.cls := findClass_of_methodNamed B.named
  have hlocks := B.notSynchronized
  have hi7 : ∀ w ∈ wsX70, w ∈ wsX7_move := by decide +kernel
  have hl := lv_entry ([.ref (w 0), .int xg, .int xm, .int xr, .int xp, .int xo]) (n := 6) (Nat.le_of_ble_eq_true rfl)
  rw [lg_entry_eq]
  generalize (lg_sl ([.ref (w 0), .int xg, .int xm, .int xr, .int xp, .int xo]) ++ List.replicate (6 - (lg_sl ([.ref (w 0), .int xg, .int xm, .int xr, .int xp, .int xo])).length) Slot.unset).toArray = ls at hl ⊢
  have hl : lv_has ls 6 [(0, .ref (w 0)), (1, .int xg), (2, .int xm), (3, .int xr), (4, .int xp), (5, .int xo)] := hl
  subst hsz
  have hD := hD0.self (sz := s.heap.size)
  generalize hAe : va_A (va_pl L (wF cy K N T I Q J)) s.heap.size = A at hD ⊢
  have hA : ∀ q : Nat, s.heap.size ≤ q → A q := fun q h => by rw [← hAe]; exact Or.inr h
  have hS : va_S A s.heap s.heap [] := va_S.rf
  have hR : RM w [15] I J I J := RM.rf
  obtain ⟨hML, hMD, hMU⟩ := hI
  refine lv_iload hx hb dX7_move_0 (lv_at hl 5 rfl) ?_
  refine lv_if_lt (tgt := 26) hx hb dX7_move_2 (by decide) (fun c200110 => ?_) (fun c200110 => ?_)
  · have kc200110 : xo.toInt < 0 := by have h9 := c200110; rw [xk_lt, xk_0] at h9; exact h9
    refine lv_iconst (v := (-1)) hx hb dX7_move_26 (by decide) ?_
    exact W.iret (v := (-1)) hx hb hr (fun t ht hW => ⟨⟨(-1), (I, J), rfl, ⟨⟨hML.mono (by omega), hMD, hMU⟩, by show RM w [] I (sp_mvM w J xg xp xo ((-1))) _ _; rw [sp_mvM, if_neg (by decide)]; exact hR.no (fun _ _ _ => rfl), by show _ = _; have kc200110 := c200110; simp only [xk_eq, Int32.toInt_toInt64, xk_lt, xk_le, xk_0, xk_1, xk_2, xk_3, xk_4, xk_5, xk_6, xk_7, xk_8, xk_50, xl_0, xl_1, xl_3, xl_4, xl_5, xl_6, xl_7, xl_50] at kc200110; unfold sp_mvr; (repeat' split); all_goals first | rfl | (exfalso; omega)⟩, by rw [ht]; exact hP, va_K.moved hW.alike hK, hD⟩, hS.F ht⟩) hS.2.2 dX7_move_27
  · have kc200110 : ¬ (xo.toInt < 0) := by have h9 := c200110; rw [xk_lt, xk_0] at h9; exact h9
    refine lv_iload_n hx hb dX7_move_5 rfl (lv_at hl 1 rfl) ?_
    refine lv_i2l (v := xg.toInt64) hx hb dX7_move_6 rfl ?_
    refine lv_lconst (v := 0) hx hb dX7_move_7 (by decide) ?_
    refine lv_ldc2 hx hb hown (hts (.constantLong RX7 80 3) (by decide +kernel)) dX7_move_8 ?_
    refine vp_callSi (W.runS (As := [.long xg.toInt64, .long 0, .long 3]) (rest := []) ⟨hx, hb, hml, hown, hts⟩ (c_X7_in l xg.toInt64 0 3) (va_cwS 3 hts gX7_move_X7_in rfl rfl rfl (by decide +kernel) ⟨Nat.le_of_ble_eq_true rfl, Nat.le_of_ble_eq_true rfl⟩) preEq rfl rfl hl.1 rfl (lv_room (Nat.le_of_ble_eq_true rfl)) dX7_move_11 ⟨Nat.le_of_ble_eq_true rfl, Nat.le_of_ble_eq_true rfl⟩) (fun r200111 hr200111 => ?_)
    subst hr200111
    refine lv_if_eq (tgt := 26) hx hb dX7_move_14 (by decide) (fun c200112 => ?_) (fun c200112 => ?_)
    · refine lv_iconst (v := (-1)) hx hb dX7_move_26 (by decide) ?_
      exact W.iret (v := (-1)) hx hb hr (fun t ht hW => ⟨⟨(-1), (I, J), rfl, ⟨⟨hML.mono (by omega), hMD, hMU⟩, by show RM w [] I (sp_mvM w J xg xp xo ((-1))) _ _; rw [sp_mvM, if_neg (by decide)]; exact hR.no (fun _ _ _ => rfl), by show _ = _; have kc200110 := c200110; have kc200112 := (sp_in_0 xg 0 3).mp c200112; simp only [xk_eq, Int32.toInt_toInt64, xk_lt, xk_le, xk_0, xk_1, xk_2, xk_3, xk_4, xk_5, xk_6, xk_7, xk_8, xk_50, xl_0, xl_1, xl_3, xl_4, xl_5, xl_6, xl_7, xl_50] at kc200110 kc200112; unfold sp_mvr; (repeat' split); all_goals first | rfl | (exfalso; omega)⟩, by rw [ht]; exact hP, va_K.moved hW.alike hK, hD⟩, hS.F ht⟩) hS.2.2 dX7_move_27
    · have hin200113 : vp_in xg 4 := xin_sp c200112 (by decide)
      refine lv_aload_n hx hb dX7_move_17 rfl (lv_at hl 0 rfl) ?_
      refine lv_iload hx hb dX7_move_18 (lv_at hl 4 rfl) ?_
      obtain ⟨j200115, hj200115⟩ := wG_7 (cy := cy) (N := N) (T := T) (I := I) (Q := Q) (J := J) (hM.at 0 (by decide)) (hM.k 0 (by decide) rfl)
      refine vp_callSi (W.runV (As := [.int xp]) (rest := []) ⟨hx, hb, hml, hown, hts⟩ (c_X7_isThere l dC dI cy w L K N T Q I J xp hM) (cwV 1 hts gX7_move_X7_isThere rfl rfl rfl (by decide +kernel) ⟨Nat.le_of_ble_eq_true rfl, Nat.le_of_ble_eq_true rfl⟩) ⟨mb_blind, va_recv hK hP (ci := 7) (q0 := j200115) rfl hj200115, fun U hU hW => ⟨rfl, mb_pre hP hK hU hW⟩⟩ rfl rfl hl.1 rfl (lv_room (Nat.le_of_ble_eq_true rfl)) dX7_move_20 ⟨Nat.le_of_ble_eq_true rfl, Nat.le_of_ble_eq_true rfl⟩) (fun r200114 hr200114 => ?_)
      refine lv_if_ne (tgt := 28) hx hb dX7_move_23 (by decide) (fun c200116 => ?_) (fun c200116 => ?_)
      · have hth200117 := sp_it1 (by rw [← hr200114]; exact c200116)
        have kc200116 : ¬ (r200114.toInt = 0) := by have h9 := c200116; rw [xk_eq, xk_0] at h9; exact h9
        refine lv_iload_n hx hb dX7_move_28 rfl (lv_at hl 2 rfl) ?_
        refine lv_i2l (v := xm.toInt64) hx hb dX7_move_29 rfl ?_
        refine lv_lconst (v := 0) hx hb dX7_move_30 (by decide) ?_
        refine lv_ldc2 hx hb hown (hts (.constantLong RX7 173 7) (by decide +kernel)) dX7_move_31 ?_
        refine vp_callSi (W.runS (As := [.long xm.toInt64, .long 0, .long 7]) (rest := []) ⟨hx, hb, hml, hown, hts⟩ (c_X7_in l xm.toInt64 0 7) (va_cwS 3 hts gX7_move_X7_in rfl rfl rfl (by decide +kernel) ⟨Nat.le_of_ble_eq_true rfl, Nat.le_of_ble_eq_true rfl⟩) preEq rfl rfl hl.1 rfl (lv_room (Nat.le_of_ble_eq_true rfl)) dX7_move_34 ⟨Nat.le_of_ble_eq_true rfl, Nat.le_of_ble_eq_true rfl⟩) (fun r200118 hr200118 => ?_)
        subst hr200118
        refine lv_if_eq (tgt := 61) hx hb dX7_move_37 (by decide) (fun c200119 => ?_) (fun c200119 => ?_)
        · refine lv_bipush (v := (-4)) hx hb dX7_move_61 (by decide) ?_
          exact W.iret (v := (-4)) hx hb hr (fun t ht hW => ⟨⟨(-4), (I, J), rfl, ⟨⟨hML.mono (by omega), hMD, hMU⟩, by show RM w [] I (sp_mvM w J xg xp xo ((-4))) _ _; rw [sp_mvM, if_neg (by decide)]; exact hR.no (fun _ _ _ => rfl), by show _ = _; have kc200110 := c200110; have kc200112 := (not_congr (sp_in_0 xg 0 3)).mp c200112; have kc200119 := (sp_in_0 xm 0 7).mp c200119; simp only [xk_eq, Int32.toInt_toInt64, xk_lt, xk_le, xk_0, xk_1, xk_2, xk_3, xk_4, xk_5, xk_6, xk_7, xk_8, xk_50, xl_0, xl_1, xl_3, xl_4, xl_5, xl_6, xl_7, xl_50] at kc200110 kc200112 kc200119; have h8 := vp_in_iff.mp hth200117.1; rw [sp_mvr, if_pos ⟨by omega, by omega⟩, if_pos ⟨by omega, by omega⟩, if_neg (fun q => hth200117.2 (zN_0.mp q)), if_neg (by omega)]; rw [if_neg (fun q => by rcases sp_ma_cs (J (w 13) xg.toNatClampNeg) (sp_cnt (fun q => zN (J (w 2) q)) xp.toNatClampNeg) with z | ⟨j, hj, z⟩; (rw [z] at q; have q1 := q.1; rw [q.2.1] at q1; exact absurd q1 (by decide)); rw [z] at q; have q1 := congrArg Int32.toInt q.2.1; rw [nI_toInt (by omega)] at q1; omega)]⟩, by rw [ht]; exact hP, va_K.moved hW.alike hK, hD⟩, hS.F ht⟩) hS.2.2 dX7_move_63
        · have hin200120 : vp_in xm 8 := xin_sp c200119 (by decide)
          refine lv_aload_n hx hb dX7_move_40 rfl (lv_at hl 0 rfl) ?_
          refine lv_iload_n hx hb dX7_move_41 rfl (lv_at hl 1 rfl) ?_
          refine lv_iload hx hb dX7_move_42 (lv_at hl 4 rfl) ?_
          obtain ⟨j200122, hj200122⟩ := wG_7 (cy := cy) (N := N) (T := T) (I := I) (Q := Q) (J := J) (hM.at 0 (by decide)) (hM.k 0 (by decide) rfl)
          refine vp_callSi (W.runV (As := [.int xg, .int xp]) (rest := []) ⟨hx, hb, hml, hown, hts⟩ (e_X7_owner l dC dI cy w L K N T Q I J xg xp hM) (cwV 2 hts gX7_move_X7_owner rfl rfl rfl (by decide +kernel) ⟨Nat.le_of_ble_eq_true rfl, Nat.le_of_ble_eq_true rfl⟩) ⟨mb_blind, va_recv hK hP (ci := 7) (q0 := j200122) rfl hj200122, fun U hU hW => ⟨rfl, mb_pre hP hK hU hW⟩⟩ rfl rfl hl.1 rfl (lv_room (Nat.le_of_ble_eq_true rfl)) dX7_move_44 ⟨Nat.le_of_ble_eq_true rfl, Nat.le_of_ble_eq_true rfl⟩) (fun r200121 hr200121 => ?_)
          refine lv_iload_n hx hb dX7_move_47 rfl (lv_at hl 2 rfl) ?_
          refine lv_icmp_ne (tgt := 61) hx hb dX7_move_48 (by decide) (fun c200123 => ?_) (fun c200123 => ?_)
          · have kc200123 : ¬ (r200121.toInt = xm.toInt) := by have h9 := c200123; rw [xk_eq] at h9; exact h9
            refine lv_bipush (v := (-4)) hx hb dX7_move_61 (by decide) ?_
            exact W.iret (v := (-4)) hx hb hr (fun t ht hW => ⟨⟨(-4), (I, J), rfl, ⟨⟨hML.mono (by omega), hMD, hMU⟩, by show RM w [] I (sp_mvM w J xg xp xo ((-4))) _ _; rw [sp_mvM, if_neg (by decide)]; exact hR.no (fun _ _ _ => rfl), by show _ = _; have kc200110 := c200110; have kc200112 := (not_congr (sp_in_0 xg 0 3)).mp c200112; have kc200119 := (not_congr (sp_in_0 xm 0 7)).mp c200119; simp only [xk_eq, Int32.toInt_toInt64, xk_lt, xk_le, xk_0, xk_1, xk_2, xk_3, xk_4, xk_5, xk_6, xk_7, xk_8, xk_50, xl_0, xl_1, xl_3, xl_4, xl_5, xl_6, xl_7, xl_50] at kc200110 kc200112 kc200119; have h8 := vp_in_iff.mp hth200117.1; rw [sp_mvr, if_pos ⟨by omega, by omega⟩, if_pos ⟨by omega, by omega⟩, if_neg (fun q => hth200117.2 (zN_0.mp q)), if_neg (by omega)]; have h7 := hr200121; rw [sp_own, if_pos ⟨by omega, by omega⟩, if_pos ⟨by omega, by omega⟩, if_neg (fun q => hth200117.2 (zN_0.mp q))] at h7; rw [if_neg (fun q => c200123 (by rw [h7, ← q.2.1]; unfold sp_ow1; rw [if_neg (fun z => by have z := congrArg Int32.toInt z; rw [show (-1 : Int32).toInt = -1 by decide] at z; omega)]))]⟩, by rw [ht]; exact hP, va_K.moved hW.alike hK, hD⟩, hS.F ht⟩) hS.2.2 dX7_move_63
          · have kc200123 : r200121.toInt = xm.toInt := by have h9 := c200123; rw [xk_eq] at h9; exact h9
            refine lv_aload_n hx hb dX7_move_51 rfl (lv_at hl 0 rfl) ?_
            obtain ⟨j200124, hj200124⟩ := wG_7 (cy := cy) (N := N) (T := T) (I := I) (Q := Q) (J := J) (hM.at 0 (by decide)) (hM.k 0 (by decide) rfl)
            refine va_get (D := (dC, dI)) (ci := 7) (v := .ref (T (w 0) 13)) (C := RX7) (T := TX7) (N := 18) hx hb hts hi7 hown hK hP j200124 hj200124 rfl 13 (by decide) (hts (.fieldLink RX7 52 "TallyLogsModel" "round" "[I") (by decide +kernel)) (fun _ h9 => h9) rfl dX7_move_52 ?_
            refine W.eq (g2 := F0 m 55 ls [.ref (w 14)]) (by rw [hM.t 13 (by decide)]) ?_
            refine lv_iload_n hx hb dX7_move_55 rfl (lv_at hl 1 rfl) ?_
            obtain ⟨j200125, hj200125⟩ := wG_20 (cy := cy) (N := N) (T := T) (I := I) (Q := Q) (J := J) (hM.at 14 (by decide)) (hM.k 14 (by decide) rfl)
            refine va_iald hx hb hK hP j200125 1 hj200125 rfl (hM.inN (n := 4) 14 (by decide) rfl rfl hin200113) dX7_move_56 ?_
            refine lv_topi (fun x200126 ex200126 => ?_)
            refine lv_iload_n hx hb dX7_move_57 rfl (lv_at hl 3 rfl) ?_
            refine lv_icmp_eq (tgt := 64) hx hb dX7_move_58 (by decide) (fun c200127 => ?_) (fun c200127 => ?_)
            · have kc200127 : x200126.toInt = xr.toInt := by have h9 := c200127; rw [xk_eq] at h9; exact h9
              refine lv_aload_n hx hb dX7_move_64 rfl (lv_at hl 0 rfl) ?_
              obtain ⟨j200128, hj200128⟩ := wG_7 (cy := cy) (N := N) (T := T) (I := I) (Q := Q) (J := J) (hM.at 0 (by decide)) (hM.k 0 (by decide) rfl)
              refine va_get (D := (dC, dI)) (ci := 7) (v := .ref (T (w 0) 14)) (C := RX7) (T := TX7) (N := 18) hx hb hts hi7 hown hK hP j200128 hj200128 rfl 14 (by decide) (hts (.fieldLink RX7 55 "TallyLogsModel" "position" "[I") (by decide +kernel)) (fun _ h9 => h9) rfl dX7_move_65 ?_
              refine W.eq (g2 := F0 m 68 ls [.ref (w 15)]) (by rw [hM.t 14 (by decide)]) ?_
              refine lv_iconst (v := 4) hx hb dX7_move_68 (by decide) ?_
              refine lv_iload_n hx hb dX7_move_69 rfl (lv_at hl 1 rfl) ?_
              refine lv_imul hx hb dX7_move_70 ?_
              refine lv_topi (fun v200129 ev200129 => ?_)
              refine lv_iload hx hb dX7_move_71 (lv_at hl 4 rfl) ?_
              refine lv_iadd hx hb dX7_move_73 ?_
              refine lv_topi (fun v200130 ev200130 => ?_)
              have tv200129 : v200129.toInt = 4 * xg.toInt := by rw [ev200129]; have := vp_in_iff.mp hin200113; exact xmul4 (by omega) (by omega)
              have hin200131 : vp_in v200130 16 := by have h8 := vp_in_iff.mp hin200113; have h9 := vp_in_iff.mp hth200117.1; rw [ev200130]; exact xin_of (by rw [xadd (by omega) (by omega)]; omega) (by rw [xadd (by omega) (by omega)]; omega)
              refine lv_iload hx hb dX7_move_74 (lv_at hl 5 rfl) ?_
              obtain ⟨j200132, hj200132⟩ := wG_20 (cy := cy) (N := N) (T := T) (I := I) (Q := Q) (J := J) (hM.at 15 (by decide)) (hM.k 15 (by decide) rfl)
              have hDo := hD
              refine va_iast (x := xo) hx hb hK hP hD hS j200132 1 hj200132 rfl (hM.inN (n := 16) 15 (by decide) rfl rfl hin200131) dX7_move_76 (fun H locs hP hD hS => ?_)
              have hP := Eq.mp (congrArg (fun w => va_P (dC, dI) vwCl w H) (wS_20 hDo (hM.at 15 (by decide)) (hM.k 15 (by decide) rfl) hj200132)) hP
              obtain ⟨J200133, eJ200133⟩ : ∃ z, z = va_up J (w 15) (upd (J (w 15)) v200130.toNatClampNeg xo) := ⟨_, rfl⟩
              rw [← eJ200133] at hP
              have hR : RM w [15] I J I J200133 := by rw [eJ200133]; exact hR.pj hM (by decide) (by decide)
              have hMD : MD w J200133 := by rw [eJ200133]; exact hMD.pj hM (by decide) (by decide)
              have hD : va_D A (va_pl L (wF cy K N T I Q J200133)) := pD hDo
              refine lv_iconst (v := 0) hx hb dX7_move_77 (by decide) ?_
              exact W.iret (v := 0) hx hb hr (fun t ht hW => ⟨⟨0, (I, J200133), rfl, ⟨⟨hML.mono (by omega), hMD, hMU⟩, by show RM w [] I (sp_mvM w J xg xp xo 0) _ _; have h8 := vp_in_iff.mp hth200117.1; have h7 := vp_in_iff.mp hin200113; have e9 : v200130.toNatClampNeg = 4 * xg.toNatClampNeg + xp.toNatClampNeg := (by have e8 : v200130.toInt = 4 * xg.toInt + xp.toInt := (by rw [ev200130, xadd (by omega) (by omega), tv200129]); have e7 := xcl hin200131; have e6 := xcl hth200117.1; have e5 := xcl hin200113; omega); rw [sp_mvM, if_pos rfl]; exact hR.re (fun k hk hx => va_up_ne _ _ (hM.ne (by omega) (by decide) (fun q => hx (List.mem_singleton.mpr q)))) (fun k hk he => by obtain rfl := List.mem_singleton.mp he; show J200133 (w 15) = _; rw [va_up_self, eJ200133, va_up_self, e9]), by show _ = _; have kc200110 := c200110; have kc200112 := (not_congr (sp_in_0 xg 0 3)).mp c200112; have kc200119 := (not_congr (sp_in_0 xm 0 7)).mp c200119; simp only [xk_eq, Int32.toInt_toInt64, xk_lt, xk_le, xk_0, xk_1, xk_2, xk_3, xk_4, xk_5, xk_6, xk_7, xk_8, xk_50, xl_0, xl_1, xl_3, xl_4, xl_5, xl_6, xl_7, xl_50] at kc200110 kc200112 kc200119; have h8 := vp_in_iff.mp hth200117.1; rw [sp_mvr, if_pos ⟨by omega, by omega⟩, if_pos ⟨by omega, by omega⟩, if_neg (fun q => hth200117.2 (zN_0.mp q)), if_neg (by omega)]; have h7 := hr200121; rw [sp_own, if_pos ⟨by omega, by omega⟩, if_pos ⟨by omega, by omega⟩, if_neg (fun q => hth200117.2 (zN_0.mp q))] at h7; rw [if_pos ⟨by omega, by have h6 : sp_ow1 (sp_ma (J (w 13) xg.toNatClampNeg) (sp_cnt (fun q => zN (J (w 2) q)) xp.toNatClampNeg)) = xm := h7.symm.trans (c200123); rcases sp_ma_cs (J (w 13) xg.toNatClampNeg) (sp_cnt (fun q => zN (J (w 2) q)) xp.toNatClampNeg) with z | ⟨j, hj, z⟩; (rw [z] at h6; have h5 := congrArg Int32.toInt h6; rw [show (sp_ow1 (-1)).toInt = -2 by decide] at h5; omega); rw [z, sp_ow1_k hj] at h6; rw [z]; exact h6.symm, by rw [← ex200126]; exact c200127.symm⟩]⟩, by rw [ht]; exact hP, va_K.moved hW.alike hK, hD⟩, hS.F ht⟩) hS.2.2 dX7_move_78
            · have kc200127 : ¬ (x200126.toInt = xr.toInt) := by have h9 := c200127; rw [xk_eq] at h9; exact h9
              refine lv_bipush (v := (-4)) hx hb dX7_move_61 (by decide) ?_
              exact W.iret (v := (-4)) hx hb hr (fun t ht hW => ⟨⟨(-4), (I, J), rfl, ⟨⟨hML.mono (by omega), hMD, hMU⟩, by show RM w [] I (sp_mvM w J xg xp xo ((-4))) _ _; rw [sp_mvM, if_neg (by decide)]; exact hR.no (fun _ _ _ => rfl), by show _ = _; have kc200110 := c200110; have kc200112 := (not_congr (sp_in_0 xg 0 3)).mp c200112; have kc200119 := (not_congr (sp_in_0 xm 0 7)).mp c200119; simp only [xk_eq, Int32.toInt_toInt64, xk_lt, xk_le, xk_0, xk_1, xk_2, xk_3, xk_4, xk_5, xk_6, xk_7, xk_8, xk_50, xl_0, xl_1, xl_3, xl_4, xl_5, xl_6, xl_7, xl_50] at kc200110 kc200112 kc200119; have h8 := vp_in_iff.mp hth200117.1; rw [sp_mvr, if_pos ⟨by omega, by omega⟩, if_pos ⟨by omega, by omega⟩, if_neg (fun q => hth200117.2 (zN_0.mp q)), if_neg (by omega)]; rw [if_neg (fun q => c200127 (by rw [ex200126]; exact q.2.2.symm))]⟩, by rw [ht]; exact hP, va_K.moved hW.alike hK, hD⟩, hS.F ht⟩) hS.2.2 dX7_move_63
      · have kc200116 : r200114.toInt = 0 := by have h9 := c200116; rw [xk_eq, xk_0] at h9; exact h9
        refine lv_iconst (v := (-1)) hx hb dX7_move_26 (by decide) ?_
        exact W.iret (v := (-1)) hx hb hr (fun t ht hW => ⟨⟨(-1), (I, J), rfl, ⟨⟨hML.mono (by omega), hMD, hMU⟩, by show RM w [] I (sp_mvM w J xg xp xo ((-1))) _ _; rw [sp_mvM, if_neg (by decide)]; exact hR.no (fun _ _ _ => rfl), by show _ = _; have kc200110 := c200110; have kc200112 := (not_congr (sp_in_0 xg 0 3)).mp c200112; simp only [xk_eq, Int32.toInt_toInt64, xk_lt, xk_le, xk_0, xk_1, xk_2, xk_3, xk_4, xk_5, xk_6, xk_7, xk_8, xk_50, xl_0, xl_1, xl_3, xl_4, xl_5, xl_6, xl_7, xl_50] at kc200110 kc200112; have h9 := sp_it0 (hr200114.symm.trans c200116); rw [sp_mvr, if_pos ⟨by omega, by omega⟩]; by_cases hp : 0 ≤ xp.toInt ∧ xp.toInt < 4; (rw [if_pos hp, if_pos (zN_0.mpr (Classical.byContradiction fun q => h9 ⟨hp.1, hp.2, q⟩))]); rw [if_neg hp]⟩, by rw [ht]; exact hP, va_K.moved hW.alike hK, hD⟩, hS.F ht⟩) hS.2.2 dX7_move_27
