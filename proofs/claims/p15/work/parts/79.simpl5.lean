set_option maxHeartbeats 4000000 in
set_option maxRecDepth 100000 in
/-- restart, exactly -/
theorem e_X5_restart (l : Launch) (dC : Nat → ClassId) (dI : Nat → Nat → Nat) (cy : Nat → ClassId) (v : Nat → Nat) (L : List Nat) (K N : Nat → Nat) (T : Nat → Nat → Nat) (I : Nat → Nat → Int32) (Q : Nat → Nat → Option Nat) (J : Nat → Nat → Int32) (sz : Nat) (xn : Int32) (hC : CT v L K N T I Q) : Met l yX5_restart wsX5_restart ({ frames := 2, cells := 0, slots := 0, locals := 44 }) (va_Pc [.ref (v 0), .int xn] (pW dC dI cy L (pF cy K N T I Q J) sz)) (va_Qi (fun (r : Int32) (d : (Nat → Nat → Int32) × (Nat → Nat → Option Nat) × (Nat → Nat → Int32)) => (CT v L K N T d.1 d.2.1 ∧ RS v (p2 I (v 0) 3 (sp_rc (I (v 0) 3) xn)) Q J d.1 d.2.1 d.2.2) ∧ r = sp_rcr (I (v 0) 3) xn) (fun (d : (Nat → Nat → Int32) × (Nat → Nat → Option Nat) × (Nat → Nat → Int32)) t => va_P (dC, dI) vwCl (va_pl L (pF cy K N T d.1 d.2.1 d.2.2)) t.heap ∧ va_K (dC, dI) vwCl (pTy cy) t ∧ va_D (va_A (va_pl L (pF cy K N T I Q J)) sz) (va_pl L (pF cy K N T d.1 d.2.1 d.2.2))) (va_A (va_pl L (pF cy K N T I Q J)) sz)) 0 0 (va_A (va_pl L (pF cy K N T I Q J)) sz) := by
  refine Met.ofW (cc := cX5_restart) (maxL := 4) (ret := (some .int)) (by decide) rfl ?_
  intro p e s m args below meth c s₁ B hml hv
  obtain ⟨rfl, hsz, ⟨hP, hK, hN⟩, hD0⟩ := hv
  have hx := B.exec
  have hb := B.bytes
  have hr := B.returns
  have hts := atoms_spec (ws := wsX5_restart) B.pre
  have hown : s.vm.findClass RX5 = some m.cls := findClass_of_methodNamed B.named
  have hlocks := B.notSynchronized
  have hi5 : ∀ w ∈ wsX50, w ∈ wsX5_restart := by decide +kernel
  have hi4 : ∀ w ∈ wsX40, w ∈ wsX5_restart := by decide +kernel
  have hl := lv_entry ([.ref (v 0), .int xn]) (n := 4) (Nat.le_of_ble_eq_true rfl)
  rw [lg_entry_eq]
  generalize (lg_sl ([.ref (v 0), .int xn]) ++ List.replicate (4 - (lg_sl ([.ref (v 0), .int xn])).length) Slot.unset).toArray = ls at hl ⊢
  have hl : lv_has ls 4 [(0, .ref (v 0)), (1, .int xn)] := hl
  subst hsz
  have hD := hD0.self (sz := s.heap.size)
  generalize hAe : va_A (va_pl L (pF cy K N T I Q J)) s.heap.size = A at hD ⊢
  have hA : ∀ q : Nat, s.heap.size ≤ q → A q := fun q h => by rw [← hAe]; exact Or.inr h
  have hS : va_S A s.heap s.heap [] := va_S.rf
  have hR : RS v I Q J I Q J := RS.rf
  have hn28 := hN.1
  have hn30 := hN.2.1
  have hn37 := hN.2.2.1
  refine lv_iload_n hx hb dX5_restart_0 rfl (lv_at hl 1 rfl) ?_
  refine lv_if_lt (tgt := 20) hx hb dX5_restart_1 (by decide) (fun c100125 => ?_) (fun c100125 => ?_)
  · refine lv_iconst (v := (-1)) hx hb dX5_restart_20 (by decide) ?_
    exact W.iret (v := (-1)) hx hb hr (fun t ht hW => ⟨⟨(-1), (I, Q, J), rfl, ⟨⟨hC, by have h9 : I (v 0) 3 = sp_rc (I (v 0) 3) xn := (by show I (v 0) 3 = _; rw [hR.1]; have kc100125 := c100125; simp only [xk_eq, Int32.toInt_toInt64, xk_lt, xk_le, xk_0, xk_1, xk_2, xk_3, xk_4, xk_5, xk_6, xk_7, xk_8, xk_50, xl_0, xl_1, xl_3, xl_4, xl_5, xl_6, xl_7, xl_50] at kc100125; unfold sp_rc; rw [if_neg (fun q => by omega)]); have h8 := hR.1.symm.trans h9; rw [← h8, p2_self]; exact hR⟩, (by show _ = _; have kc100125 := c100125; simp only [xk_eq, Int32.toInt_toInt64, xk_lt, xk_le, xk_0, xk_1, xk_2, xk_3, xk_4, xk_5, xk_6, xk_7, xk_8, xk_50, xl_0, xl_1, xl_3, xl_4, xl_5, xl_6, xl_7, xl_50] at kc100125; unfold sp_rcr; rw [if_neg (fun q => by omega)])⟩, by rw [ht]; exact hP, va_K.moved hW.alike hK, hD⟩, hS.F ht⟩) hS.2.2 dX5_restart_21
  · refine lv_iload_n hx hb dX5_restart_4 rfl (lv_at hl 1 rfl) ?_
    refine lv_iconst (v := 5) hx hb dX5_restart_5 (by decide) ?_
    refine lv_icmp_ge (tgt := 20) hx hb dX5_restart_6 (by decide) (fun c100126 => ?_) (fun c100126 => ?_)
    · refine lv_iconst (v := (-1)) hx hb dX5_restart_20 (by decide) ?_
      exact W.iret (v := (-1)) hx hb hr (fun t ht hW => ⟨⟨(-1), (I, Q, J), rfl, ⟨⟨hC, by have h9 : I (v 0) 3 = sp_rc (I (v 0) 3) xn := (by show I (v 0) 3 = _; rw [hR.1]; have kc100125 := c100125; have kc100126 := c100126; simp only [xk_eq, Int32.toInt_toInt64, xk_lt, xk_le, xk_0, xk_1, xk_2, xk_3, xk_4, xk_5, xk_6, xk_7, xk_8, xk_50, xl_0, xl_1, xl_3, xl_4, xl_5, xl_6, xl_7, xl_50] at kc100125 kc100126; unfold sp_rc; rw [if_neg (fun q => by omega)]); have h8 := hR.1.symm.trans h9; rw [← h8, p2_self]; exact hR⟩, (by show _ = _; have kc100125 := c100125; have kc100126 := c100126; simp only [xk_eq, Int32.toInt_toInt64, xk_lt, xk_le, xk_0, xk_1, xk_2, xk_3, xk_4, xk_5, xk_6, xk_7, xk_8, xk_50, xl_0, xl_1, xl_3, xl_4, xl_5, xl_6, xl_7, xl_50] at kc100125 kc100126; unfold sp_rcr; rw [if_neg (fun q => by omega)])⟩, by rw [ht]; exact hP, va_K.moved hW.alike hK, hD⟩, hS.F ht⟩) hS.2.2 dX5_restart_21
    · refine lv_aload_n hx hb dX5_restart_9 rfl (lv_at hl 0 rfl) ?_
      obtain ⟨j100127, hj100127⟩ := pG_5 (cy := cy) (N := N) (T := T) (I := I) (Q := Q) (J := J) (hC.at 0 (by decide)) (hC.k 0 (by decide) rfl)
      refine va_get (D := (dC, dI)) (ci := 5) (v := .int (I (v 0) 3)) (C := RX5) (T := TX5) (N := 6) hx hb hts hi5 hown hK hP j100127 hj100127 rfl 3 (by decide) (hts (.fieldLink RX5 27 "TallyLogs" "up" "I") (by decide +kernel)) (fun _ h9 => h9) rfl dX5_restart_10 ?_
      refine lv_topi (fun x100128 ex100128 => ?_)
      refine lv_iload_n hx hb dX5_restart_13 rfl (lv_at hl 1 rfl) ?_
      refine vp_callSi (W.runS (As := [.int x100128, .int xn]) (rest := []) ⟨hx, hb, hml, hown, hts⟩ (c_X5_contains l x100128 xn) (va_cwS 2 hts gX5_restart_X5_contains rfl rfl rfl (by decide +kernel) ⟨Nat.le_of_ble_eq_true rfl, Nat.le_of_ble_eq_true rfl⟩) preEq rfl rfl hl.1 rfl (lv_room (Nat.le_of_ble_eq_true rfl)) dX5_restart_14 ⟨Nat.le_of_ble_eq_true rfl, Nat.le_of_ble_eq_true rfl⟩) (fun r100129 hr100129 => ?_)
      refine lv_if_eq (tgt := 22) hx hb dX5_restart_17 (by decide) (fun c100130 => ?_) (fun c100130 => ?_)
      · refine lv_aload_n hx hb dX5_restart_22 rfl (lv_at hl 0 rfl) ?_
        refine lv_dup hx hb dX5_restart_23 rfl ?_
        obtain ⟨j100131, hj100131⟩ := pG_5 (cy := cy) (N := N) (T := T) (I := I) (Q := Q) (J := J) (hC.at 0 (by decide)) (hC.k 0 (by decide) rfl)
        refine va_get (D := (dC, dI)) (ci := 5) (v := .int (I (v 0) 3)) (C := RX5) (T := TX5) (N := 6) hx hb hts hi5 hown hK hP j100131 hj100131 rfl 3 (by decide) (hts (.fieldLink RX5 27 "TallyLogs" "up" "I") (by decide +kernel)) (fun _ h9 => h9) rfl dX5_restart_24 ?_
        refine lv_topi (fun x100132 ex100132 => ?_)
        refine lv_iconst (v := 1) hx hb dX5_restart_27 (by decide) ?_
        refine lv_iload_n hx hb dX5_restart_28 rfl (lv_at hl 1 rfl) ?_
        refine lv_ishl hx hb dX5_restart_29 ?_
        refine lv_topi (fun v100133 ev100133 => ?_)
        refine lv_ior hx hb dX5_restart_30 ?_
        refine lv_topi (fun v100134 ev100134 => ?_)
        obtain ⟨j100135, hj100135⟩ := pG_5 (cy := cy) (N := N) (T := T) (I := I) (Q := Q) (J := J) (hC.at 0 (by decide)) (hC.k 0 (by decide) rfl)
        have hDo := hD
        refine va_put (D := (dC, dI)) (ci := 5) (v := .int v100134) (ty := .int) (C := RX5) (T := TX5) (N := 6) hx hb hts hi5 tyX5 tyX5_ok nmX5 hown hK hP hD hS j100135 hj100135 rfl 3 (by decide) (hts (.fieldLink RX5 27 "TallyLogs" "up" "I") (by decide +kernel)) (fun _ h9 => h9) rfl (by decide +kernel) rfl rfl (Nat.le_of_ble_eq_true rfl) dX5_restart_31 (fun H locs hP hD hS => ?_)
        have hP := Eq.mp (congrArg (fun w => va_P (dC, dI) vwCl w H) (pP_5_3 (x := v100134) hDo (hC.at 0 (by decide)) (hC.k 0 (by decide) rfl) hj100135)) hP
        obtain ⟨I100136, eI100136⟩ : ∃ z, z = p2 I (v 0) 3 v100134 := ⟨_, rfl⟩
        rw [← eI100136] at hP
        have hub : I100136 (v 0) 3 = v100134 := by rw [eI100136]; exact p2_at _ _ _ _
        have hR : RS v I100136 Q J I100136 Q J := RS.rf
        have hC : CT v L K N T I100136 Q := by rw [eI100136]; exact hC.pi (by rw [(hC.k 0 (by decide) rfl)]; decide)
        have hD : va_D A (va_pl L (pF cy K N T I100136 Q J)) := pD hDo
        refine lv_iconst (v := 0) hx hb dX5_restart_34 (by decide) ?_
        refine lv_istore_n (lv' := [(2, .int 0), (0, .ref (v 0)), (1, .int xn)]) hx hb dX5_restart_35 rfl hl (by decide) rfl (fun ls hl => ?_)
        refine wq_gen (fun Qz hQz => ?_)
        have hLP100137 : ∀ (n : Nat) (y100138 : Int32) (Ia100137 : Nat → Nat → Int32) (Qa100137 : Nat → Nat → Option Nat) (Ja100137 : Nat → Nat → Int32) (H : Heap) (locs : List Loc) (ls : Array Slot), (((4 : Int32)).toInt - y100138.toInt).toNat < n → 0 ≤ y100138.toInt → CT v L K N T Ia100137 Qa100137 → RS v I100136 Q J Ia100137 Qa100137 Ja100137 → va_P (dC, dI) vwCl (va_pl L (pF cy K N T Ia100137 Qa100137 Ja100137)) H → va_D A (va_pl L (pF cy K N T Ia100137 Qa100137 Ja100137)) → va_S A s.heap H locs → lv_has ls 4 [(2, .int y100138), (0, .ref (v 0)), (1, .int xn)] → W p l e (headSpec wsX5_restart ({ frames := 2, cells := 0, slots := 0, locals := 44 })).room s m ([.ref (v 0), .int xn] : List Value).toArray below meth c H locs 0 0 Qz (F0 m 36 ls []) := by
          intro n
          induction n with
          | zero => intro y100138 Ia100137 Qa100137 Ja100137 H locs ls hms; exact absurd hms (Nat.not_lt_zero _)
          | succ n ih =>
            intro y100138 Ia100137 Qa100137 Ja100137 H locs ls hms hnn100137 hC hR hP hD hS hl
            refine lv_iload_n hx hb dX5_restart_36 rfl (lv_at hl 0 rfl) ?_
            refine lv_iconst (v := 4) hx hb dX5_restart_37 (by decide) ?_
            refine lv_icmp_ge (tgt := 63) hx hb dX5_restart_38 (by decide) (fun c100139 => ?_) (fun c100139 => ?_)
            · refine lv_iconst (v := 0) hx hb dX5_restart_63 (by decide) ?_
              rw [hQz]
              exact W.iret (v := 0) hx hb hr (fun t ht hW => ⟨⟨0, (Ia100137, Qa100137, Ja100137), rfl, ⟨⟨hC, by have h9 : Ia100137 (v 0) 3 = sp_rc (I (v 0) 3) xn := (by show Ia100137 (v 0) 3 = _; rw [hR.1, hub, ev100134, ex100132, ev100133]; have kc100125 := c100125; have kc100126 := c100126; simp only [xk_eq, Int32.toInt_toInt64, xk_lt, xk_le, xk_0, xk_1, xk_2, xk_3, xk_4, xk_5, xk_6, xk_7, xk_8, xk_50, xl_0, xl_1, xl_3, xl_4, xl_5, xl_6, xl_7, xl_50] at kc100125 kc100126; unfold sp_rc; rw [if_pos ⟨by omega, by omega⟩, if_pos (by rw [← ex100128, ← hr100129]; exact c100130)]); have h8 := (hR.1.trans hub).symm.trans h9; rw [← h8, ← eI100136]; exact hR⟩, (by show _ = _; have kc100125 := c100125; have kc100126 := c100126; simp only [xk_eq, Int32.toInt_toInt64, xk_lt, xk_le, xk_0, xk_1, xk_2, xk_3, xk_4, xk_5, xk_6, xk_7, xk_8, xk_50, xl_0, xl_1, xl_3, xl_4, xl_5, xl_6, xl_7, xl_50] at kc100125 kc100126; unfold sp_rcr; rw [if_pos ⟨by omega, by omega⟩, if_pos (by rw [← ex100128, ← hr100129]; exact c100130)])⟩, by rw [ht]; exact hP, va_K.moved hW.alike hK, hD⟩, hS.F ht⟩) hS.2.2 dX5_restart_64
            · refine lv_aload_n hx hb dX5_restart_41 rfl (lv_at hl 1 rfl) ?_
              refine lv_iload_n hx hb dX5_restart_42 rfl (lv_at hl 2 rfl) ?_
              refine lv_iload_n hx hb dX5_restart_43 rfl (lv_at hl 0 rfl) ?_
              obtain ⟨j100141, hj100141⟩ := pG_5 (cy := cy) (N := N) (T := T) (I := Ia100137) (Q := Qa100137) (J := Ja100137) (hC.at 0 (by decide)) (hC.k 0 (by decide) rfl)
              refine va_csq (W.runV (As := [.int xn, .int y100138]) (rest := []) ⟨hx, hb, hml, hown, hts⟩ (c_X5_replicaOf l dC dI cy v L K N T Ia100137 Qa100137 Ja100137  xn y100138 hC) (cwV 2 hts gX5_restart_X5_replicaOf rfl rfl rfl (by decide +kernel) ⟨Nat.le_of_ble_eq_true rfl, Nat.le_of_ble_eq_true rfl⟩) ⟨pb_blind, va_recv hK hP (ci := 5) (q0 := j100141) rfl hj100141, fun U hU hW => ⟨rfl, pb_pre hP hK hN hU hW⟩⟩ rfl rfl hl.1 rfl (lv_room (Nat.le_of_ble_eq_true rfl)) dX5_restart_44 ⟨Nat.le_of_ble_eq_true rfl, Nat.le_of_ble_eq_true rfl⟩) (fun r100140 hr100140 => ?_)
              cases r100140 with
              | none =>
                refine W.eq (g2 := F0 m 47 ls [.null]) rfl ?_
                refine lv_astore_nN (lv' := [(3, .null), (2, .int y100138), (0, .ref (v 0)), (1, .int xn)]) hx hb dX5_restart_47 rfl hl (by decide) rfl (fun ls hl => ?_)
                refine lv_aload_nN hx hb dX5_restart_48 rfl (lv_at hl 0 rfl) ?_
                refine lv_ifnullN (tgt := 57) hx hb dX5_restart_49 (by decide) ?_
                obtain ⟨v100143, ev100143⟩ : ∃ y : Int32, y = y100138 + Int32.ofInt 1 := ⟨_, rfl⟩
                refine lv_iinc (v := v100143) (lv' := [(2, .int v100143), (3, .null), (0, .ref (v 0)), (1, .int xn)]) hx hb dX5_restart_57 hl (k := 1) rfl ev100143.symm (by decide) rfl (fun ls hl => ?_)
                refine lv_goto (tgt := 36) hx hb dX5_restart_60 (by decide) ?_
                exact ih _ _ _ _ _ _ _ (by have kc := c100139; simp only [xk_le, xk_lt] at kc; have h9 := xinc (x := y100138) (y := (4 : Int32)) (by rw [xk_lt]; omega); rw [ev100143, show y100138 + Int32.ofInt 1 = y100138 + 1 from rfl, h9]; omega) (by have kc := c100139; simp only [xk_le, xk_lt] at kc; have h9 := xinc (x := y100138) (y := (4 : Int32)) (by rw [xk_lt]; omega); rw [ev100143, show y100138 + Int32.ofInt 1 = y100138 + 1 from rfl, h9]; omega) hC hR hP hD hS (lv_sub hl [0, 2, 3] rfl)
              | some b100142 =>
                have hTb100142 := hr100140 b100142 rfl
                refine W.eq (g2 := F0 m 47 ls [.ref b100142]) rfl ?_
                refine lv_astore_n (lv' := [(3, .ref b100142), (2, .int y100138), (0, .ref (v 0)), (1, .int xn)]) hx hb dX5_restart_47 rfl hl (by decide) rfl (fun ls hl => ?_)
                refine lv_aload_n hx hb dX5_restart_48 rfl (lv_at hl 0 rfl) ?_
                refine lv_ifnull hx hb dX5_restart_49 ?_
                refine lv_aload_n hx hb dX5_restart_52 rfl (lv_at hl 0 rfl) ?_
                refine lv_iconst (v := (-1)) hx hb dX5_restart_53 (by decide) ?_
                obtain ⟨j100144, hj100144⟩ := pG_4 (cy := cy) (N := N) (T := T) (I := Ia100137) (Q := Qa100137) (J := Ja100137) hTb100142.1 hTb100142.2
                have hDo := hD
                refine va_put (D := (dC, dI)) (ci := 4) (v := .int (-1)) (ty := .int) (C := RX4) (T := TX4) (N := 7) hx hb hts hi4 tyX4 tyX4_ok nmX4 hown hK hP hD hS j100144 hj100144 rfl 5 (by decide) (hts (.fieldLink RX5 157 "TallyLogs$Replica" "known" "I") (by decide +kernel)) (fun _ h9 => h9) rfl (by decide +kernel) rfl rfl (Nat.le_of_ble_eq_true rfl) dX5_restart_54 (fun H locs hP hD hS => ?_)
                have hP := Eq.mp (congrArg (fun w => va_P (dC, dI) vwCl w H) (pP_4_5 (x := (-1)) hDo hTb100142.1 hTb100142.2 hj100144)) hP
                obtain ⟨I100145, eI100145⟩ : ∃ z, z = p2 Ia100137 b100142 5 (-1) := ⟨_, rfl⟩
                rw [← eI100145] at hP
                have hR : RS v I100136 Q J I100145 Qa100137 Ja100137 := by rw [eI100145]; exact hR.pi hC (by rw [hTb100142.2]; decide)
                have hC : CT v L K N T I100145 Qa100137 := by rw [eI100145]; exact hC.pi (by rw [hTb100142.2]; decide)
                have hD : va_D A (va_pl L (pF cy K N T I100145 Qa100137 Ja100137)) := pD hDo
                obtain ⟨v100146, ev100146⟩ : ∃ y : Int32, y = y100138 + Int32.ofInt 1 := ⟨_, rfl⟩
                refine lv_iinc (v := v100146) (lv' := [(2, .int v100146), (3, .ref b100142), (0, .ref (v 0)), (1, .int xn)]) hx hb dX5_restart_57 hl (k := 1) rfl ev100146.symm (by decide) rfl (fun ls hl => ?_)
                refine lv_goto (tgt := 36) hx hb dX5_restart_60 (by decide) ?_
                exact ih _ _ _ _ _ _ _ (by have kc := c100139; simp only [xk_le, xk_lt] at kc; have h9 := xinc (x := y100138) (y := (4 : Int32)) (by rw [xk_lt]; omega); rw [ev100146, show y100138 + Int32.ofInt 1 = y100138 + 1 from rfl, h9]; omega) (by have kc := c100139; simp only [xk_le, xk_lt] at kc; have h9 := xinc (x := y100138) (y := (4 : Int32)) (by rw [xk_lt]; omega); rw [ev100146, show y100138 + Int32.ofInt 1 = y100138 + 1 from rfl, h9]; omega) hC hR hP hD hS (lv_sub hl [0, 2, 3] rfl)
        exact hLP100137 _ _ _ _ _ _ _ _ (Nat.lt_succ_self _) (by decide) hC hR hP hD hS (lv_sub hl [0, 1, 2] rfl)
      · refine lv_iconst (v := (-1)) hx hb dX5_restart_20 (by decide) ?_
        exact W.iret (v := (-1)) hx hb hr (fun t ht hW => ⟨⟨(-1), (I, Q, J), rfl, ⟨⟨hC, by have h9 : I (v 0) 3 = sp_rc (I (v 0) 3) xn := (by show I (v 0) 3 = _; rw [hR.1]; have kc100125 := c100125; have kc100126 := c100126; simp only [xk_eq, Int32.toInt_toInt64, xk_lt, xk_le, xk_0, xk_1, xk_2, xk_3, xk_4, xk_5, xk_6, xk_7, xk_8, xk_50, xl_0, xl_1, xl_3, xl_4, xl_5, xl_6, xl_7, xl_50] at kc100125 kc100126; unfold sp_rc; rw [if_pos ⟨by omega, by omega⟩, if_neg (fun q => c100130 (by rw [hr100129, ex100128]; exact q))]); have h8 := hR.1.symm.trans h9; rw [← h8, p2_self]; exact hR⟩, (by show _ = _; have kc100125 := c100125; have kc100126 := c100126; simp only [xk_eq, Int32.toInt_toInt64, xk_lt, xk_le, xk_0, xk_1, xk_2, xk_3, xk_4, xk_5, xk_6, xk_7, xk_8, xk_50, xl_0, xl_1, xl_3, xl_4, xl_5, xl_6, xl_7, xl_50] at kc100125 kc100126; unfold sp_rcr; rw [if_pos ⟨by omega, by omega⟩, if_neg (fun q => c100130 (by rw [hr100129, ex100128]; exact q))])⟩, by rw [ht]; exact hP, va_K.moved hW.alike hK, hD⟩, hS.F ht⟩) hS.2.2 dX5_restart_21
set_option maxHeartbeats 4000000 in
set_option maxRecDepth 100000 in
/-- crash, exactly -/
theorem e_X5_crash (l : Launch) (dC : Nat → ClassId) (dI : Nat → Nat → Nat) (cy : Nat → ClassId) (v : Nat → Nat) (L : List Nat) (K N : Nat → Nat) (T : Nat → Nat → Nat) (I : Nat → Nat → Int32) (Q : Nat → Nat → Option Nat) (J : Nat → Nat → Int32) (sz : Nat) (xn : Int32) (xk : Int32) (hC : CT v L K N T I Q) : Met l yX5_crash wsX5_crash ({ frames := 4, cells := 0, slots := 0, locals := 90 }) (va_Pc [.ref (v 0), .int xn, .int xk] (pW dC dI cy L (pF cy K N T I Q J) sz)) (va_Qi (fun (r : Int32) (d : (Nat → Nat → Int32) × (Nat → Nat → Option Nat) × (Nat → Nat → Int32)) => (CT v L K N T d.1 d.2.1 ∧ RS v (p2 I (v 0) 3 (sp_ccu (I (v 0) 3) xn xk)) Q J d.1 d.2.1 d.2.2) ∧ True) (fun (d : (Nat → Nat → Int32) × (Nat → Nat → Option Nat) × (Nat → Nat → Int32)) t => va_P (dC, dI) vwCl (va_pl L (pF cy K N T d.1 d.2.1 d.2.2)) t.heap ∧ va_K (dC, dI) vwCl (pTy cy) t ∧ va_D (va_A (va_pl L (pF cy K N T I Q J)) sz) (va_pl L (pF cy K N T d.1 d.2.1 d.2.2))) (va_A (va_pl L (pF cy K N T I Q J)) sz)) 0 0 (va_A (va_pl L (pF cy K N T I Q J)) sz) := by
  refine Met.ofW (cc := cX5_crash) (maxL := 6) (ret := (some .int)) (by decide) rfl ?_
  intro p e s m args below meth c s₁ B hml hv
  obtain ⟨rfl, hsz, ⟨hP, hK, hN⟩, hD0⟩ := hv
  have hx := B.exec
  have hb := B.bytes
  have hr := B.returns
  have hts := atoms_spec (ws := wsX5_crash) B.pre
  have hown : s.vm.findClass RX5 = some m.cls := findClass_of_methodNamed B.named
  have hlocks := B.notSynchronized
  have hi5 : ∀ w ∈ wsX50, w ∈ wsX5_crash := by decide +kernel
  have hi2 : ∀ w ∈ wsX20, w ∈ wsX5_crash := by decide +kernel
  have hl := lv_entry ([.ref (v 0), .int xn, .int xk]) (n := 6) (Nat.le_of_ble_eq_true rfl)
  rw [lg_entry_eq]
  generalize (lg_sl ([.ref (v 0), .int xn, .int xk]) ++ List.replicate (6 - (lg_sl ([.ref (v 0), .int xn, .int xk])).length) Slot.unset).toArray = ls at hl ⊢
  have hl : lv_has ls 6 [(0, .ref (v 0)), (1, .int xn), (2, .int xk)] := hl
  subst hsz
  have hD := hD0.self (sz := s.heap.size)
  generalize hAe : va_A (va_pl L (pF cy K N T I Q J)) s.heap.size = A at hD ⊢
  have hA : ∀ q : Nat, s.heap.size ≤ q → A q := fun q h => by rw [← hAe]; exact Or.inr h
  have hS : va_S A s.heap s.heap [] := va_S.rf
  have hR : RS v I Q J I Q J := RS.rf
  have hn28 := hN.1
  have hn30 := hN.2.1
  have hn37 := hN.2.2.1
  refine lv_aload_n hx hb dX5_crash_0 rfl (lv_at hl 0 rfl) ?_
  obtain ⟨j100147, hj100147⟩ := pG_5 (cy := cy) (N := N) (T := T) (I := I) (Q := Q) (J := J) (hC.at 0 (by decide)) (hC.k 0 (by decide) rfl)
  refine va_get (D := (dC, dI)) (ci := 5) (v := .int (I (v 0) 3)) (C := RX5) (T := TX5) (N := 6) hx hb hts hi5 hown hK hP j100147 hj100147 rfl 3 (by decide) (hts (.fieldLink RX5 27 "TallyLogs" "up" "I") (by decide +kernel)) (fun _ h9 => h9) rfl dX5_crash_1 ?_
  refine lv_topi (fun x100148 ex100148 => ?_)
  refine lv_iload_n hx hb dX5_crash_4 rfl (lv_at hl 1 rfl) ?_
  refine vp_callSi (W.runS (As := [.int x100148, .int xn]) (rest := []) ⟨hx, hb, hml, hown, hts⟩ (c_X5_contains l x100148 xn) (va_cwS 2 hts gX5_crash_X5_contains rfl rfl rfl (by decide +kernel) ⟨Nat.le_of_ble_eq_true rfl, Nat.le_of_ble_eq_true rfl⟩) preEq rfl rfl hl.1 rfl (lv_room (Nat.le_of_ble_eq_true rfl)) dX5_crash_5 ⟨Nat.le_of_ble_eq_true rfl, Nat.le_of_ble_eq_true rfl⟩) (fun r100149 hr100149 => ?_)
  refine lv_if_eq (tgt := 15) hx hb dX5_crash_8 (by decide) (fun c100150 => ?_) (fun c100150 => ?_)
  · refine lv_iconst (v := (-1)) hx hb dX5_crash_15 (by decide) ?_
    exact W.iret (v := (-1)) hx hb hr (fun t ht hW => ⟨⟨(-1), (I, Q, J), rfl, ⟨⟨hC, by have h9 : I (v 0) 3 = sp_ccu (I (v 0) 3) xn xk := (by show I (v 0) 3 = _; rw [hR.1]; unfold sp_ccu; rw [if_pos (by rw [← ex100148, ← hr100149]; exact c100150)]); have h8 := hR.1.symm.trans h9; rw [← h8, p2_self]; exact hR⟩, trivial⟩, by rw [ht]; exact hP, va_K.moved hW.alike hK, hD⟩, hS.F ht⟩) hS.2.2 dX5_crash_16
  · refine lv_iload_n hx hb dX5_crash_11 rfl (lv_at hl 2 rfl) ?_
    refine lv_if_ge (tgt := 17) hx hb dX5_crash_12 (by decide) (fun c100151 => ?_) (fun c100151 => ?_)
    · refine lv_aload_n hx hb dX5_crash_17 rfl (lv_at hl 0 rfl) ?_
      refine lv_dup hx hb dX5_crash_18 rfl ?_
      obtain ⟨j100152, hj100152⟩ := pG_5 (cy := cy) (N := N) (T := T) (I := I) (Q := Q) (J := J) (hC.at 0 (by decide)) (hC.k 0 (by decide) rfl)
      refine va_get (D := (dC, dI)) (ci := 5) (v := .int (I (v 0) 3)) (C := RX5) (T := TX5) (N := 6) hx hb hts hi5 hown hK hP j100152 hj100152 rfl 3 (by decide) (hts (.fieldLink RX5 27 "TallyLogs" "up" "I") (by decide +kernel)) (fun _ h9 => h9) rfl dX5_crash_19 ?_
      refine lv_topi (fun x100153 ex100153 => ?_)
      refine lv_iconst (v := 1) hx hb dX5_crash_22 (by decide) ?_
      refine lv_iload_n hx hb dX5_crash_23 rfl (lv_at hl 1 rfl) ?_
      refine lv_ishl hx hb dX5_crash_24 ?_
      refine lv_topi (fun v100154 ev100154 => ?_)
      refine lv_iconst (v := (-1)) hx hb dX5_crash_25 (by decide) ?_
      refine lv_ixor hx hb dX5_crash_26 ?_
      refine lv_topi (fun v100155 ev100155 => ?_)
      refine lv_iand hx hb dX5_crash_27 ?_
      refine lv_topi (fun v100156 ev100156 => ?_)
      obtain ⟨j100157, hj100157⟩ := pG_5 (cy := cy) (N := N) (T := T) (I := I) (Q := Q) (J := J) (hC.at 0 (by decide)) (hC.k 0 (by decide) rfl)
      have hDo := hD
      refine va_put (D := (dC, dI)) (ci := 5) (v := .int v100156) (ty := .int) (C := RX5) (T := TX5) (N := 6) hx hb hts hi5 tyX5 tyX5_ok nmX5 hown hK hP hD hS j100157 hj100157 rfl 3 (by decide) (hts (.fieldLink RX5 27 "TallyLogs" "up" "I") (by decide +kernel)) (fun _ h9 => h9) rfl (by decide +kernel) rfl rfl (Nat.le_of_ble_eq_true rfl) dX5_crash_28 (fun H locs hP hD hS => ?_)
      have hP := Eq.mp (congrArg (fun w => va_P (dC, dI) vwCl w H) (pP_5_3 (x := v100156) hDo (hC.at 0 (by decide)) (hC.k 0 (by decide) rfl) hj100157)) hP
      obtain ⟨I100158, eI100158⟩ : ∃ z, z = p2 I (v 0) 3 v100156 := ⟨_, rfl⟩
      rw [← eI100158] at hP
      have hub : I100158 (v 0) 3 = v100156 := by rw [eI100158]; exact p2_at _ _ _ _
      have hR : RS v I100158 Q J I100158 Q J := RS.rf
      have hC : CT v L K N T I100158 Q := by rw [eI100158]; exact hC.pi (by rw [(hC.k 0 (by decide) rfl)]; decide)
      have hD : va_D A (va_pl L (pF cy K N T I100158 Q J)) := pD hDo
      refine lv_iconst (v := 0) hx hb dX5_crash_31 (by decide) ?_
      refine lv_istore_n (lv' := [(3, .int 0), (0, .ref (v 0)), (1, .int xn), (2, .int xk)]) hx hb dX5_crash_32 rfl hl (by decide) rfl (fun ls hl => ?_)
      refine lv_iconst (v := 0) hx hb dX5_crash_33 (by decide) ?_
      refine lv_istore (lv' := [(4, .int 0), (3, .int 0), (0, .ref (v 0)), (1, .int xn), (2, .int xk)]) hx hb dX5_crash_34 hl (by decide) rfl (fun ls hl => ?_)
      refine wq_gen (fun Qz hQz => ?_)
      have hLP100159 : ∀ (n : Nat) (y100160 y100161 : Int32) (Ia100159 : Nat → Nat → Int32) (Qa100159 : Nat → Nat → Option Nat) (Ja100159 : Nat → Nat → Int32) (H : Heap) (locs : List Loc) (ls : Array Slot), (((4 : Int32)).toInt - y100160.toInt).toNat < n → 0 ≤ y100160.toInt → CT v L K N T Ia100159 Qa100159 → RS v I100158 Q J Ia100159 Qa100159 Ja100159 → va_P (dC, dI) vwCl (va_pl L (pF cy K N T Ia100159 Qa100159 Ja100159)) H → va_D A (va_pl L (pF cy K N T Ia100159 Qa100159 Ja100159)) → va_S A s.heap H locs → lv_has ls 6 [(4, .int y100160), (3, .int y100161), (0, .ref (v 0)), (1, .int xn), (2, .int xk)] → W p l e (headSpec wsX5_crash ({ frames := 4, cells := 0, slots := 0, locals := 90 })).room s m ([.ref (v 0), .int xn, .int xk] : List Value).toArray below meth c H locs 0 0 Qz (F0 m 36 ls []) := by
        intro n
        induction n with
        | zero => intro y100160 y100161 Ia100159 Qa100159 Ja100159 H locs ls hms; exact absurd hms (Nat.not_lt_zero _)
        | succ n ih =>
          intro y100160 y100161 Ia100159 Qa100159 Ja100159 H locs ls hms hnn100159 hC hR hP hD hS hl
          refine lv_iload hx hb dX5_crash_36 (lv_at hl 0 rfl) ?_
          refine lv_iconst (v := 4) hx hb dX5_crash_38 (by decide) ?_
          refine lv_icmp_ge (tgt := 86) hx hb dX5_crash_39 (by decide) (fun c100162 => ?_) (fun c100162 => ?_)
          · refine lv_iload_n hx hb dX5_crash_86 rfl (lv_at hl 1 rfl) ?_
            rw [hQz]
            exact W.iret (v := y100161) hx hb hr (fun t ht hW => ⟨⟨y100161, (Ia100159, Qa100159, Ja100159), rfl, ⟨⟨hC, by have h9 : Ia100159 (v 0) 3 = sp_ccu (I (v 0) 3) xn xk := (by show Ia100159 (v 0) 3 = _; rw [hR.1, hub, ev100156, ex100153, ev100155, ev100154]; unfold sp_ccu; rw [if_neg (fun q => c100150 (by rw [hr100149, ex100148]; exact q)), if_neg (by have k9 := c100151; rw [xk_le, xk_0] at k9; rw [xk_lt, xk_0]; omega)]); have h8 := (hR.1.trans hub).symm.trans h9; rw [← h8, ← eI100158]; exact hR⟩, trivial⟩, by rw [ht]; exact hP, va_K.moved hW.alike hK, hD⟩, hS.F ht⟩) hS.2.2 dX5_crash_87
          · refine lv_aload_n hx hb dX5_crash_42 rfl (lv_at hl 2 rfl) ?_
            obtain ⟨j100163, hj100163⟩ := pG_5 (cy := cy) (N := N) (T := T) (I := Ia100159) (Q := Qa100159) (J := Ja100159) (hC.at 0 (by decide)) (hC.k 0 (by decide) rfl)
            refine va_get (D := (dC, dI)) (ci := 5) (v := .ref (T (v 0) 0)) (C := RX5) (T := TX5) (N := 6) hx hb hts hi5 hown hK hP j100163 hj100163 rfl 0 (by decide) (hts (.fieldLink RX5 11 "TallyLogs" "partitions" "[LTallyLogs$Partition;") (by decide +kernel)) (fun _ h9 => h9) rfl dX5_crash_43 ?_
            refine W.eq (g2 := F0 m 46 ls [.ref (v 1)]) (by rw [hC.1.2.2.1.1]) ?_
            refine lv_iload hx hb dX5_crash_46 (lv_at hl 0 rfl) ?_
            obtain ⟨j100165, hj100165⟩ := pG_10 (cy := cy) (N := N) (T := T) (I := Ia100159) (Q := Qa100159) (J := Ja100159) (hC.at 1 (by decide)) (hC.k 1 (by decide) rfl)
            refine va_aldq hx hb hK hP j100165 3 hj100165 rfl (xin_of hnn100159 (by have kc := c100162; simp only [xk_lt, xk_le, xk_0, xk_1, xk_2, xk_3, xk_4, xk_5, xk_6, xk_7, xk_8, xk_50] at kc; omega)) dX5_crash_48 ?_
            cases hq100167 : Qa100159 (v 1) y100160.toNatClampNeg with
            | none =>
              refine W.eq (g2 := F0 m 49 ls [.null]) rfl ?_
              refine lv_astoreN (lv' := [(5, .null), (4, .int y100160), (3, .int y100161), (0, .ref (v 0)), (1, .int xn), (2, .int xk)]) hx hb dX5_crash_49 hl (by decide) rfl (fun ls hl => ?_)
              refine lv_aloadN hx hb dX5_crash_51 (lv_at hl 0 rfl) ?_
              refine lv_ifnullN (tgt := 80) hx hb dX5_crash_53 (by decide) ?_
              obtain ⟨v100168, ev100168⟩ : ∃ y : Int32, y = y100160 + Int32.ofInt 1 := ⟨_, rfl⟩
              refine lv_iinc (v := v100168) (lv' := [(4, .int v100168), (5, .null), (3, .int y100161), (0, .ref (v 0)), (1, .int xn), (2, .int xk)]) hx hb dX5_crash_80 hl (k := 1) rfl ev100168.symm (by decide) rfl (fun ls hl => ?_)
              refine lv_goto (tgt := 36) hx hb dX5_crash_83 (by decide) ?_
              exact ih _ _ _ _ _ _ _ _ (by have kc := c100162; simp only [xk_le, xk_lt] at kc; have h9 := xinc (x := y100160) (y := (4 : Int32)) (by rw [xk_lt]; omega); rw [ev100168, show y100160 + Int32.ofInt 1 = y100160 + 1 from rfl, h9]; omega) (by have kc := c100162; simp only [xk_le, xk_lt] at kc; have h9 := xinc (x := y100160) (y := (4 : Int32)) (by rw [xk_lt]; omega); rw [ev100168, show y100160 + Int32.ofInt 1 = y100160 + 1 from rfl, h9]; omega) hC hR hP hD hS (lv_sub hl [0, 2, 3, 4, 5] rfl)
            | some b100166 =>
              have hTb100166 := (hC.2.2.2.1 y100160.toNatClampNeg b100166 (vp_lt (xin_of hnn100159 (by have kc := c100162; simp only [xk_lt, xk_le, xk_0, xk_1, xk_2, xk_3, xk_4, xk_5, xk_6, xk_7, xk_8, xk_50] at kc; omega))) hq100167)
              refine W.eq (g2 := F0 m 49 ls [.ref b100166]) rfl ?_
              refine lv_astore (lv' := [(5, .ref b100166), (4, .int y100160), (3, .int y100161), (0, .ref (v 0)), (1, .int xn), (2, .int xk)]) hx hb dX5_crash_49 hl (by decide) rfl (fun ls hl => ?_)
              refine lv_aload hx hb dX5_crash_51 (lv_at hl 0 rfl) ?_
              refine lv_ifnull hx hb dX5_crash_53 ?_
              refine lv_aload hx hb dX5_crash_56 (lv_at hl 0 rfl) ?_
              refine lv_iload_n hx hb dX5_crash_58 rfl (lv_at hl 4 rfl) ?_
              refine lv_iload_n hx hb dX5_crash_59 rfl (lv_at hl 5 rfl) ?_
              obtain ⟨j100169, hj100169⟩ := pG_2 (cy := cy) (N := N) (T := T) (I := Ia100159) (Q := Qa100159) (J := Ja100159) hTb100166.1 hTb100166.2
              have hFc := pfree hD hS hA
              refine va_callv (va_runV (As := [.int xn, .int xk]) (rest := []) ⟨hx, hb, hml, hown, hts⟩ (c_X2_lose l dC dI cy v L K N T Ia100159 Qa100159 Ja100159 H.size b100166 xn xk hC hTb100166.1 hTb100166.2) (cwV 2 hts gX5_crash_X2_lose rfl rfl rfl (by decide +kernel) ⟨Nat.le_of_ble_eq_true rfl, Nat.le_of_ble_eq_true rfl⟩) ⟨pw_blind, va_recv hK hP (ci := 2) (q0 := j100169) rfl hj100169, fun U hU hW => ⟨rfl, pw_pre hP hK hN hD hU hW⟩⟩ rfl rfl hl.1 rfl (lv_room (Nat.le_of_ble_eq_true rfl)) dX5_crash_60 ⟨Nat.le_of_ble_eq_true rfl, Nat.le_of_ble_eq_true rfl⟩) hS (fun q _ h => hFc q h) hFc (fun d9 t H1 locs ht hvm hw hB hz1 hk1 hS => ?_)
              obtain ⟨I100170, Q100170, J100170⟩ := d9
              obtain ⟨hC, hR1⟩ := hw
              obtain ⟨hP, hK1, hD1⟩ := hB
              rw [ht] at hP
              have hD := hD1.weaken (fun _ _ _ h => hFc _ h)
              have hR := hR.trans hR1
              generalize H1 = H at hP hS ⊢
              have hP : va_P (dC, dI) vwCl (va_pl L (pF cy K N T I100170 Q100170 J100170)) H := hP
              have hD : va_D A (va_pl L (pF cy K N T I100170 Q100170 J100170)) := hD
              have hC : CT v L K N T I100170 Q100170 := hC
              have hR : RS v I100158 Q J I100170 Q100170 J100170 := hR
              refine lv_iload_n hx hb dX5_crash_63 rfl (lv_at hl 2 rfl) ?_
              refine lv_aload hx hb dX5_crash_64 (lv_at hl 0 rfl) ?_
              obtain ⟨j100172, hj100172⟩ := pG_2 (cy := cy) (N := N) (T := T) (I := I100170) (Q := Q100170) (J := J100170) hTb100166.1 hTb100166.2
              refine va_get (D := (dC, dI)) (ci := 2) (v := .int (I100170 b100166 3)) (C := RX2) (T := TX2) (N := 6) hx hb hts hi2 hown hK hP j100172 hj100172 rfl 3 (by decide) (hts (.fieldLink RX5 51 "TallyLogs$Partition" "leader" "I") (by decide +kernel)) (fun _ h9 => h9) rfl dX5_crash_66 ?_
              refine lv_topi (fun x100173 ex100173 => ?_)
              refine lv_iconst (v := (-1)) hx hb dX5_crash_69 (by decide) ?_
              refine lv_icmp_ne (tgt := 77) hx hb dX5_crash_70 (by decide) (fun c100174 => ?_) (fun c100174 => ?_)
              · refine lv_iconst (v := 0) hx hb dX5_crash_77 (by decide) ?_
                refine lv_iadd hx hb dX5_crash_78 ?_
                refine lv_topi (fun v100175 ev100175 => ?_)
                refine lv_istore_n (lv' := [(3, .int v100175), (5, .ref b100166), (4, .int y100160), (0, .ref (v 0)), (1, .int xn), (2, .int xk)]) hx hb dX5_crash_79 rfl hl (by decide) rfl (fun ls hl => ?_)
                obtain ⟨v100176, ev100176⟩ : ∃ y : Int32, y = y100160 + Int32.ofInt 1 := ⟨_, rfl⟩
                refine lv_iinc (v := v100176) (lv' := [(4, .int v100176), (3, .int v100175), (5, .ref b100166), (0, .ref (v 0)), (1, .int xn), (2, .int xk)]) hx hb dX5_crash_80 hl (k := 2) rfl ev100176.symm (by decide) rfl (fun ls hl => ?_)
                refine lv_goto (tgt := 36) hx hb dX5_crash_83 (by decide) ?_
                exact ih _ _ _ _ _ _ _ _ (by have kc := c100162; simp only [xk_le, xk_lt] at kc; have h9 := xinc (x := y100160) (y := (4 : Int32)) (by rw [xk_lt]; omega); rw [ev100176, show y100160 + Int32.ofInt 1 = y100160 + 1 from rfl, h9]; omega) (by have kc := c100162; simp only [xk_le, xk_lt] at kc; have h9 := xinc (x := y100160) (y := (4 : Int32)) (by rw [xk_lt]; omega); rw [ev100176, show y100160 + Int32.ofInt 1 = y100160 + 1 from rfl, h9]; omega) hC hR hP hD hS (lv_sub hl [0, 1, 3, 4, 5] rfl)
              · refine lv_iconst (v := 1) hx hb dX5_crash_73 (by decide) ?_
                refine lv_goto (tgt := 78) hx hb dX5_crash_74 (by decide) ?_
                refine lv_iadd hx hb dX5_crash_78 ?_
                refine lv_topi (fun v100177 ev100177 => ?_)
                refine lv_istore_n (lv' := [(3, .int v100177), (5, .ref b100166), (4, .int y100160), (0, .ref (v 0)), (1, .int xn), (2, .int xk)]) hx hb dX5_crash_79 rfl hl (by decide) rfl (fun ls hl => ?_)
                obtain ⟨v100178, ev100178⟩ : ∃ y : Int32, y = y100160 + Int32.ofInt 1 := ⟨_, rfl⟩
                refine lv_iinc (v := v100178) (lv' := [(4, .int v100178), (3, .int v100177), (5, .ref b100166), (0, .ref (v 0)), (1, .int xn), (2, .int xk)]) hx hb dX5_crash_80 hl (k := 2) rfl ev100178.symm (by decide) rfl (fun ls hl => ?_)
                refine lv_goto (tgt := 36) hx hb dX5_crash_83 (by decide) ?_
                exact ih _ _ _ _ _ _ _ _ (by have kc := c100162; simp only [xk_le, xk_lt] at kc; have h9 := xinc (x := y100160) (y := (4 : Int32)) (by rw [xk_lt]; omega); rw [ev100178, show y100160 + Int32.ofInt 1 = y100160 + 1 from rfl, h9]; omega) (by have kc := c100162; simp only [xk_le, xk_lt] at kc; have h9 := xinc (x := y100160) (y := (4 : Int32)) (by rw [xk_lt]; omega); rw [ev100178, show y100160 + Int32.ofInt 1 = y100160 + 1 from rfl, h9]; omega) hC hR hP hD hS (lv_sub hl [0, 1, 3, 4, 5] rfl)
      exact hLP100159 _ _ _ _ _ _ _ _ _ (Nat.lt_succ_self _) (by decide) hC hR hP hD hS (lv_sub hl [0, 1, 2, 3, 4] rfl)
    · refine lv_iconst (v := (-1)) hx hb dX5_crash_15 (by decide) ?_
      exact W.iret (v := (-1)) hx hb hr (fun t ht hW => ⟨⟨(-1), (I, Q, J), rfl, ⟨⟨hC, by have h9 : I (v 0) 3 = sp_ccu (I (v 0) 3) xn xk := (by show I (v 0) 3 = _; rw [hR.1]; unfold sp_ccu; rw [if_neg (fun q => c100150 (by rw [hr100149, ex100148]; exact q)), if_pos (by have k9 := c100151; rw [xk_le, xk_0] at k9; rw [xk_lt, xk_0]; omega)]); have h8 := hR.1.symm.trans h9; rw [← h8, p2_self]; exact hR⟩, trivial⟩, by rw [ht]; exact hP, va_K.moved hW.alike hK, hD⟩, hS.F ht⟩) hS.2.2 dX5_crash_16
set_option maxHeartbeats 4000000 in
set_option maxRecDepth 100000 in
/-- create: what is there -/
theorem e_X5_create (l : Launch) (dC : Nat → ClassId) (dI : Nat → Nat → Nat) (cy : Nat → ClassId) (v : Nat → Nat) (L : List Nat) (K N : Nat → Nat) (T : Nat → Nat → Nat) (I : Nat → Nat → Int32) (Q : Nat → Nat → Option Nat) (J : Nat → Nat → Int32) (sz : Nat) (xp xr xm : Int32) (hC : CT v L K N T I Q) : Met l yX5_create wsX5_create ({ frames := 3, cells := 12, slots := 346, locals := 67 }) (va_Pc [.ref (v 0), .int xp, .int xr, .int xm] (pW dC dI cy L (pF cy K N T I Q J) sz)) (va_Qi (fun (r : Int32) (d : List Nat × (Nat → Nat) × (Nat → Nat → Nat) × (Nat → Nat → Int32) × (Nat → Nat → Option Nat) × (Nat → Nat → Int32)) => (CT v d.1 d.2.1 N d.2.2.1 d.2.2.2.1 d.2.2.2.2.1 ∧ (∃ y : Nat, RS v I (if sp_ck (I (v 0) 3) (oN (Q (v 1) xp.toNatClampNeg)) xp xr xm then p2 Q (v 1) xp.toNatClampNeg (some y) else Q) J d.2.2.2.1 d.2.2.2.2.1 d.2.2.2.2.2) ∧ PX L K N T d.1 d.2.1 N d.2.2.1) ∧ True) (fun (d : List Nat × (Nat → Nat) × (Nat → Nat → Nat) × (Nat → Nat → Int32) × (Nat → Nat → Option Nat) × (Nat → Nat → Int32)) t => va_P (dC, dI) vwCl (va_pl d.1 (pF cy d.2.1 N d.2.2.1 d.2.2.2.1 d.2.2.2.2.1 d.2.2.2.2.2)) t.heap ∧ va_K (dC, dI) vwCl (pTy cy) t ∧ va_D (va_A (va_pl L (pF cy K N T I Q J)) sz) (va_pl d.1 (pF cy d.2.1 N d.2.2.1 d.2.2.2.1 d.2.2.2.2.1 d.2.2.2.2.2))) (va_A (va_pl L (pF cy K N T I Q J)) sz)) 12 346 (va_A (va_pl L (pF cy K N T I Q J)) sz) := by
  refine Met.ofW (cc := cX5_create) (maxL := 6) (ret := (some .int)) (by decide) rfl ?_
  intro p e s m args below meth c s₁ B hml hv
  obtain ⟨rfl, hsz, ⟨hP, hK, hN⟩, hD0⟩ := hv
  have hx := B.exec
  have hb := B.bytes
  have hr := B.returns
  have hts := atoms_spec (ws := wsX5_create) B.pre
  have hown : s.vm.findClass RX5 = some m.cls := findClass_of_methodNamed B.named
  have hlocks := B.notSynchronized
  have hi5 : ∀ w ∈ wsX50, w ∈ wsX5_create := by decide +kernel
  have hi2 : ∀ w ∈ wsX20, w ∈ wsX5_create := by decide +kernel
  have hl := lv_entry ([.ref (v 0), .int xp, .int xr, .int xm]) (n := 6) (Nat.le_of_ble_eq_true rfl)
  rw [lg_entry_eq]
  generalize (lg_sl ([.ref (v 0), .int xp, .int xr, .int xm]) ++ List.replicate (6 - (lg_sl ([.ref (v 0), .int xp, .int xr, .int xm])).length) Slot.unset).toArray = ls at hl ⊢
  have hl : lv_has ls 6 [(0, .ref (v 0)), (1, .int xp), (2, .int xr), (3, .int xm)] := hl
  subst hsz
  have hD := hD0.self (sz := s.heap.size)
  generalize hAe : va_A (va_pl L (pF cy K N T I Q J)) s.heap.size = A at hD ⊢
  have hA : ∀ q : Nat, s.heap.size ≤ q → A q := fun q h => by rw [← hAe]; exact Or.inr h
  have hS : va_S A s.heap s.heap [] := va_S.rf
  have hR : RS v I Q J I Q J := RS.rf
  have hX : PX L K N T L K N T := PX.rf
  have hn28 := hN.1
  have hn30 := hN.2.1
  have hn37 := hN.2.2.1
  refine wq_gen (fun Qz hQz => ?_)
  refine lv_iload_n hx hb dX5_create_0 rfl (lv_at hl 2 rfl) ?_
  refine lv_bipush (v := 31) hx hb dX5_create_1 (by decide) ?_
  refine lv_iand hx hb dX5_create_3 ?_
  refine lv_topi (fun v100179 ev100179 => ?_)
  refine lv_istore (lv' := [(4, .int v100179), (0, .ref (v 0)), (1, .int xp), (2, .int xr), (3, .int xm)]) hx hb dX5_create_4 hl (by decide) rfl (fun ls hl => ?_)
  refine lv_iload_n hx hb dX5_create_6 rfl (lv_at hl 2 rfl) ?_
  refine lv_if_lt (tgt := 24) hx hb dX5_create_7 (by decide) (fun c100180 => ?_) (fun c100180 => ?_)
  · refine lv_iconst (v := (-1)) hx hb dX5_create_24 (by decide) ?_
    rw [hQz]
    refine W.widen (k := 12) (n := 346) (by omega) (by omega) ?_
    exact W.iret (v := (-1)) hx hb hr (fun t ht hW => ⟨⟨(-1), (L, K, T, I, Q, J), rfl, ⟨⟨hC, ⟨0, by show RS v I (if sp_ck (I (v 0) 3) (oN (Q (v 1) xp.toNatClampNeg)) xp xr xm then p2 Q (v 1) xp.toNatClampNeg (some 0) else Q) J I Q J; have kc100180 := c100180; simp only [xk_lt, xk_le, xk_0, xk_1, xk_2, xk_3, xk_4, xk_5, xk_6, xk_7, xk_8, xk_50] at kc100180; rw [if_neg (fun q => by omega)]; exact hR⟩, hX⟩, trivial⟩, by rw [ht]; exact hP, va_K.moved hW.alike hK, hD⟩, hS.F ht⟩) hS.2.2 dX5_create_25
  · refine lv_iload_n hx hb dX5_create_10 rfl (lv_at hl 2 rfl) ?_
    refine lv_iconst (v := 4) hx hb dX5_create_11 (by decide) ?_
    refine lv_icmp_ge (tgt := 24) hx hb dX5_create_12 (by decide) (fun c100181 => ?_) (fun c100181 => ?_)
    · refine lv_iconst (v := (-1)) hx hb dX5_create_24 (by decide) ?_
      rw [hQz]
      refine W.widen (k := 12) (n := 346) (by omega) (by omega) ?_
      exact W.iret (v := (-1)) hx hb hr (fun t ht hW => ⟨⟨(-1), (L, K, T, I, Q, J), rfl, ⟨⟨hC, ⟨0, by show RS v I (if sp_ck (I (v 0) 3) (oN (Q (v 1) xp.toNatClampNeg)) xp xr xm then p2 Q (v 1) xp.toNatClampNeg (some 0) else Q) J I Q J; have kc100180 := c100180; have kc100181 := c100181; simp only [xk_lt, xk_le, xk_0, xk_1, xk_2, xk_3, xk_4, xk_5, xk_6, xk_7, xk_8, xk_50] at kc100180 kc100181; rw [if_neg (fun q => by omega)]; exact hR⟩, hX⟩, trivial⟩, by rw [ht]; exact hP, va_K.moved hW.alike hK, hD⟩, hS.F ht⟩) hS.2.2 dX5_create_25
    · refine lv_aload_n hx hb dX5_create_15 rfl (lv_at hl 1 rfl) ?_
      obtain ⟨j100182, hj100182⟩ := pG_5 (cy := cy) (N := N) (T := T) (I := I) (Q := Q) (J := J) (hC.at 0 (by decide)) (hC.k 0 (by decide) rfl)
      refine va_get (D := (dC, dI)) (ci := 5) (v := .ref (T (v 0) 0)) (C := RX5) (T := TX5) (N := 6) hx hb hts hi5 hown hK hP j100182 hj100182 rfl 0 (by decide) (hts (.fieldLink RX5 11 "TallyLogs" "partitions" "[LTallyLogs$Partition;") (by decide +kernel)) (fun _ h9 => h9) rfl dX5_create_16 ?_
      refine W.eq (g2 := F0 m 19 ls [.ref (v 1)]) (by rw [hC.1.2.2.1.1]) ?_
      refine lv_iload_n hx hb dX5_create_19 rfl (lv_at hl 2 rfl) ?_
      have hin100184 : vp_in xp 4 := xin_of (by have kc100180 := c100180; have kc100181 := c100181; simp only [xk_lt, xk_le, xk_0, xk_1, xk_2, xk_3, xk_4, xk_5, xk_6, xk_7, xk_8, xk_50] at kc100180 kc100181; omega) (by have kc100180 := c100180; have kc100181 := c100181; simp only [xk_lt, xk_le, xk_0, xk_1, xk_2, xk_3, xk_4, xk_5, xk_6, xk_7, xk_8, xk_50] at kc100180 kc100181; omega)
      obtain ⟨j100185, hj100185⟩ := pG_10 (cy := cy) (N := N) (T := T) (I := I) (Q := Q) (J := J) (hC.at 1 (by decide)) (hC.k 1 (by decide) rfl)
      refine va_aldq hx hb hK hP j100185 3 hj100185 rfl hin100184 dX5_create_20 ?_
      cases hq100187 : Q (v 1) xp.toNatClampNeg with
      | none =>
        refine W.eq (g2 := F0 m 21 ls [.null]) rfl ?_
        refine lv_ifnullN (tgt := 26) hx hb dX5_create_21 (by decide) ?_
        refine lv_iload_n hx hb dX5_create_26 rfl (lv_at hl 4 rfl) ?_
        refine lv_iconst (v := 1) hx hb dX5_create_27 (by decide) ?_
        refine lv_icmp_lt (tgt := 40) hx hb dX5_create_28 (by decide) (fun c100188 => ?_) (fun c100188 => ?_)
        · refine lv_iconst (v := (-1)) hx hb dX5_create_40 (by decide) ?_
          rw [hQz]
          refine W.widen (k := 12) (n := 346) (by omega) (by omega) ?_
          exact W.iret (v := (-1)) hx hb hr (fun t ht hW => ⟨⟨(-1), (L, K, T, I, Q, J), rfl, ⟨⟨hC, ⟨0, by show RS v I (if sp_ck (I (v 0) 3) (oN (Q (v 1) xp.toNatClampNeg)) xp xr xm then p2 Q (v 1) xp.toNatClampNeg (some 0) else Q) J I Q J; have kc100180 := c100180; have kc100181 := c100181; have kc100188 := c100188; simp only [xk_lt, xk_le, xk_0, xk_1, xk_2, xk_3, xk_4, xk_5, xk_6, xk_7, xk_8, xk_50] at kc100180 kc100181 kc100188; rw [if_neg (fun q => by omega)]; exact hR⟩, hX⟩, trivial⟩, by rw [ht]; exact hP, va_K.moved hW.alike hK, hD⟩, hS.F ht⟩) hS.2.2 dX5_create_41
        · refine lv_iload_n hx hb dX5_create_31 rfl (lv_at hl 4 rfl) ?_
          refine lv_iload hx hb dX5_create_32 (lv_at hl 0 rfl) ?_
          refine vp_callSi (W.runS (As := [.int v100179]) (rest := [.int xm]) ⟨hx, hb, hml, hown, hts⟩ (c_J6_bitCount_0f7a4 l v100179) (va_cwS 1 hts gX5_create_J6_bitCount_0f7a4 rfl rfl rfl (by decide +kernel) ⟨Nat.le_of_ble_eq_true rfl, Nat.le_of_ble_eq_true rfl⟩) preEq rfl rfl hl.1 rfl (lv_room (Nat.le_of_ble_eq_true rfl)) dX5_create_34 ⟨Nat.le_of_ble_eq_true rfl, Nat.le_of_ble_eq_true rfl⟩) (fun r100189 hr100189 => ?_)
          refine lv_icmp_le (tgt := 42) hx hb dX5_create_37 (by decide) (fun c100190 => ?_) (fun c100190 => ?_)
          · refine lv_iload hx hb dX5_create_42 (lv_at hl 0 rfl) ?_
            refine lv_aload_n hx hb dX5_create_44 rfl (lv_at hl 1 rfl) ?_
            obtain ⟨j100191, hj100191⟩ := pG_5 (cy := cy) (N := N) (T := T) (I := I) (Q := Q) (J := J) (hC.at 0 (by decide)) (hC.k 0 (by decide) rfl)
            refine va_get (D := (dC, dI)) (ci := 5) (v := .int (I (v 0) 3)) (C := RX5) (T := TX5) (N := 6) hx hb hts hi5 hown hK hP j100191 hj100191 rfl 3 (by decide) (hts (.fieldLink RX5 27 "TallyLogs" "up" "I") (by decide +kernel)) (fun _ h9 => h9) rfl dX5_create_45 ?_
            refine lv_topi (fun x100192 ex100192 => ?_)
            refine lv_iand hx hb dX5_create_48 ?_
            refine lv_topi (fun v100193 ev100193 => ?_)
            refine lv_if_ne (tgt := 55) hx hb dX5_create_49 (by decide) (fun c100194 => ?_) (fun c100194 => ?_)
            · refine va_new (ci := 2) (fs := [.int 0, .int 0, .null, .int 0, .int 0, .int 0]) (C := RX2) (T := TX2) (N := 6) hx hb hts hi2 tyX2 tyX2_ok hown (hts (.classLink RX5 9 RX2) (by decide +kernel)) (hts (.instantiable RX2 6) (by decide +kernel)) (hts (.initialized RX2) (by decide +kernel)) hK hP hD hS hA rfl (fun j hj => by rcases (show j = 0 ∨ j = 1 ∨ j = 2 ∨ j = 3 ∨ j = 4 ∨ j = 5 by omega) with rfl | rfl | rfl | rfl | rfl | rfl <;> rfl) (Nat.le_of_ble_eq_true rfl) (Nat.le_of_ble_eq_true rfl) dX5_create_55 (fun q100195 H hP hD hS => ?_)
              refine W.widen (k := 1) (n := 6) (by omega) (by omega) ?_
              have hP := va_P.swap (a := []) hP
              have hD := va_D.swap (a := []) hD
              have hP : va_P (dC, dI) vwCl ((q100195, .inr (2, [.int 0, .int 0, .null, .int 0, .int 0, .int 0])) :: va_pl L (pF cy K N T I Q J)) H := hP
              have hD : va_D A ((q100195, .inr (2, [.int 0, .int 0, .null, .int 0, .int 0, .int 0])) :: va_pl L (pF cy K N T I Q J)) := hD
              refine lv_dup hx hb dX5_create_58 rfl ?_
              refine lv_iload hx hb dX5_create_59 (lv_at hl 0 rfl) ?_
              refine lv_iload hx hb dX5_create_61 (lv_at hl 0 rfl) ?_
              refine lv_aload_n hx hb dX5_create_63 rfl (lv_at hl 1 rfl) ?_
              obtain ⟨j100196, hj100196⟩ := pG_5 (cy := cy) (N := N) (T := T) (I := I) (Q := Q) (J := J) (hC.at 0 (by decide)) (hC.k 0 (by decide) rfl)
              obtain ⟨j100197, hj100197⟩ := xcons_at (x := (q100195, .inr (2, [.int 0, .int 0, .null, .int 0, .int 0, .int 0]))) hj100196
              refine va_get (D := (dC, dI)) (ci := 5) (v := .int (I (v 0) 3)) (C := RX5) (T := TX5) (N := 6) hx hb hts hi5 hown hK hP j100197 hj100197 rfl 3 (by decide) (hts (.fieldLink RX5 27 "TallyLogs" "up" "I") (by decide +kernel)) (fun _ h9 => h9) rfl dX5_create_64 ?_
              refine lv_topi (fun x100198 ex100198 => ?_)
              refine lv_iand hx hb dX5_create_67 ?_
              refine lv_topi (fun v100199 ev100199 => ?_)
              refine lv_iload_n hx hb dX5_create_68 rfl (lv_at hl 4 rfl) ?_
              refine lv_aload_n hx hb dX5_create_69 rfl (lv_at hl 1 rfl) ?_
              obtain ⟨j100200, hj100200⟩ := pG_5 (cy := cy) (N := N) (T := T) (I := I) (Q := Q) (J := J) (hC.at 0 (by decide)) (hC.k 0 (by decide) rfl)
              obtain ⟨j100201, hj100201⟩ := xcons_at (x := (q100195, .inr (2, [.int 0, .int 0, .null, .int 0, .int 0, .int 0]))) hj100200
              refine va_get (D := (dC, dI)) (ci := 5) (v := .int (I (v 0) 4)) (C := RX5) (T := TX5) (N := 6) hx hb hts hi5 hown hK hP j100201 hj100201 rfl 4 (by decide) (hts (.fieldLink RX5 31 "TallyLogs" "now" "I") (by decide +kernel)) (fun _ h9 => h9) rfl dX5_create_70 ?_
              refine lv_topi (fun x100202 ex100202 => ?_)
              have hFc := pfree hD hS hA
              refine va_callv (va_runI (As := [.int v100179, .int v100199, .int xm, .int x100202]) (rest := [.ref q100195]) ⟨hx, hb, hml, hown, hts⟩ (c_X2_init l dC dI cy v L K N T I Q J H.size q100195 v100179 v100199 xm x100202 hC) (cwI 4 hts gX5_create_X2_init rfl rfl rfl (hts (.initialized RX2) (by decide +kernel)) (hts (.methodLink RX5 48 yX2_init) (by decide +kernel)) (hts (.instanceMethod yX2_init) (by decide +kernel)) rfl (by decide +kernel) ⟨Nat.le_of_ble_eq_true rfl, Nat.le_of_ble_eq_true rfl⟩) ⟨pw1_blind, fun U hU hW => ⟨rfl, pw1_pre hP hK hN hD hU hW⟩⟩ rfl rfl hl.1 rfl (lv_room (Nat.le_of_ble_eq_true rfl)) dX5_create_73 ⟨Nat.le_of_ble_eq_true rfl, Nat.le_of_ble_eq_true rfl⟩) hS (fun q _ h => hFc q h) hFc (fun d9 t H1 locs ht hvm hw hB hz1 hk1 hS => ?_)
              obtain ⟨L, K, T, I100203, Q100203, J100203⟩ := d9
              obtain ⟨⟨hC, hR1, hXe⟩, hL100203, hk100203⟩ := hw
              obtain ⟨hP, hK1, hD1⟩ := hB
              rw [ht] at hP
              have hD := hD1.weaken (fun _ _ _ h => hFc _ h)
              have hR := hR.trans hR1
              generalize H1 = H at hP hS ⊢
              have hP : va_P (dC, dI) vwCl (va_pl L (pF cy K N T I100203 Q100203 J100203)) H := hP
              have hD : va_D A (va_pl L (pF cy K N T I100203 Q100203 J100203)) := hD
              have hC : CT v L K N T I100203 Q100203 := hC
              have hR : RS v I Q J I100203 Q100203 J100203 := hR
              have hX := hX.trans hXe
              refine W.widen (k := 12) (n := 346) (by omega) (by omega) ?_
              refine lv_astore (lv' := [(5, .ref q100195), (4, .int v100179), (0, .ref (v 0)), (1, .int xp), (2, .int xr), (3, .int xm)]) hx hb dX5_create_76 hl (by decide) rfl (fun ls hl => ?_)
              refine lv_aload_n hx hb dX5_create_78 rfl (lv_at hl 2 rfl) ?_
              obtain ⟨j100204, hj100204⟩ := pG_5 (cy := cy) (N := N) (T := T) (I := I100203) (Q := Q100203) (J := J100203) (hC.at 0 (by decide)) (hC.k 0 (by decide) rfl)
              refine va_get (D := (dC, dI)) (ci := 5) (v := .ref (T (v 0) 0)) (C := RX5) (T := TX5) (N := 6) hx hb hts hi5 hown hK hP j100204 hj100204 rfl 0 (by decide) (hts (.fieldLink RX5 11 "TallyLogs" "partitions" "[LTallyLogs$Partition;") (by decide +kernel)) (fun _ h9 => h9) rfl dX5_create_79 ?_
              refine W.eq (g2 := F0 m 82 ls [.ref (v 1)]) (by rw [hC.1.2.2.1.1]) ?_
              refine lv_iload_n hx hb dX5_create_82 rfl (lv_at hl 3 rfl) ?_
              refine lv_aload hx hb dX5_create_83 (lv_at hl 0 rfl) ?_
              obtain ⟨j100206, hj100206⟩ := pG_10 (cy := cy) (N := N) (T := T) (I := I100203) (Q := Q100203) (J := J100203) (hC.at 1 (by decide)) (hC.k 1 (by decide) rfl)
              have hDo := hD
              obtain ⟨j100207, hj100207⟩ := pG_2 (cy := cy) (N := N) (T := T) (I := I100203) (Q := Q100203) (J := J100203) hL100203 hk100203
              refine va_astq hx hb hK hP hD hS j100206 3 j100207 2 hj100206 rfl hj100207 rfl hin100184 dX5_create_85 (fun H locs hP hD hS => ?_)
              have hP := Eq.mp (congrArg (fun w => va_P (dC, dI) vwCl w H) (pS_10 (x := (some q100195)) hDo (hC.at 1 (by decide)) (hC.k 1 (by decide) rfl) hj100206)) hP
              obtain ⟨Q100208, eQ100208⟩ : ∃ z, z = p2 Q100203 (v 1) (xp.toNatClampNeg) (some q100195) := ⟨_, rfl⟩
              rw [← eQ100208] at hP
              have hR : RS v I (p2 Q (v 1) (xp.toNatClampNeg) (some q100195)) J I100203 Q100208 J100203 := by rw [eQ100208]; exact hR.q10
              have hC : CT v L K N T I100203 Q100208 := by rw [eQ100208]; exact hC.q10 (fun b hb => by cases hb; exact ⟨hL100203, hk100203⟩)
              have hD : va_D A (va_pl L (pF cy K N T I100203 Q100208 J100203)) := pD hDo
              refine lv_aload hx hb dX5_create_86 (lv_at hl 0 rfl) ?_
              obtain ⟨j100209, hj100209⟩ := pG_2 (cy := cy) (N := N) (T := T) (I := I100203) (Q := Q100208) (J := J100203) hL100203 hk100203
              refine va_get (D := (dC, dI)) (ci := 2) (v := .int (I100203 q100195 3)) (C := RX2) (T := TX2) (N := 6) hx hb hts hi2 hown hK hP j100209 hj100209 rfl 3 (by decide) (hts (.fieldLink RX5 51 "TallyLogs$Partition" "leader" "I") (by decide +kernel)) (fun _ h9 => h9) rfl dX5_create_88 ?_
              refine lv_topi (fun x100210 ex100210 => ?_)
              rw [hQz]
              refine W.widen (k := 12) (n := 346) (by omega) (by omega) ?_
              exact W.iret (v := x100210) hx hb hr (fun t ht hW => ⟨⟨x100210, (L, K, T, I100203, Q100208, J100203), rfl, ⟨⟨hC, ⟨q100195, by show RS v I (if sp_ck (I (v 0) 3) (oN (Q (v 1) xp.toNatClampNeg)) xp xr xm then p2 Q (v 1) xp.toNatClampNeg (some q100195) else Q) J I100203 Q100208 J100203; have kc100180 := c100180; have kc100181 := c100181; have kc100188 := c100188; simp only [xk_lt, xk_le, xk_0, xk_1, xk_2, xk_3, xk_4, xk_5, xk_6, xk_7, xk_8, xk_50] at kc100180 kc100181 kc100188; rw [if_pos ⟨by omega, by rw [hq100187]; rfl, ⟨by omega, by have k9 := c100190; rw [xk_le, hr100189, ev100179] at k9; exact k9⟩, fun q => c100194 (by rw [ev100193, ev100179, ex100192]; exact q)⟩]; exact hR⟩, hX⟩, trivial⟩, by rw [ht]; exact hP, va_K.moved hW.alike hK, hD⟩, hS.F ht⟩) hS.2.2 dX5_create_91
            · refine lv_bipush (v := (-2)) hx hb dX5_create_52 (by decide) ?_
              rw [hQz]
              refine W.widen (k := 12) (n := 346) (by omega) (by omega) ?_
              exact W.iret (v := (-2)) hx hb hr (fun t ht hW => ⟨⟨(-2), (L, K, T, I, Q, J), rfl, ⟨⟨hC, ⟨0, by show RS v I (if sp_ck (I (v 0) 3) (oN (Q (v 1) xp.toNatClampNeg)) xp xr xm then p2 Q (v 1) xp.toNatClampNeg (some 0) else Q) J I Q J; rw [if_neg (fun q => q.2.2.2 (by rw [← ex100192, ← ev100179, ← ev100193]; exact c100194))]; exact hR⟩, hX⟩, trivial⟩, by rw [ht]; exact hP, va_K.moved hW.alike hK, hD⟩, hS.F ht⟩) hS.2.2 dX5_create_54
          · refine lv_iconst (v := (-1)) hx hb dX5_create_40 (by decide) ?_
            rw [hQz]
            refine W.widen (k := 12) (n := 346) (by omega) (by omega) ?_
            exact W.iret (v := (-1)) hx hb hr (fun t ht hW => ⟨⟨(-1), (L, K, T, I, Q, J), rfl, ⟨⟨hC, ⟨0, by show RS v I (if sp_ck (I (v 0) 3) (oN (Q (v 1) xp.toNatClampNeg)) xp xr xm then p2 Q (v 1) xp.toNatClampNeg (some 0) else Q) J I Q J; rw [if_neg (fun q => by have k9 := c100190; rw [xk_le, hr100189, ev100179] at k9; exact k9 q.2.2.1.2)]; exact hR⟩, hX⟩, trivial⟩, by rw [ht]; exact hP, va_K.moved hW.alike hK, hD⟩, hS.F ht⟩) hS.2.2 dX5_create_41
      | some b100186 =>
        have hTb100186 := (hC.2.2.2.1 xp.toNatClampNeg b100186 (vp_lt hin100184) hq100187)
        refine W.eq (g2 := F0 m 21 ls [.ref b100186]) rfl ?_
        refine lv_ifnull hx hb dX5_create_21 ?_
        refine lv_iconst (v := (-1)) hx hb dX5_create_24 (by decide) ?_
        rw [hQz]
        refine W.widen (k := 12) (n := 346) (by omega) (by omega) ?_
        exact W.iret (v := (-1)) hx hb hr (fun t ht hW => ⟨⟨(-1), (L, K, T, I, Q, J), rfl, ⟨⟨hC, ⟨0, by show RS v I (if sp_ck (I (v 0) 3) (oN (Q (v 1) xp.toNatClampNeg)) xp xr xm then p2 Q (v 1) xp.toNatClampNeg (some 0) else Q) J I Q J; rw [if_neg (fun q => by have q := oN_0.mp q.2.1; rw [hq100187] at q; cases q)]; exact hR⟩, hX⟩, trivial⟩, by rw [ht]; exact hP, va_K.moved hW.alike hK, hD⟩, hS.F ht⟩) hS.2.2 dX5_create_25
