theorem xcons_at {x : Nat × va_E} {ws : va_W} {j : Nat} {e : Nat × va_E} (h : ws[j]? = some e) : ∃ k : Nat, (x :: ws)[k]? = some e := ⟨j + 1, h⟩
set_option maxHeartbeats 4000000 in
set_option maxRecDepth 100000 in
/-- restart -/
theorem c_X5_restart (l : Launch) (dC : Nat → ClassId) (dI : Nat → Nat → Nat) (cy : Nat → ClassId) (v : Nat → Nat) (L : List Nat) (K N : Nat → Nat) (T : Nat → Nat → Nat) (I : Nat → Nat → Int32) (Q : Nat → Nat → Option Nat) (J : Nat → Nat → Int32) (sz : Nat) (xn : Int32) (hC : CT v L K N T I Q) : Met l yX5_restart wsX5_restart ({ frames := 2, cells := 0, slots := 0, locals := 44 }) (va_Pc [.ref (v 0), .int xn] (pW dC dI cy L (pF cy K N T I Q J) sz)) (va_Qi (fun (r : Int32) (d : (Nat → Nat → Int32) × (Nat → Nat → Option Nat) × (Nat → Nat → Int32)) => (CT v L K N T d.1 d.2.1 ∧ d.1 (v 0) 3 = sp_rc (I (v 0) 3) xn) ∧ r = sp_rcr (I (v 0) 3) xn) (fun (d : (Nat → Nat → Int32) × (Nat → Nat → Option Nat) × (Nat → Nat → Int32)) t => va_P (dC, dI) vwCl (va_pl L (pF cy K N T d.1 d.2.1 d.2.2)) t.heap ∧ va_K (dC, dI) vwCl (pTy cy) t ∧ va_D (va_A (va_pl L (pF cy K N T I Q J)) sz) (va_pl L (pF cy K N T d.1 d.2.1 d.2.2))) (va_A (va_pl L (pF cy K N T I Q J)) sz)) 0 0 (va_A (va_pl L (pF cy K N T I Q J)) sz) := by
  refine Met.ofW (cc := cX5_restart) (maxL := 4) (ret := (some .int)) (by decide) rfl ?_
  intro p e s m args below meth c s₁ B hml hv
  obtain ⟨rfl, hsz, ⟨hP, hK, hN⟩, hD0⟩ := hv
  have hx := B.exec
  have hb := B.bytes
  have hr := B.returns
  have hts := atoms_spec (ws := wsX5_restart) B.pre
  have hown : s.vm.findClass RX5 = some m.cls := findClass_of_methodNamed B.named
  have hlocks := B.notSynchronized
  have hi5 : ∀ w ∈ wsX50, w ∈ wsX5_restart := by decide +kernel
  have hi4 : ∀ w ∈ wsX40, w ∈ wsX5_restart := by decide +kernel
  have hl := lv_entry ([.ref (v 0), .int xn]) (n := 4) (Nat.le_of_ble_eq_true rfl)
  rw [lg_entry_eq]
  generalize (lg_sl ([.ref (v 0), .int xn]) ++ List.replicate (4 - (lg_sl ([.ref (v 0), .int xn])).length) Slot.unset).toArray = ls at hl ⊢
  have hl : lv_has ls 4 [(0, .ref (v 0)), (1, .int xn)] := hl
  subst hsz
  have hD := hD0.self (sz := s.heap.size)
  generalize hAe : va_A (va_pl L (pF cy K N T I Q J)) s.heap.size = A at hD ⊢
  have hA : ∀ q : Nat, s.heap.size ≤ q → A q := fun q h => by rw [← hAe]; exact Or.inr h
  have hS : va_S A s.heap s.heap [] := va_S.rf
  have hR : RS v I Q J I Q J := RS.rf
  have hn28 := hN.1
  have hn30 := hN.2.1
  have hn37 := hN.2.2.1
  refine lv_iload_n hx hb dX5_restart_0 rfl (lv_at hl 1 rfl) ?_
  refine lv_if_lt (tgt := 20) hx hb dX5_restart_1 (by decide) (fun c1534 => ?_) (fun c1534 => ?_)
  · refine lv_iconst (v := (-1)) hx hb dX5_restart_20 (by decide) ?_
    exact W.iret (v := (-1)) hx hb hr (fun t ht hW => ⟨⟨(-1), (I, Q, J), rfl, ⟨⟨hC, (by show I (v 0) 3 = _; rw [hR.1]; have kc1534 := c1534; simp only [xk_eq, Int32.toInt_toInt64, xk_lt, xk_le, xk_0, xk_1, xk_2, xk_3, xk_4, xk_5, xk_6, xk_7, xk_8, xk_50, xl_0, xl_1, xl_3, xl_4, xl_5, xl_6, xl_7, xl_50] at kc1534; unfold sp_rc; rw [if_neg (fun q => by omega)])⟩, (by show _ = _; have kc1534 := c1534; simp only [xk_eq, Int32.toInt_toInt64, xk_lt, xk_le, xk_0, xk_1, xk_2, xk_3, xk_4, xk_5, xk_6, xk_7, xk_8, xk_50, xl_0, xl_1, xl_3, xl_4, xl_5, xl_6, xl_7, xl_50] at kc1534; unfold sp_rcr; rw [if_neg (fun q => by omega)])⟩, by rw [ht]; exact hP, va_K.moved hW.alike hK, hD⟩, hS.F ht⟩) hS.2.2 dX5_restart_21
  · refine lv_iload_n hx hb dX5_restart_4 rfl (lv_at hl 1 rfl) ?_
    refine lv_iconst (v := 5) hx hb dX5_restart_5 (by decide) ?_
    refine lv_icmp_ge (tgt := 20) hx hb dX5_restart_6 (by decide) (fun c1535 => ?_) (fun c1535 => ?_)
    · refine lv_iconst (v := (-1)) hx hb dX5_restart_20 (by decide) ?_
      exact W.iret (v := (-1)) hx hb hr (fun t ht hW => ⟨⟨(-1), (I, Q, J), rfl, ⟨⟨hC, (by show I (v 0) 3 = _; rw [hR.1]; have kc1534 := c1534; have kc1535 := c1535; simp only [xk_eq, Int32.toInt_toInt64, xk_lt, xk_le, xk_0, xk_1, xk_2, xk_3, xk_4, xk_5, xk_6, xk_7, xk_8, xk_50, xl_0, xl_1, xl_3, xl_4, xl_5, xl_6, xl_7, xl_50] at kc1534 kc1535; unfold sp_rc; rw [if_neg (fun q => by omega)])⟩, (by show _ = _; have kc1534 := c1534; have kc1535 := c1535; simp only [xk_eq, Int32.toInt_toInt64, xk_lt, xk_le, xk_0, xk_1, xk_2, xk_3, xk_4, xk_5, xk_6, xk_7, xk_8, xk_50, xl_0, xl_1, xl_3, xl_4, xl_5, xl_6, xl_7, xl_50] at kc1534 kc1535; unfold sp_rcr; rw [if_neg (fun q => by omega)])⟩, by rw [ht]; exact hP, va_K.moved hW.alike hK, hD⟩, hS.F ht⟩) hS.2.2 dX5_restart_21
    · refine lv_aload_n hx hb dX5_restart_9 rfl (lv_at hl 0 rfl) ?_
      obtain ⟨j1536, hj1536⟩ := pG_5 (cy := cy) (N := N) (T := T) (I := I) (Q := Q) (J := J) (hC.at 0 (by decide)) (hC.k 0 (by decide) rfl)
      refine va_get (D := (dC, dI)) (ci := 5) (v := .int (I (v 0) 3)) (C := RX5) (T := TX5) (N := 6) hx hb hts hi5 hown hK hP j1536 hj1536 rfl 3 (by decide) (hts (.fieldLink RX5 27 "TallyLogs" "up" "I") (by decide +kernel)) (fun _ h9 => h9) rfl dX5_restart_10 ?_
      refine lv_topi (fun x1537 ex1537 => ?_)
      refine lv_iload_n hx hb dX5_restart_13 rfl (lv_at hl 1 rfl) ?_
      refine vp_callSi (W.runS (As := [.int x1537, .int xn]) (rest := []) ⟨hx, hb, hml, hown, hts⟩ (c_X5_contains l x1537 xn) (va_cwS 2 hts gX5_restart_X5_contains rfl rfl rfl (by decide +kernel) ⟨Nat.le_of_ble_eq_true rfl, Nat.le_of_ble_eq_true rfl⟩) preEq rfl rfl hl.1 rfl (lv_room (Nat.le_of_ble_eq_true rfl)) dX5_restart_14 ⟨Nat.le_of_ble_eq_true rfl, Nat.le_of_ble_eq_true rfl⟩) (fun r1538 hr1538 => ?_)
      refine lv_if_eq (tgt := 22) hx hb dX5_restart_17 (by decide) (fun c1539 => ?_) (fun c1539 => ?_)
      · refine lv_aload_n hx hb dX5_restart_22 rfl (lv_at hl 0 rfl) ?_
        refine lv_dup hx hb dX5_restart_23 rfl ?_
        obtain ⟨j1540, hj1540⟩ := pG_5 (cy := cy) (N := N) (T := T) (I := I) (Q := Q) (J := J) (hC.at 0 (by decide)) (hC.k 0 (by decide) rfl)
        refine va_get (D := (dC, dI)) (ci := 5) (v := .int (I (v 0) 3)) (C := RX5) (T := TX5) (N := 6) hx hb hts hi5 hown hK hP j1540 hj1540 rfl 3 (by decide) (hts (.fieldLink RX5 27 "TallyLogs" "up" "I") (by decide +kernel)) (fun _ h9 => h9) rfl dX5_restart_24 ?_
        refine lv_topi (fun x1541 ex1541 => ?_)
        refine lv_iconst (v := 1) hx hb dX5_restart_27 (by decide) ?_
        refine lv_iload_n hx hb dX5_restart_28 rfl (lv_at hl 1 rfl) ?_
        refine lv_ishl hx hb dX5_restart_29 ?_
        refine lv_topi (fun v1542 ev1542 => ?_)
        refine lv_ior hx hb dX5_restart_30 ?_
        refine lv_topi (fun v1543 ev1543 => ?_)
        obtain ⟨j1544, hj1544⟩ := pG_5 (cy := cy) (N := N) (T := T) (I := I) (Q := Q) (J := J) (hC.at 0 (by decide)) (hC.k 0 (by decide) rfl)
        have hDo := hD
        refine va_put (D := (dC, dI)) (ci := 5) (v := .int v1543) (ty := .int) (C := RX5) (T := TX5) (N := 6) hx hb hts hi5 tyX5 tyX5_ok nmX5 hown hK hP hD hS j1544 hj1544 rfl 3 (by decide) (hts (.fieldLink RX5 27 "TallyLogs" "up" "I") (by decide +kernel)) (fun _ h9 => h9) rfl (by decide +kernel) rfl rfl (Nat.le_of_ble_eq_true rfl) dX5_restart_31 (fun H locs hP hD hS => ?_)
        have hP := Eq.mp (congrArg (fun w => va_P (dC, dI) vwCl w H) (pP_5_3 (x := v1543) hDo (hC.at 0 (by decide)) (hC.k 0 (by decide) rfl) hj1544)) hP
        obtain ⟨I1545, eI1545⟩ : ∃ z, z = p2 I (v 0) 3 v1543 := ⟨_, rfl⟩
        rw [← eI1545] at hP
        have hub : I1545 (v 0) 3 = v1543 := by rw [eI1545]; exact p2_at _ _ _ _
        have hR : RS v I1545 Q J I1545 Q J := RS.rf
        have hC : CT v L K N T I1545 Q := by rw [eI1545]; exact hC.pi (by rw [(hC.k 0 (by decide) rfl)]; decide)
        have hD : va_D A (va_pl L (pF cy K N T I1545 Q J)) := pD hDo
        refine lv_iconst (v := 0) hx hb dX5_restart_34 (by decide) ?_
        refine lv_istore_n (lv' := [(2, .int 0), (0, .ref (v 0)), (1, .int xn)]) hx hb dX5_restart_35 rfl hl (by decide) rfl (fun ls hl => ?_)
        refine wq_gen (fun Qz hQz => ?_)
        have hLP1546 : ∀ (n : Nat) (y1547 : Int32) (Ia1546 : Nat → Nat → Int32) (Qa1546 : Nat → Nat → Option Nat) (Ja1546 : Nat → Nat → Int32) (H : Heap) (locs : List Loc) (ls : Array Slot), (((4 : Int32)).toInt - y1547.toInt).toNat < n → 0 ≤ y1547.toInt → CT v L K N T Ia1546 Qa1546 → RS v I1545 Q J Ia1546 Qa1546 Ja1546 → va_P (dC, dI) vwCl (va_pl L (pF cy K N T Ia1546 Qa1546 Ja1546)) H → va_D A (va_pl L (pF cy K N T Ia1546 Qa1546 Ja1546)) → va_S A s.heap H locs → lv_has ls 4 [(2, .int y1547), (0, .ref (v 0)), (1, .int xn)] → W p l e (headSpec wsX5_restart ({ frames := 2, cells := 0, slots := 0, locals := 44 })).room s m ([.ref (v 0), .int xn] : List Value).toArray below meth c H locs 0 0 Qz (F0 m 36 ls []) := by
          intro n
          induction n with
          | zero => intro y1547 Ia1546 Qa1546 Ja1546 H locs ls hms; exact absurd hms (Nat.not_lt_zero _)
          | succ n ih =>
            intro y1547 Ia1546 Qa1546 Ja1546 H locs ls hms hnn1546 hC hR hP hD hS hl
            refine lv_iload_n hx hb dX5_restart_36 rfl (lv_at hl 0 rfl) ?_
            refine lv_iconst (v := 4) hx hb dX5_restart_37 (by decide) ?_
            refine lv_icmp_ge (tgt := 63) hx hb dX5_restart_38 (by decide) (fun c1548 => ?_) (fun c1548 => ?_)
            · refine lv_iconst (v := 0) hx hb dX5_restart_63 (by decide) ?_
              rw [hQz]
              exact W.iret (v := 0) hx hb hr (fun t ht hW => ⟨⟨0, (Ia1546, Qa1546, Ja1546), rfl, ⟨⟨hC, (by show Ia1546 (v 0) 3 = _; rw [hR.1, hub, ev1543, ex1541, ev1542]; have kc1534 := c1534; have kc1535 := c1535; simp only [xk_eq, Int32.toInt_toInt64, xk_lt, xk_le, xk_0, xk_1, xk_2, xk_3, xk_4, xk_5, xk_6, xk_7, xk_8, xk_50, xl_0, xl_1, xl_3, xl_4, xl_5, xl_6, xl_7, xl_50] at kc1534 kc1535; unfold sp_rc; rw [if_pos ⟨by omega, by omega⟩, if_pos (by rw [← ex1537, ← hr1538]; exact c1539)])⟩, (by show _ = _; have kc1534 := c1534; have kc1535 := c1535; simp only [xk_eq, Int32.toInt_toInt64, xk_lt, xk_le, xk_0, xk_1, xk_2, xk_3, xk_4, xk_5, xk_6, xk_7, xk_8, xk_50, xl_0, xl_1, xl_3, xl_4, xl_5, xl_6, xl_7, xl_50] at kc1534 kc1535; unfold sp_rcr; rw [if_pos ⟨by omega, by omega⟩, if_pos (by rw [← ex1537, ← hr1538]; exact c1539)])⟩, by rw [ht]; exact hP, va_K.moved hW.alike hK, hD⟩, hS.F ht⟩) hS.2.2 dX5_restart_64
            · refine lv_aload_n hx hb dX5_restart_41 rfl (lv_at hl 1 rfl) ?_
              refine lv_iload_n hx hb dX5_restart_42 rfl (lv_at hl 2 rfl) ?_
              refine lv_iload_n hx hb dX5_restart_43 rfl (lv_at hl 0 rfl) ?_
              obtain ⟨j1550, hj1550⟩ := pG_5 (cy := cy) (N := N) (T := T) (I := Ia1546) (Q := Qa1546) (J := Ja1546) (hC.at 0 (by decide)) (hC.k 0 (by decide) rfl)
              refine va_csq (W.runV (As := [.int xn, .int y1547]) (rest := []) ⟨hx, hb, hml, hown, hts⟩ (c_X5_replicaOf l dC dI cy v L K N T Ia1546 Qa1546 Ja1546  xn y1547 hC) (cwV 2 hts gX5_restart_X5_replicaOf rfl rfl rfl (by decide +kernel) ⟨Nat.le_of_ble_eq_true rfl, Nat.le_of_ble_eq_true rfl⟩) ⟨pb_blind, va_recv hK hP (ci := 5) (q0 := j1550) rfl hj1550, fun U hU hW => ⟨rfl, pb_pre hP hK hN hU hW⟩⟩ rfl rfl hl.1 rfl (lv_room (Nat.le_of_ble_eq_true rfl)) dX5_restart_44 ⟨Nat.le_of_ble_eq_true rfl, Nat.le_of_ble_eq_true rfl⟩) (fun r1549 hr1549 => ?_)
              cases r1549 with
              | none =>
                refine W.eq (g2 := F0 m 47 ls [.null]) rfl ?_
                refine lv_astore_nN (lv' := [(3, .null), (2, .int y1547), (0, .ref (v 0)), (1, .int xn)]) hx hb dX5_restart_47 rfl hl (by decide) rfl (fun ls hl => ?_)
                refine lv_aload_nN hx hb dX5_restart_48 rfl (lv_at hl 0 rfl) ?_
                refine lv_ifnullN (tgt := 57) hx hb dX5_restart_49 (by decide) ?_
                obtain ⟨v1552, ev1552⟩ : ∃ y : Int32, y = y1547 + Int32.ofInt 1 := ⟨_, rfl⟩
                refine lv_iinc (v := v1552) (lv' := [(2, .int v1552), (3, .null), (0, .ref (v 0)), (1, .int xn)]) hx hb dX5_restart_57 hl (k := 1) rfl ev1552.symm (by decide) rfl (fun ls hl => ?_)
                refine lv_goto (tgt := 36) hx hb dX5_restart_60 (by decide) ?_
                exact ih _ _ _ _ _ _ _ (by have kc := c1548; simp only [xk_le, xk_lt] at kc; have h9 := xinc (x := y1547) (y := (4 : Int32)) (by rw [xk_lt]; omega); rw [ev1552, show y1547 + Int32.ofInt 1 = y1547 + 1 from rfl, h9]; omega) (by have kc := c1548; simp only [xk_le, xk_lt] at kc; have h9 := xinc (x := y1547) (y := (4 : Int32)) (by rw [xk_lt]; omega); rw [ev1552, show y1547 + Int32.ofInt 1 = y1547 + 1 from rfl, h9]; omega) hC hR hP hD hS (lv_sub hl [0, 2, 3] rfl)
              | some b1551 =>
                have hTb1551 := hr1549 b1551 rfl
                refine W.eq (g2 := F0 m 47 ls [.ref b1551]) rfl ?_
                refine lv_astore_n (lv' := [(3, .ref b1551), (2, .int y1547), (0, .ref (v 0)), (1, .int xn)]) hx hb dX5_restart_47 rfl hl (by decide) rfl (fun ls hl => ?_)
                refine lv_aload_n hx hb dX5_restart_48 rfl (lv_at hl 0 rfl) ?_
                refine lv_ifnull hx hb dX5_restart_49 ?_
                refine lv_aload_n hx hb dX5_restart_52 rfl (lv_at hl 0 rfl) ?_
                refine lv_iconst (v := (-1)) hx hb dX5_restart_53 (by decide) ?_
                obtain ⟨j1553, hj1553⟩ := pG_4 (cy := cy) (N := N) (T := T) (I := Ia1546) (Q := Qa1546) (J := Ja1546) hTb1551.1 hTb1551.2
                have hDo := hD
                refine va_put (D := (dC, dI)) (ci := 4) (v := .int (-1)) (ty := .int) (C := RX4) (T := TX4) (N := 7) hx hb hts hi4 tyX4 tyX4_ok nmX4 hown hK hP hD hS j1553 hj1553 rfl 5 (by decide) (hts (.fieldLink RX5 157 "TallyLogs$Replica" "known" "I") (by decide +kernel)) (fun _ h9 => h9) rfl (by decide +kernel) rfl rfl (Nat.le_of_ble_eq_true rfl) dX5_restart_54 (fun H locs hP hD hS => ?_)
                have hP := Eq.mp (congrArg (fun w => va_P (dC, dI) vwCl w H) (pP_4_5 (x := (-1)) hDo hTb1551.1 hTb1551.2 hj1553)) hP
                obtain ⟨I1554, eI1554⟩ : ∃ z, z = p2 Ia1546 b1551 5 (-1) := ⟨_, rfl⟩
                rw [← eI1554] at hP
                have hR : RS v I1545 Q J I1554 Qa1546 Ja1546 := by rw [eI1554]; exact hR.pi hC (by rw [hTb1551.2]; decide)
                have hC : CT v L K N T I1554 Qa1546 := by rw [eI1554]; exact hC.pi (by rw [hTb1551.2]; decide)
                have hD : va_D A (va_pl L (pF cy K N T I1554 Qa1546 Ja1546)) := pD hDo
                obtain ⟨v1555, ev1555⟩ : ∃ y : Int32, y = y1547 + Int32.ofInt 1 := ⟨_, rfl⟩
                refine lv_iinc (v := v1555) (lv' := [(2, .int v1555), (3, .ref b1551), (0, .ref (v 0)), (1, .int xn)]) hx hb dX5_restart_57 hl (k := 1) rfl ev1555.symm (by decide) rfl (fun ls hl => ?_)
                refine lv_goto (tgt := 36) hx hb dX5_restart_60 (by decide) ?_
                exact ih _ _ _ _ _ _ _ (by have kc := c1548; simp only [xk_le, xk_lt] at kc; have h9 := xinc (x := y1547) (y := (4 : Int32)) (by rw [xk_lt]; omega); rw [ev1555, show y1547 + Int32.ofInt 1 = y1547 + 1 from rfl, h9]; omega) (by have kc := c1548; simp only [xk_le, xk_lt] at kc; have h9 := xinc (x := y1547) (y := (4 : Int32)) (by rw [xk_lt]; omega); rw [ev1555, show y1547 + Int32.ofInt 1 = y1547 + 1 from rfl, h9]; omega) hC hR hP hD hS (lv_sub hl [0, 2, 3] rfl)
        exact hLP1546 _ _ _ _ _ _ _ _ (Nat.lt_succ_self _) (by decide) hC hR hP hD hS (lv_sub hl [0, 1, 2] rfl)
      · refine lv_iconst (v := (-1)) hx hb dX5_restart_20 (by decide) ?_
        exact W.iret (v := (-1)) hx hb hr (fun t ht hW => ⟨⟨(-1), (I, Q, J), rfl, ⟨⟨hC, (by show I (v 0) 3 = _; rw [hR.1]; have kc1534 := c1534; have kc1535 := c1535; simp only [xk_eq, Int32.toInt_toInt64, xk_lt, xk_le, xk_0, xk_1, xk_2, xk_3, xk_4, xk_5, xk_6, xk_7, xk_8, xk_50, xl_0, xl_1, xl_3, xl_4, xl_5, xl_6, xl_7, xl_50] at kc1534 kc1535; unfold sp_rc; rw [if_pos ⟨by omega, by omega⟩, if_neg (fun q => c1539 (by rw [hr1538, ex1537]; exact q))])⟩, (by show _ = _; have kc1534 := c1534; have kc1535 := c1535; simp only [xk_eq, Int32.toInt_toInt64, xk_lt, xk_le, xk_0, xk_1, xk_2, xk_3, xk_4, xk_5, xk_6, xk_7, xk_8, xk_50, xl_0, xl_1, xl_3, xl_4, xl_5, xl_6, xl_7, xl_50] at kc1534 kc1535; unfold sp_rcr; rw [if_pos ⟨by omega, by omega⟩, if_neg (fun q => c1539 (by rw [hr1538, ex1537]; exact q))])⟩, by rw [ht]; exact hP, va_K.moved hW.alike hK, hD⟩, hS.F ht⟩) hS.2.2 dX5_restart_21
set_option maxHeartbeats 4000000 in
set_option maxRecDepth 100000 in
/-- crash -/
theorem c_X5_crash (l : Launch) (dC : Nat → ClassId) (dI : Nat → Nat → Nat) (cy : Nat → ClassId) (v : Nat → Nat) (L : List Nat) (K N : Nat → Nat) (T : Nat → Nat → Nat) (I : Nat → Nat → Int32) (Q : Nat → Nat → Option Nat) (J : Nat → Nat → Int32) (sz : Nat) (xn : Int32) (xk : Int32) (hC : CT v L K N T I Q) : Met l yX5_crash wsX5_crash ({ frames := 4, cells := 0, slots := 0, locals := 90 }) (va_Pc [.ref (v 0), .int xn, .int xk] (pW dC dI cy L (pF cy K N T I Q J) sz)) (va_Qi (fun (r : Int32) (d : (Nat → Nat → Int32) × (Nat → Nat → Option Nat) × (Nat → Nat → Int32)) => (CT v L K N T d.1 d.2.1 ∧ d.1 (v 0) 3 = sp_ccu (I (v 0) 3) xn xk) ∧ True) (fun (d : (Nat → Nat → Int32) × (Nat → Nat → Option Nat) × (Nat → Nat → Int32)) t => va_P (dC, dI) vwCl (va_pl L (pF cy K N T d.1 d.2.1 d.2.2)) t.heap ∧ va_K (dC, dI) vwCl (pTy cy) t ∧ va_D (va_A (va_pl L (pF cy K N T I Q J)) sz) (va_pl L (pF cy K N T d.1 d.2.1 d.2.2))) (va_A (va_pl L (pF cy K N T I Q J)) sz)) 0 0 (va_A (va_pl L (pF cy K N T I Q J)) sz) := by
  refine Met.ofW (cc := cX5_crash) (maxL := 6) (ret := (some .int)) (by decide) rfl ?_
  intro p e s m args below meth c s₁ B hml hv
  obtain ⟨rfl, hsz, ⟨hP, hK, hN⟩, hD0⟩ := hv
  have hx := B.exec
  have hb := B.bytes
  have hr := B.returns
  have hts := atoms_spec (ws := wsX5_crash) B.pre
  have hown : s.vm.findClass RX5 = some m.cls := findClass_of_methodNamed B.named
  have hlocks := B.notSynchronized
  have hi5 : ∀ w ∈ wsX50, w ∈ wsX5_crash := by decide +kernel
  have hi2 : ∀ w ∈ wsX20, w ∈ wsX5_crash := by decide +kernel
  have hl := lv_entry ([.ref (v 0), .int xn, .int xk]) (n := 6) (Nat.le_of_ble_eq_true rfl)
  rw [lg_entry_eq]
  generalize (lg_sl ([.ref (v 0), .int xn, .int xk]) ++ List.replicate (6 - (lg_sl ([.ref (v 0), .int xn, .int xk])).length) Slot.unset).toArray = ls at hl ⊢
  have hl : lv_has ls 6 [(0, .ref (v 0)), (1, .int xn), (2, .int xk)] := hl
  subst hsz
  have hD := hD0.self (sz := s.heap.size)
  generalize hAe : va_A (va_pl L (pF cy K N T I Q J)) s.heap.size = A at hD ⊢
  have hA : ∀ q : Nat, s.heap.size ≤ q → A q := fun q h => by rw [← hAe]; exact Or.inr h
  have hS : va_S A s.heap s.heap [] := va_S.rf
  have hR : RS v I Q J I Q J := RS.rf
  have hn28 := hN.1
  have hn30 := hN.2.1
  have hn37 := hN.2.2.1
  refine lv_aload_n hx hb dX5_crash_0 rfl (lv_at hl 0 rfl) ?_
  obtain ⟨j1556, hj1556⟩ := pG_5 (cy := cy) (N := N) (T := T) (I := I) (Q := Q) (J := J) (hC.at 0 (by decide)) (hC.k 0 (by decide) rfl)
  refine va_get (D := (dC, dI)) (ci := 5) (v := .int (I (v 0) 3)) (C := RX5) (T := TX5) (N := 6) hx hb hts hi5 hown hK hP j1556 hj1556 rfl 3 (by decide) (hts (.fieldLink RX5 27 "TallyLogs" "up" "I") (by decide +kernel)) (fun _ h9 => h9) rfl dX5_crash_1 ?_
  refine lv_topi (fun x1557 ex1557 => ?_)
  refine lv_iload_n hx hb dX5_crash_4 rfl (lv_at hl 1 rfl) ?_
  refine vp_callSi (W.runS (As := [.int x1557, .int xn]) (rest := []) ⟨hx, hb, hml, hown, hts⟩ (c_X5_contains l x1557 xn) (va_cwS 2 hts gX5_crash_X5_contains rfl rfl rfl (by decide +kernel) ⟨Nat.le_of_ble_eq_true rfl, Nat.le_of_ble_eq_true rfl⟩) preEq rfl rfl hl.1 rfl (lv_room (Nat.le_of_ble_eq_true rfl)) dX5_crash_5 ⟨Nat.le_of_ble_eq_true rfl, Nat.le_of_ble_eq_true rfl⟩) (fun r1558 hr1558 => ?_)
  refine lv_if_eq (tgt := 15) hx hb dX5_crash_8 (by decide) (fun c1559 => ?_) (fun c1559 => ?_)
  · refine lv_iconst (v := (-1)) hx hb dX5_crash_15 (by decide) ?_
    exact W.iret (v := (-1)) hx hb hr (fun t ht hW => ⟨⟨(-1), (I, Q, J), rfl, ⟨⟨hC, (by show I (v 0) 3 = _; rw [hR.1]; unfold sp_ccu; rw [if_pos (by rw [← ex1557, ← hr1558]; exact c1559)])⟩, trivial⟩, by rw [ht]; exact hP, va_K.moved hW.alike hK, hD⟩, hS.F ht⟩) hS.2.2 dX5_crash_16
  · refine lv_iload_n hx hb dX5_crash_11 rfl (lv_at hl 2 rfl) ?_
    refine lv_if_ge (tgt := 17) hx hb dX5_crash_12 (by decide) (fun c1560 => ?_) (fun c1560 => ?_)
    · refine lv_aload_n hx hb dX5_crash_17 rfl (lv_at hl 0 rfl) ?_
      refine lv_dup hx hb dX5_crash_18 rfl ?_
      obtain ⟨j1561, hj1561⟩ := pG_5 (cy := cy) (N := N) (T := T) (I := I) (Q := Q) (J := J) (hC.at 0 (by decide)) (hC.k 0 (by decide) rfl)
      refine va_get (D := (dC, dI)) (ci := 5) (v := .int (I (v 0) 3)) (C := RX5) (T := TX5) (N := 6) hx hb hts hi5 hown hK hP j1561 hj1561 rfl 3 (by decide) (hts (.fieldLink RX5 27 "TallyLogs" "up" "I") (by decide +kernel)) (fun _ h9 => h9) rfl dX5_crash_19 ?_
      refine lv_topi (fun x1562 ex1562 => ?_)
      refine lv_iconst (v := 1) hx hb dX5_crash_22 (by decide) ?_
      refine lv_iload_n hx hb dX5_crash_23 rfl (lv_at hl 1 rfl) ?_
      refine lv_ishl hx hb dX5_crash_24 ?_
      refine lv_topi (fun v1563 ev1563 => ?_)
      refine lv_iconst (v := (-1)) hx hb dX5_crash_25 (by decide) ?_
      refine lv_ixor hx hb dX5_crash_26 ?_
      refine lv_topi (fun v1564 ev1564 => ?_)
      refine lv_iand hx hb dX5_crash_27 ?_
      refine lv_topi (fun v1565 ev1565 => ?_)
      obtain ⟨j1566, hj1566⟩ := pG_5 (cy := cy) (N := N) (T := T) (I := I) (Q := Q) (J := J) (hC.at 0 (by decide)) (hC.k 0 (by decide) rfl)
      have hDo := hD
      refine va_put (D := (dC, dI)) (ci := 5) (v := .int v1565) (ty := .int) (C := RX5) (T := TX5) (N := 6) hx hb hts hi5 tyX5 tyX5_ok nmX5 hown hK hP hD hS j1566 hj1566 rfl 3 (by decide) (hts (.fieldLink RX5 27 "TallyLogs" "up" "I") (by decide +kernel)) (fun _ h9 => h9) rfl (by decide +kernel) rfl rfl (Nat.le_of_ble_eq_true rfl) dX5_crash_28 (fun H locs hP hD hS => ?_)
      have hP := Eq.mp (congrArg (fun w => va_P (dC, dI) vwCl w H) (pP_5_3 (x := v1565) hDo (hC.at 0 (by decide)) (hC.k 0 (by decide) rfl) hj1566)) hP
      obtain ⟨I1567, eI1567⟩ : ∃ z, z = p2 I (v 0) 3 v1565 := ⟨_, rfl⟩
      rw [← eI1567] at hP
      have hub : I1567 (v 0) 3 = v1565 := by rw [eI1567]; exact p2_at _ _ _ _
      have hR : RS v I1567 Q J I1567 Q J := RS.rf
      have hC : CT v L K N T I1567 Q := by rw [eI1567]; exact hC.pi (by rw [(hC.k 0 (by decide) rfl)]; decide)
      have hD : va_D A (va_pl L (pF cy K N T I1567 Q J)) := pD hDo
      refine lv_iconst (v := 0) hx hb dX5_crash_31 (by decide) ?_
      refine lv_istore_n (lv' := [(3, .int 0), (0, .ref (v 0)), (1, .int xn), (2, .int xk)]) hx hb dX5_crash_32 rfl hl (by decide) rfl (fun ls hl => ?_)
      refine lv_iconst (v := 0) hx hb dX5_crash_33 (by decide) ?_
      refine lv_istore (lv' := [(4, .int 0), (3, .int 0), (0, .ref (v 0)), (1, .int xn), (2, .int xk)]) hx hb dX5_crash_34 hl (by decide) rfl (fun ls hl => ?_)
      refine wq_gen (fun Qz hQz => ?_)
      have hLP1568 : ∀ (n : Nat) (y1569 y1570 : Int32) (Ia1568 : Nat → Nat → Int32) (Qa1568 : Nat → Nat → Option Nat) (Ja1568 : Nat → Nat → Int32) (H : Heap) (locs : List Loc) (ls : Array Slot), (((4 : Int32)).toInt - y1569.toInt).toNat < n → 0 ≤ y1569.toInt → CT v L K N T Ia1568 Qa1568 → RS v I1567 Q J Ia1568 Qa1568 Ja1568 → va_P (dC, dI) vwCl (va_pl L (pF cy K N T Ia1568 Qa1568 Ja1568)) H → va_D A (va_pl L (pF cy K N T Ia1568 Qa1568 Ja1568)) → va_S A s.heap H locs → lv_has ls 6 [(4, .int y1569), (3, .int y1570), (0, .ref (v 0)), (1, .int xn), (2, .int xk)] → W p l e (headSpec wsX5_crash ({ frames := 4, cells := 0, slots := 0, locals := 90 })).room s m ([.ref (v 0), .int xn, .int xk] : List Value).toArray below meth c H locs 0 0 Qz (F0 m 36 ls []) := by
        intro n
        induction n with
        | zero => intro y1569 y1570 Ia1568 Qa1568 Ja1568 H locs ls hms; exact absurd hms (Nat.not_lt_zero _)
        | succ n ih =>
          intro y1569 y1570 Ia1568 Qa1568 Ja1568 H locs ls hms hnn1568 hC hR hP hD hS hl
          refine lv_iload hx hb dX5_crash_36 (lv_at hl 0 rfl) ?_
          refine lv_iconst (v := 4) hx hb dX5_crash_38 (by decide) ?_
          refine lv_icmp_ge (tgt := 86) hx hb dX5_crash_39 (by decide) (fun c1571 => ?_) (fun c1571 => ?_)
          · refine lv_iload_n hx hb dX5_crash_86 rfl (lv_at hl 1 rfl) ?_
            rw [hQz]
            exact W.iret (v := y1570) hx hb hr (fun t ht hW => ⟨⟨y1570, (Ia1568, Qa1568, Ja1568), rfl, ⟨⟨hC, (by show Ia1568 (v 0) 3 = _; rw [hR.1, hub, ev1565, ex1562, ev1564, ev1563]; unfold sp_ccu; rw [if_neg (fun q => c1559 (by rw [hr1558, ex1557]; exact q)), if_neg (by have k9 := c1560; rw [xk_le, xk_0] at k9; rw [xk_lt, xk_0]; omega)])⟩, trivial⟩, by rw [ht]; exact hP, va_K.moved hW.alike hK, hD⟩, hS.F ht⟩) hS.2.2 dX5_crash_87
          · refine lv_aload_n hx hb dX5_crash_42 rfl (lv_at hl 2 rfl) ?_
            obtain ⟨j1572, hj1572⟩ := pG_5 (cy := cy) (N := N) (T := T) (I := Ia1568) (Q := Qa1568) (J := Ja1568) (hC.at 0 (by decide)) (hC.k 0 (by decide) rfl)
            refine va_get (D := (dC, dI)) (ci := 5) (v := .ref (T (v 0) 0)) (C := RX5) (T := TX5) (N := 6) hx hb hts hi5 hown hK hP j1572 hj1572 rfl 0 (by decide) (hts (.fieldLink RX5 11 "TallyLogs" "partitions" "[LTallyLogs$Partition;") (by decide +kernel)) (fun _ h9 => h9) rfl dX5_crash_43 ?_
            refine W.eq (g2 := F0 m 46 ls [.ref (v 1)]) (by rw [hC.1.2.2.1.1]) ?_
            refine lv_iload hx hb dX5_crash_46 (lv_at hl 0 rfl) ?_
            obtain ⟨j1574, hj1574⟩ := pG_10 (cy := cy) (N := N) (T := T) (I := Ia1568) (Q := Qa1568) (J := Ja1568) (hC.at 1 (by decide)) (hC.k 1 (by decide) rfl)
            refine va_aldq hx hb hK hP j1574 3 hj1574 rfl (xin_of hnn1568 (by have kc := c1571; simp only [xk_lt, xk_le, xk_0, xk_1, xk_2, xk_3, xk_4, xk_5, xk_6, xk_7, xk_8, xk_50] at kc; omega)) dX5_crash_48 ?_
            cases hq1576 : Qa1568 (v 1) y1569.toNatClampNeg with
            | none =>
              refine W.eq (g2 := F0 m 49 ls [.null]) rfl ?_
              refine lv_astoreN (lv' := [(5, .null), (4, .int y1569), (3, .int y1570), (0, .ref (v 0)), (1, .int xn), (2, .int xk)]) hx hb dX5_crash_49 hl (by decide) rfl (fun ls hl => ?_)
              refine lv_aloadN hx hb dX5_crash_51 (lv_at hl 0 rfl) ?_
              refine lv_ifnullN (tgt := 80) hx hb dX5_crash_53 (by decide) ?_
              obtain ⟨v1577, ev1577⟩ : ∃ y : Int32, y = y1569 + Int32.ofInt 1 := ⟨_, rfl⟩
              refine lv_iinc (v := v1577) (lv' := [(4, .int v1577), (5, .null), (3, .int y1570), (0, .ref (v 0)), (1, .int xn), (2, .int xk)]) hx hb dX5_crash_80 hl (k := 1) rfl ev1577.symm (by decide) rfl (fun ls hl => ?_)
              refine lv_goto (tgt := 36) hx hb dX5_crash_83 (by decide) ?_
              exact ih _ _ _ _ _ _ _ _ (by have kc := c1571; simp only [xk_le, xk_lt] at kc; have h9 := xinc (x := y1569) (y := (4 : Int32)) (by rw [xk_lt]; omega); rw [ev1577, show y1569 + Int32.ofInt 1 = y1569 + 1 from rfl, h9]; omega) (by have kc := c1571; simp only [xk_le, xk_lt] at kc; have h9 := xinc (x := y1569) (y := (4 : Int32)) (by rw [xk_lt]; omega); rw [ev1577, show y1569 + Int32.ofInt 1 = y1569 + 1 from rfl, h9]; omega) hC hR hP hD hS (lv_sub hl [0, 2, 3, 4, 5] rfl)
            | some b1575 =>
              have hTb1575 := (hC.2.2.2.1 y1569.toNatClampNeg b1575 (vp_lt (xin_of hnn1568 (by have kc := c1571; simp only [xk_lt, xk_le, xk_0, xk_1, xk_2, xk_3, xk_4, xk_5, xk_6, xk_7, xk_8, xk_50] at kc; omega))) hq1576)
              refine W.eq (g2 := F0 m 49 ls [.ref b1575]) rfl ?_
              refine lv_astore (lv' := [(5, .ref b1575), (4, .int y1569), (3, .int y1570), (0, .ref (v 0)), (1, .int xn), (2, .int xk)]) hx hb dX5_crash_49 hl (by decide) rfl (fun ls hl => ?_)
              refine lv_aload hx hb dX5_crash_51 (lv_at hl 0 rfl) ?_
              refine lv_ifnull hx hb dX5_crash_53 ?_
              refine lv_aload hx hb dX5_crash_56 (lv_at hl 0 rfl) ?_
              refine lv_iload_n hx hb dX5_crash_58 rfl (lv_at hl 4 rfl) ?_
              refine lv_iload_n hx hb dX5_crash_59 rfl (lv_at hl 5 rfl) ?_
              obtain ⟨j1578, hj1578⟩ := pG_2 (cy := cy) (N := N) (T := T) (I := Ia1568) (Q := Qa1568) (J := Ja1568) hTb1575.1 hTb1575.2
              have hFc := pfree hD hS hA
              refine va_callv (va_runV (As := [.int xn, .int xk]) (rest := []) ⟨hx, hb, hml, hown, hts⟩ (c_X2_lose l dC dI cy v L K N T Ia1568 Qa1568 Ja1568 H.size b1575 xn xk hC hTb1575.1 hTb1575.2) (cwV 2 hts gX5_crash_X2_lose rfl rfl rfl (by decide +kernel) ⟨Nat.le_of_ble_eq_true rfl, Nat.le_of_ble_eq_true rfl⟩) ⟨pw_blind, va_recv hK hP (ci := 2) (q0 := j1578) rfl hj1578, fun U hU hW => ⟨rfl, pw_pre hP hK hN hD hU hW⟩⟩ rfl rfl hl.1 rfl (lv_room (Nat.le_of_ble_eq_true rfl)) dX5_crash_60 ⟨Nat.le_of_ble_eq_true rfl, Nat.le_of_ble_eq_true rfl⟩) hS (fun q _ h => hFc q h) hFc (fun d9 t H1 locs ht hvm hw hB hz1 hk1 hS => ?_)
              obtain ⟨I1579, Q1579, J1579⟩ := d9
              obtain ⟨hC, hR1⟩ := hw
              obtain ⟨hP, hK1, hD1⟩ := hB
              rw [ht] at hP
              have hD := hD1.weaken (fun _ _ _ h => hFc _ h)
              have hR := hR.trans hR1
              generalize H1 = H at hP hS ⊢
              have hP : va_P (dC, dI) vwCl (va_pl L (pF cy K N T I1579 Q1579 J1579)) H := hP
              have hD : va_D A (va_pl L (pF cy K N T I1579 Q1579 J1579)) := hD
              have hC : CT v L K N T I1579 Q1579 := hC
              have hR : RS v I1567 Q J I1579 Q1579 J1579 := hR
              refine lv_iload_n hx hb dX5_crash_63 rfl (lv_at hl 2 rfl) ?_
              refine lv_aload hx hb dX5_crash_64 (lv_at hl 0 rfl) ?_
              obtain ⟨j1581, hj1581⟩ := pG_2 (cy := cy) (N := N) (T := T) (I := I1579) (Q := Q1579) (J := J1579) hTb1575.1 hTb1575.2
              refine va_get (D := (dC, dI)) (ci := 2) (v := .int (I1579 b1575 3)) (C := RX2) (T := TX2) (N := 6) hx hb hts hi2 hown hK hP j1581 hj1581 rfl 3 (by decide) (hts (.fieldLink RX5 51 "TallyLogs$Partition" "leader" "I") (by decide +kernel)) (fun _ h9 => h9) rfl dX5_crash_66 ?_
              refine lv_topi (fun x1582 ex1582 => ?_)
              refine lv_iconst (v := (-1)) hx hb dX5_crash_69 (by decide) ?_
              refine lv_icmp_ne (tgt := 77) hx hb dX5_crash_70 (by decide) (fun c1583 => ?_) (fun c1583 => ?_)
              · refine lv_iconst (v := 0) hx hb dX5_crash_77 (by decide) ?_
                refine lv_iadd hx hb dX5_crash_78 ?_
                refine lv_topi (fun v1584 ev1584 => ?_)
                refine lv_istore_n (lv' := [(3, .int v1584), (5, .ref b1575), (4, .int y1569), (0, .ref (v 0)), (1, .int xn), (2, .int xk)]) hx hb dX5_crash_79 rfl hl (by decide) rfl (fun ls hl => ?_)
                obtain ⟨v1585, ev1585⟩ : ∃ y : Int32, y = y1569 + Int32.ofInt 1 := ⟨_, rfl⟩
                refine lv_iinc (v := v1585) (lv' := [(4, .int v1585), (3, .int v1584), (5, .ref b1575), (0, .ref (v 0)), (1, .int xn), (2, .int xk)]) hx hb dX5_crash_80 hl (k := 2) rfl ev1585.symm (by decide) rfl (fun ls hl => ?_)
                refine lv_goto (tgt := 36) hx hb dX5_crash_83 (by decide) ?_
                exact ih _ _ _ _ _ _ _ _ (by have kc := c1571; simp only [xk_le, xk_lt] at kc; have h9 := xinc (x := y1569) (y := (4 : Int32)) (by rw [xk_lt]; omega); rw [ev1585, show y1569 + Int32.ofInt 1 = y1569 + 1 from rfl, h9]; omega) (by have kc := c1571; simp only [xk_le, xk_lt] at kc; have h9 := xinc (x := y1569) (y := (4 : Int32)) (by rw [xk_lt]; omega); rw [ev1585, show y1569 + Int32.ofInt 1 = y1569 + 1 from rfl, h9]; omega) hC hR hP hD hS (lv_sub hl [0, 1, 3, 4, 5] rfl)
              · refine lv_iconst (v := 1) hx hb dX5_crash_73 (by decide) ?_
                refine lv_goto (tgt := 78) hx hb dX5_crash_74 (by decide) ?_
                refine lv_iadd hx hb dX5_crash_78 ?_
                refine lv_topi (fun v1586 ev1586 => ?_)
                refine lv_istore_n (lv' := [(3, .int v1586), (5, .ref b1575), (4, .int y1569), (0, .ref (v 0)), (1, .int xn), (2, .int xk)]) hx hb dX5_crash_79 rfl hl (by decide) rfl (fun ls hl => ?_)
                obtain ⟨v1587, ev1587⟩ : ∃ y : Int32, y = y1569 + Int32.ofInt 1 := ⟨_, rfl⟩
                refine lv_iinc (v := v1587) (lv' := [(4, .int v1587), (3, .int v1586), (5, .ref b1575), (0, .ref (v 0)), (1, .int xn), (2, .int xk)]) hx hb dX5_crash_80 hl (k := 2) rfl ev1587.symm (by decide) rfl (fun ls hl => ?_)
                refine lv_goto (tgt := 36) hx hb dX5_crash_83 (by decide) ?_
                exact ih _ _ _ _ _ _ _ _ (by have kc := c1571; simp only [xk_le, xk_lt] at kc; have h9 := xinc (x := y1569) (y := (4 : Int32)) (by rw [xk_lt]; omega); rw [ev1587, show y1569 + Int32.ofInt 1 = y1569 + 1 from rfl, h9]; omega) (by have kc := c1571; simp only [xk_le, xk_lt] at kc; have h9 := xinc (x := y1569) (y := (4 : Int32)) (by rw [xk_lt]; omega); rw [ev1587, show y1569 + Int32.ofInt 1 = y1569 + 1 from rfl, h9]; omega) hC hR hP hD hS (lv_sub hl [0, 1, 3, 4, 5] rfl)
      exact hLP1568 _ _ _ _ _ _ _ _ _ (Nat.lt_succ_self _) (by decide) hC hR hP hD hS (lv_sub hl [0, 1, 2, 3, 4] rfl)
    · refine lv_iconst (v := (-1)) hx hb dX5_crash_15 (by decide) ?_
      exact W.iret (v := (-1)) hx hb hr (fun t ht hW => ⟨⟨(-1), (I, Q, J), rfl, ⟨⟨hC, (by show I (v 0) 3 = _; rw [hR.1]; unfold sp_ccu; rw [if_neg (fun q => c1559 (by rw [hr1558, ex1557]; exact q)), if_pos (by have k9 := c1560; rw [xk_le, xk_0] at k9; rw [xk_lt, xk_0]; omega)])⟩, trivial⟩, by rw [ht]; exact hP, va_K.moved hW.alike hK, hD⟩, hS.F ht⟩) hS.2.2 dX5_crash_16
set_option maxHeartbeats 4000000 in
set_option maxRecDepth 100000 in
/-- create -/
theorem c_X5_create (l : Launch) (dC : Nat → ClassId) (dI : Nat → Nat → Nat) (cy : Nat → ClassId) (v : Nat → Nat) (L : List Nat) (K N : Nat → Nat) (T : Nat → Nat → Nat) (I : Nat → Nat → Int32) (Q : Nat → Nat → Option Nat) (J : Nat → Nat → Int32) (sz : Nat) (xp xr xm : Int32) (hC : CT v L K N T I Q) : Met l yX5_create wsX5_create ({ frames := 3, cells := 12, slots := 346, locals := 67 }) (va_Pc [.ref (v 0), .int xp, .int xr, .int xm] (pW dC dI cy L (pF cy K N T I Q J) sz)) (va_Qi (fun (r : Int32) (d : List Nat × (Nat → Nat) × (Nat → Nat → Nat) × (Nat → Nat → Int32) × (Nat → Nat → Option Nat) × (Nat → Nat → Int32)) => (CT v d.1 d.2.1 N d.2.2.1 d.2.2.2.1 d.2.2.2.2.1 ∧ d.2.2.2.1 (v 0) 3 = I (v 0) 3 ∧ PX L K N T d.1 d.2.1 N d.2.2.1) ∧ True) (fun (d : List Nat × (Nat → Nat) × (Nat → Nat → Nat) × (Nat → Nat → Int32) × (Nat → Nat → Option Nat) × (Nat → Nat → Int32)) t => va_P (dC, dI) vwCl (va_pl d.1 (pF cy d.2.1 N d.2.2.1 d.2.2.2.1 d.2.2.2.2.1 d.2.2.2.2.2)) t.heap ∧ va_K (dC, dI) vwCl (pTy cy) t ∧ va_D (va_A (va_pl L (pF cy K N T I Q J)) sz) (va_pl d.1 (pF cy d.2.1 N d.2.2.1 d.2.2.2.1 d.2.2.2.2.1 d.2.2.2.2.2))) (va_A (va_pl L (pF cy K N T I Q J)) sz)) 12 346 (va_A (va_pl L (pF cy K N T I Q J)) sz) := by
  refine Met.ofW (cc := cX5_create) (maxL := 6) (ret := (some .int)) (by decide) rfl ?_
  intro p e s m args below meth c s₁ B hml hv
  obtain ⟨rfl, hsz, ⟨hP, hK, hN⟩, hD0⟩ := hv
  have hx := B.exec
  have hb := B.bytes
  have hr := B.returns
  have hts := atoms_spec (ws := wsX5_create) B.pre
  have hown : s.vm.findClass RX5 = some m.cls := findClass_of_methodNamed B.named
  have hlocks := B.notSynchronized
  have hi5 : ∀ w ∈ wsX50, w ∈ wsX5_create := by decide +kernel
  have hi2 : ∀ w ∈ wsX20, w ∈ wsX5_create := by decide +kernel
  have hl := lv_entry ([.ref (v 0), .int xp, .int xr, .int xm]) (n := 6) (Nat.le_of_ble_eq_true rfl)
  rw [lg_entry_eq]
  generalize (lg_sl ([.ref (v 0), .int xp, .int xr, .int xm]) ++ List.replicate (6 - (lg_sl ([.ref (v 0), .int xp, .int xr, .int xm])).length) Slot.unset).toArray = ls at hl ⊢
  have hl : lv_has ls 6 [(0, .ref (v 0)), (1, .int xp), (2, .int xr), (3, .int xm)] := hl
  subst hsz
  have hD := hD0.self (sz := s.heap.size)
  generalize hAe : va_A (va_pl L (pF cy K N T I Q J)) s.heap.size = A at hD ⊢
  have hA : ∀ q : Nat, s.heap.size ≤ q → A q := fun q h => by rw [← hAe]; exact Or.inr h
  have hS : va_S A s.heap s.heap [] := va_S.rf
  have hR : RS v I Q J I Q J := RS.rf
  have hX : PX L K N T L K N T := PX.rf
  have hn28 := hN.1
  have hn30 := hN.2.1
  have hn37 := hN.2.2.1
  refine lv_iload_n hx hb dX5_create_0 rfl (lv_at hl 2 rfl) ?_
  refine lv_bipush (v := 31) hx hb dX5_create_1 (by decide) ?_
  refine lv_iand hx hb dX5_create_3 ?_
  refine lv_topi (fun v1588 ev1588 => ?_)
  refine lv_istore (lv' := [(4, .int v1588), (0, .ref (v 0)), (1, .int xp), (2, .int xr), (3, .int xm)]) hx hb dX5_create_4 hl (by decide) rfl (fun ls hl => ?_)
  refine lv_iload_n hx hb dX5_create_6 rfl (lv_at hl 2 rfl) ?_
  refine lv_if_lt (tgt := 24) hx hb dX5_create_7 (by decide) (fun c1589 => ?_) (fun c1589 => ?_)
  · refine lv_iconst (v := (-1)) hx hb dX5_create_24 (by decide) ?_
    refine W.widen (k := 12) (n := 346) (by omega) (by omega) ?_
    exact W.iret (v := (-1)) hx hb hr (fun t ht hW => ⟨⟨(-1), (L, K, T, I, Q, J), rfl, ⟨⟨hC, hR.1, hX⟩, trivial⟩, by rw [ht]; exact hP, va_K.moved hW.alike hK, hD⟩, hS.F ht⟩) hS.2.2 dX5_create_25
  · refine lv_iload_n hx hb dX5_create_10 rfl (lv_at hl 2 rfl) ?_
    refine lv_iconst (v := 4) hx hb dX5_create_11 (by decide) ?_
    refine lv_icmp_ge (tgt := 24) hx hb dX5_create_12 (by decide) (fun c1590 => ?_) (fun c1590 => ?_)
    · refine lv_iconst (v := (-1)) hx hb dX5_create_24 (by decide) ?_
      refine W.widen (k := 12) (n := 346) (by omega) (by omega) ?_
      exact W.iret (v := (-1)) hx hb hr (fun t ht hW => ⟨⟨(-1), (L, K, T, I, Q, J), rfl, ⟨⟨hC, hR.1, hX⟩, trivial⟩, by rw [ht]; exact hP, va_K.moved hW.alike hK, hD⟩, hS.F ht⟩) hS.2.2 dX5_create_25
    · refine lv_aload_n hx hb dX5_create_15 rfl (lv_at hl 1 rfl) ?_
      obtain ⟨j1591, hj1591⟩ := pG_5 (cy := cy) (N := N) (T := T) (I := I) (Q := Q) (J := J) (hC.at 0 (by decide)) (hC.k 0 (by decide) rfl)
      refine va_get (D := (dC, dI)) (ci := 5) (v := .ref (T (v 0) 0)) (C := RX5) (T := TX5) (N := 6) hx hb hts hi5 hown hK hP j1591 hj1591 rfl 0 (by decide) (hts (.fieldLink RX5 11 "TallyLogs" "partitions" "[LTallyLogs$Partition;") (by decide +kernel)) (fun _ h9 => h9) rfl dX5_create_16 ?_
      refine W.eq (g2 := F0 m 19 ls [.ref (v 1)]) (by rw [hC.1.2.2.1.1]) ?_
      refine lv_iload_n hx hb dX5_create_19 rfl (lv_at hl 2 rfl) ?_
      have hin1593 : vp_in xp 4 := xin_of (by have kc1589 := c1589; have kc1590 := c1590; simp only [xk_lt, xk_le, xk_0, xk_1, xk_2, xk_3, xk_4, xk_5, xk_6, xk_7, xk_8, xk_50] at kc1589 kc1590; omega) (by have kc1589 := c1589; have kc1590 := c1590; simp only [xk_lt, xk_le, xk_0, xk_1, xk_2, xk_3, xk_4, xk_5, xk_6, xk_7, xk_8, xk_50] at kc1589 kc1590; omega)
      obtain ⟨j1594, hj1594⟩ := pG_10 (cy := cy) (N := N) (T := T) (I := I) (Q := Q) (J := J) (hC.at 1 (by decide)) (hC.k 1 (by decide) rfl)
      refine va_aldq hx hb hK hP j1594 3 hj1594 rfl hin1593 dX5_create_20 ?_
      cases hq1596 : Q (v 1) xp.toNatClampNeg with
      | none =>
        refine W.eq (g2 := F0 m 21 ls [.null]) rfl ?_
        refine lv_ifnullN (tgt := 26) hx hb dX5_create_21 (by decide) ?_
        refine lv_iload_n hx hb dX5_create_26 rfl (lv_at hl 4 rfl) ?_
        refine lv_iconst (v := 1) hx hb dX5_create_27 (by decide) ?_
        refine lv_icmp_lt (tgt := 40) hx hb dX5_create_28 (by decide) (fun c1597 => ?_) (fun c1597 => ?_)
        · refine lv_iconst (v := (-1)) hx hb dX5_create_40 (by decide) ?_
          refine W.widen (k := 12) (n := 346) (by omega) (by omega) ?_
          exact W.iret (v := (-1)) hx hb hr (fun t ht hW => ⟨⟨(-1), (L, K, T, I, Q, J), rfl, ⟨⟨hC, hR.1, hX⟩, trivial⟩, by rw [ht]; exact hP, va_K.moved hW.alike hK, hD⟩, hS.F ht⟩) hS.2.2 dX5_create_41
        · refine lv_iload_n hx hb dX5_create_31 rfl (lv_at hl 4 rfl) ?_
          refine lv_iload hx hb dX5_create_32 (lv_at hl 0 rfl) ?_
          refine vp_callSi (W.runS (As := [.int v1588]) (rest := [.int xm]) ⟨hx, hb, hml, hown, hts⟩ (c_J6_bitCount_0f7a4 l v1588) (va_cwS 1 hts gX5_create_J6_bitCount_0f7a4 rfl rfl rfl (by decide +kernel) ⟨Nat.le_of_ble_eq_true rfl, Nat.le_of_ble_eq_true rfl⟩) preEq rfl rfl hl.1 rfl (lv_room (Nat.le_of_ble_eq_true rfl)) dX5_create_34 ⟨Nat.le_of_ble_eq_true rfl, Nat.le_of_ble_eq_true rfl⟩) (fun r1598 hr1598 => ?_)
          refine lv_icmp_le (tgt := 42) hx hb dX5_create_37 (by decide) (fun c1599 => ?_) (fun c1599 => ?_)
          · refine lv_iload hx hb dX5_create_42 (lv_at hl 0 rfl) ?_
            refine lv_aload_n hx hb dX5_create_44 rfl (lv_at hl 1 rfl) ?_
            obtain ⟨j1600, hj1600⟩ := pG_5 (cy := cy) (N := N) (T := T) (I := I) (Q := Q) (J := J) (hC.at 0 (by decide)) (hC.k 0 (by decide) rfl)
            refine va_get (D := (dC, dI)) (ci := 5) (v := .int (I (v 0) 3)) (C := RX5) (T := TX5) (N := 6) hx hb hts hi5 hown hK hP j1600 hj1600 rfl 3 (by decide) (hts (.fieldLink RX5 27 "TallyLogs" "up" "I") (by decide +kernel)) (fun _ h9 => h9) rfl dX5_create_45 ?_
            refine lv_topi (fun x1601 ex1601 => ?_)
            refine lv_iand hx hb dX5_create_48 ?_
            refine lv_topi (fun v1602 ev1602 => ?_)
            refine lv_if_ne (tgt := 55) hx hb dX5_create_49 (by decide) (fun c1603 => ?_) (fun c1603 => ?_)
            · refine va_new (ci := 2) (fs := [.int 0, .int 0, .null, .int 0, .int 0, .int 0]) (C := RX2) (T := TX2) (N := 6) hx hb hts hi2 tyX2 tyX2_ok hown (hts (.classLink RX5 9 RX2) (by decide +kernel)) (hts (.instantiable RX2 6) (by decide +kernel)) (hts (.initialized RX2) (by decide +kernel)) hK hP hD hS hA rfl (fun j hj => by rcases (show j = 0 ∨ j = 1 ∨ j = 2 ∨ j = 3 ∨ j = 4 ∨ j = 5 by omega) with rfl | rfl | rfl | rfl | rfl | rfl <;> rfl) (Nat.le_of_ble_eq_true rfl) (Nat.le_of_ble_eq_true rfl) dX5_create_55 (fun q1604 H hP hD hS => ?_)
              refine W.widen (k := 1) (n := 6) (by omega) (by omega) ?_
              have hP := va_P.swap (a := []) hP
              have hD := va_D.swap (a := []) hD
              have hP : va_P (dC, dI) vwCl ((q1604, .inr (2, [.int 0, .int 0, .null, .int 0, .int 0, .int 0])) :: va_pl L (pF cy K N T I Q J)) H := hP
              have hD : va_D A ((q1604, .inr (2, [.int 0, .int 0, .null, .int 0, .int 0, .int 0])) :: va_pl L (pF cy K N T I Q J)) := hD
              refine lv_dup hx hb dX5_create_58 rfl ?_
              refine lv_iload hx hb dX5_create_59 (lv_at hl 0 rfl) ?_
              refine lv_iload hx hb dX5_create_61 (lv_at hl 0 rfl) ?_
              refine lv_aload_n hx hb dX5_create_63 rfl (lv_at hl 1 rfl) ?_
              obtain ⟨j1605, hj1605⟩ := pG_5 (cy := cy) (N := N) (T := T) (I := I) (Q := Q) (J := J) (hC.at 0 (by decide)) (hC.k 0 (by decide) rfl)
              obtain ⟨j1606, hj1606⟩ := xcons_at (x := (q1604, .inr (2, [.int 0, .int 0, .null, .int 0, .int 0, .int 0]))) hj1605
              refine va_get (D := (dC, dI)) (ci := 5) (v := .int (I (v 0) 3)) (C := RX5) (T := TX5) (N := 6) hx hb hts hi5 hown hK hP j1606 hj1606 rfl 3 (by decide) (hts (.fieldLink RX5 27 "TallyLogs" "up" "I") (by decide +kernel)) (fun _ h9 => h9) rfl dX5_create_64 ?_
              refine lv_topi (fun x1607 ex1607 => ?_)
              refine lv_iand hx hb dX5_create_67 ?_
              refine lv_topi (fun v1608 ev1608 => ?_)
              refine lv_iload_n hx hb dX5_create_68 rfl (lv_at hl 4 rfl) ?_
              refine lv_aload_n hx hb dX5_create_69 rfl (lv_at hl 1 rfl) ?_
              obtain ⟨j1609, hj1609⟩ := pG_5 (cy := cy) (N := N) (T := T) (I := I) (Q := Q) (J := J) (hC.at 0 (by decide)) (hC.k 0 (by decide) rfl)
              obtain ⟨j1610, hj1610⟩ := xcons_at (x := (q1604, .inr (2, [.int 0, .int 0, .null, .int 0, .int 0, .int 0]))) hj1609
              refine va_get (D := (dC, dI)) (ci := 5) (v := .int (I (v 0) 4)) (C := RX5) (T := TX5) (N := 6) hx hb hts hi5 hown hK hP j1610 hj1610 rfl 4 (by decide) (hts (.fieldLink RX5 31 "TallyLogs" "now" "I") (by decide +kernel)) (fun _ h9 => h9) rfl dX5_create_70 ?_
              refine lv_topi (fun x1611 ex1611 => ?_)
              have hFc := pfree hD hS hA
              refine va_callv (va_runI (As := [.int v1588, .int v1608, .int xm, .int x1611]) (rest := [.ref q1604]) ⟨hx, hb, hml, hown, hts⟩ (c_X2_init l dC dI cy v L K N T I Q J H.size q1604 v1588 v1608 xm x1611 hC) (cwI 4 hts gX5_create_X2_init rfl rfl rfl (hts (.initialized RX2) (by decide +kernel)) (hts (.methodLink RX5 48 yX2_init) (by decide +kernel)) (hts (.instanceMethod yX2_init) (by decide +kernel)) rfl (by decide +kernel) ⟨Nat.le_of_ble_eq_true rfl, Nat.le_of_ble_eq_true rfl⟩) ⟨pw1_blind, fun U hU hW => ⟨rfl, pw1_pre hP hK hN hD hU hW⟩⟩ rfl rfl hl.1 rfl (lv_room (Nat.le_of_ble_eq_true rfl)) dX5_create_73 ⟨Nat.le_of_ble_eq_true rfl, Nat.le_of_ble_eq_true rfl⟩) hS (fun q _ h => hFc q h) hFc (fun d9 t H1 locs ht hvm hw hB hz1 hk1 hS => ?_)
              obtain ⟨L, K, T, I1612, Q1612, J1612⟩ := d9
              obtain ⟨⟨hC, hR1, hXe⟩, hL1612, hk1612⟩ := hw
              obtain ⟨hP, hK1, hD1⟩ := hB
              rw [ht] at hP
              have hD := hD1.weaken (fun _ _ _ h => hFc _ h)
              have hR := hR.trans hR1
              generalize H1 = H at hP hS ⊢
              have hP : va_P (dC, dI) vwCl (va_pl L (pF cy K N T I1612 Q1612 J1612)) H := hP
              have hD : va_D A (va_pl L (pF cy K N T I1612 Q1612 J1612)) := hD
              have hC : CT v L K N T I1612 Q1612 := hC
              have hR : RS v I Q J I1612 Q1612 J1612 := hR
              have hX := hX.trans hXe
              refine W.widen (k := 12) (n := 346) (by omega) (by omega) ?_
              refine lv_astore (lv' := [(5, .ref q1604), (4, .int v1588), (0, .ref (v 0)), (1, .int xp), (2, .int xr), (3, .int xm)]) hx hb dX5_create_76 hl (by decide) rfl (fun ls hl => ?_)
              refine lv_aload_n hx hb dX5_create_78 rfl (lv_at hl 2 rfl) ?_
              obtain ⟨j1613, hj1613⟩ := pG_5 (cy := cy) (N := N) (T := T) (I := I1612) (Q := Q1612) (J := J1612) (hC.at 0 (by decide)) (hC.k 0 (by decide) rfl)
              refine va_get (D := (dC, dI)) (ci := 5) (v := .ref (T (v 0) 0)) (C := RX5) (T := TX5) (N := 6) hx hb hts hi5 hown hK hP j1613 hj1613 rfl 0 (by decide) (hts (.fieldLink RX5 11 "TallyLogs" "partitions" "[LTallyLogs$Partition;") (by decide +kernel)) (fun _ h9 => h9) rfl dX5_create_79 ?_
              refine W.eq (g2 := F0 m 82 ls [.ref (v 1)]) (by rw [hC.1.2.2.1.1]) ?_
              refine lv_iload_n hx hb dX5_create_82 rfl (lv_at hl 3 rfl) ?_
              refine lv_aload hx hb dX5_create_83 (lv_at hl 0 rfl) ?_
              obtain ⟨j1615, hj1615⟩ := pG_10 (cy := cy) (N := N) (T := T) (I := I1612) (Q := Q1612) (J := J1612) (hC.at 1 (by decide)) (hC.k 1 (by decide) rfl)
              have hDo := hD
              obtain ⟨j1616, hj1616⟩ := pG_2 (cy := cy) (N := N) (T := T) (I := I1612) (Q := Q1612) (J := J1612) hL1612 hk1612
              refine va_astq hx hb hK hP hD hS j1615 3 j1616 2 hj1615 rfl hj1616 rfl hin1593 dX5_create_85 (fun H locs hP hD hS => ?_)
              have hP := Eq.mp (congrArg (fun w => va_P (dC, dI) vwCl w H) (pS_10 (x := (some q1604)) hDo (hC.at 1 (by decide)) (hC.k 1 (by decide) rfl) hj1615)) hP
              obtain ⟨Q1617, eQ1617⟩ : ∃ z, z = p2 Q1612 (v 1) (xp.toNatClampNeg) (some q1604) := ⟨_, rfl⟩
              rw [← eQ1617] at hP
              have hub : I1612 (v 0) 3 = I (v 0) 3 := hR.1
              have hR : RS v I1612 Q1617 J1612 I1612 Q1617 J1612 := RS.rf
              have hC : CT v L K N T I1612 Q1617 := by rw [eQ1617]; exact hC.q10 (fun b hb => by cases hb; exact ⟨hL1612, hk1612⟩)
              have hD : va_D A (va_pl L (pF cy K N T I1612 Q1617 J1612)) := pD hDo
              refine lv_aload hx hb dX5_create_86 (lv_at hl 0 rfl) ?_
              obtain ⟨j1618, hj1618⟩ := pG_2 (cy := cy) (N := N) (T := T) (I := I1612) (Q := Q1617) (J := J1612) hL1612 hk1612
              refine va_get (D := (dC, dI)) (ci := 2) (v := .int (I1612 q1604 3)) (C := RX2) (T := TX2) (N := 6) hx hb hts hi2 hown hK hP j1618 hj1618 rfl 3 (by decide) (hts (.fieldLink RX5 51 "TallyLogs$Partition" "leader" "I") (by decide +kernel)) (fun _ h9 => h9) rfl dX5_create_88 ?_
              refine lv_topi (fun x1619 ex1619 => ?_)
              refine W.widen (k := 12) (n := 346) (by omega) (by omega) ?_
              exact W.iret (v := x1619) hx hb hr (fun t ht hW => ⟨⟨x1619, (L, K, T, I1612, Q1617, J1612), rfl, ⟨⟨hC, hR.1.trans hub, hX⟩, trivial⟩, by rw [ht]; exact hP, va_K.moved hW.alike hK, hD⟩, hS.F ht⟩) hS.2.2 dX5_create_91
            · refine lv_bipush (v := (-2)) hx hb dX5_create_52 (by decide) ?_
              refine W.widen (k := 12) (n := 346) (by omega) (by omega) ?_
              exact W.iret (v := (-2)) hx hb hr (fun t ht hW => ⟨⟨(-2), (L, K, T, I, Q, J), rfl, ⟨⟨hC, hR.1, hX⟩, trivial⟩, by rw [ht]; exact hP, va_K.moved hW.alike hK, hD⟩, hS.F ht⟩) hS.2.2 dX5_create_54
          · refine lv_iconst (v := (-1)) hx hb dX5_create_40 (by decide) ?_
            refine W.widen (k := 12) (n := 346) (by omega) (by omega) ?_
            exact W.iret (v := (-1)) hx hb hr (fun t ht hW => ⟨⟨(-1), (L, K, T, I, Q, J), rfl, ⟨⟨hC, hR.1, hX⟩, trivial⟩, by rw [ht]; exact hP, va_K.moved hW.alike hK, hD⟩, hS.F ht⟩) hS.2.2 dX5_create_41
      | some b1595 =>
        have hTb1595 := (hC.2.2.2.1 xp.toNatClampNeg b1595 (vp_lt hin1593) hq1596)
        refine W.eq (g2 := F0 m 21 ls [.ref b1595]) rfl ?_
        refine lv_ifnull hx hb dX5_create_21 ?_
        refine lv_iconst (v := (-1)) hx hb dX5_create_24 (by decide) ?_
        refine W.widen (k := 12) (n := 346) (by omega) (by omega) ?_
        exact W.iret (v := (-1)) hx hb hr (fun t ht hW => ⟨⟨(-1), (L, K, T, I, Q, J), rfl, ⟨⟨hC, hR.1, hX⟩, trivial⟩, by rw [ht]; exact hP, va_K.moved hW.alike hK, hD⟩, hS.F ht⟩) hS.2.2 dX5_create_25
