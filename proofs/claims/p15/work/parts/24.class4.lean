set_option maxHeartbeats 4000000 in
set_option maxRecDepth 100000 in
/-- elect -/
theorem c_X5_elect (l : Launch) (dC : Nat → ClassId) (dI : Nat → Nat → Nat) (cy : Nat → ClassId) (v : Nat → Nat) (L : List Nat) (K N : Nat → Nat) (T : Nat → Nat → Nat) (I : Nat → Nat → Int32) (Q : Nat → Nat → Option Nat) (J : Nat → Nat → Int32) (sz : Nat) (xp : Int32) (un : Int32) (hC : CT v L K N T I Q) : Met l yX5_elect wsX5_elect ({ frames := 4, cells := 0, slots := 0, locals := 90 }) (va_Pc [.ref (v 0), .int xp, .int un] (pW dC dI cy L (pF cy K N T I Q J) sz)) (va_Qi (fun (r : Int32) (d : (Nat → Nat → Int32) × (Nat → Nat → Option Nat) × (Nat → Nat → Int32)) => (CT v L K N T d.1 d.2.1 ∧ RS v I Q J d.1 d.2.1 d.2.2) ∧ True) (fun (d : (Nat → Nat → Int32) × (Nat → Nat → Option Nat) × (Nat → Nat → Int32)) t => va_P (dC, dI) vwCl (va_pl L (pF cy K N T d.1 d.2.1 d.2.2)) t.heap ∧ va_K (dC, dI) vwCl (pTy cy) t ∧ va_D (va_A (va_pl L (pF cy K N T I Q J)) sz) (va_pl L (pF cy K N T d.1 d.2.1 d.2.2))) (va_A (va_pl L (pF cy K N T I Q J)) sz)) 0 0 (va_A (va_pl L (pF cy K N T I Q J)) sz) := by
  refine Met.ofW (cc := cX5_elect) (maxL := 5) (ret := (some .int)) (by decide) rfl ?_
  intro p e s m args below meth c s₁ B hml hv
  obtain ⟨rfl, hsz, ⟨hP, hK, hN⟩, hD0⟩ := hv
  have hx := B.exec
  have hb := B.bytes
  have hr := B.returns
  have hts := atoms_spec (ws := wsX5_elect) B.pre
  have hown : s.vm.findClass RX5 = some m.cls := findClass_of_methodNamed B.named
  have hlocks := B.notSynchronized
  have hi5 : ∀ w ∈ wsX50, w ∈ wsX5_elect := by decide +kernel
  have hi2 : ∀ w ∈ wsX20, w ∈ wsX5_elect := by decide +kernel
  have hl := lv_entry ([.ref (v 0), .int xp, .int un]) (n := 5) (Nat.le_of_ble_eq_true rfl)
  rw [lg_entry_eq]
  generalize (lg_sl ([.ref (v 0), .int xp, .int un]) ++ List.replicate (5 - (lg_sl ([.ref (v 0), .int xp, .int un])).length) Slot.unset).toArray = ls at hl ⊢
  have hl : lv_has ls 5 [(0, .ref (v 0)), (1, .int xp), (2, .int un)] := hl
  subst hsz
  have hD := hD0.self (sz := s.heap.size)
  generalize hAe : va_A (va_pl L (pF cy K N T I Q J)) s.heap.size = A at hD ⊢
  have hA : ∀ q : Nat, s.heap.size ≤ q → A q := fun q h => by rw [← hAe]; exact Or.inr h
  have hS : va_S A s.heap s.heap [] := va_S.rf
  have hR : RS v I Q J I Q J := RS.rf
  have hn28 := hN.1
  have hn30 := hN.2.1
  have hn37 := hN.2.2.1
  refine lv_aload_n hx hb dX5_elect_0 rfl (lv_at hl 0 rfl) ?_
  refine lv_iload_n hx hb dX5_elect_1 rfl (lv_at hl 1 rfl) ?_
  obtain ⟨j655, hj655⟩ := pG_5 (cy := cy) (N := N) (T := T) (I := I) (Q := Q) (J := J) (hC.at 0 (by decide)) (hC.k 0 (by decide) rfl)
  refine va_csq (W.runV (As := [.int xp]) (rest := []) ⟨hx, hb, hml, hown, hts⟩ (c_X5_partitionAt l dC dI cy v L K N T I Q J  xp hC) (cwV 1 hts gX5_elect_X5_partitionAt rfl rfl rfl (by decide +kernel) ⟨Nat.le_of_ble_eq_true rfl, Nat.le_of_ble_eq_true rfl⟩) ⟨pb_blind, va_recv hK hP (ci := 5) (q0 := j655) rfl hj655, fun U hU hW => ⟨rfl, pb_pre hP hK hN hU hW⟩⟩ rfl rfl hl.1 rfl (lv_room (Nat.le_of_ble_eq_true rfl)) dX5_elect_2 ⟨Nat.le_of_ble_eq_true rfl, Nat.le_of_ble_eq_true rfl⟩) (fun r654 hr654 => ?_)
  cases r654 with
  | none =>
    refine W.eq (g2 := F0 m 5 ls [.null]) rfl ?_
    refine lv_astore_nN (lv' := [(3, .null), (0, .ref (v 0)), (1, .int xp), (2, .int un)]) hx hb dX5_elect_5 rfl hl (by decide) rfl (fun ls hl => ?_)
    refine lv_aload_nN hx hb dX5_elect_6 rfl (lv_at hl 0 rfl) ?_
    refine lv_ifnonnullN hx hb dX5_elect_7 ?_
    refine lv_iconst (v := (-1)) hx hb dX5_elect_10 (by decide) ?_
    exact W.iret (v := (-1)) hx hb hr (fun t ht hW => ⟨⟨(-1), (I, Q, J), rfl, ⟨⟨hC, hR⟩, trivial⟩, by rw [ht]; exact hP, va_K.moved hW.alike hK, hD⟩, hS.F ht⟩) hS.2.2 dX5_elect_11
  | some b656 =>
    have hTb656 := hr654 b656 rfl
    refine W.eq (g2 := F0 m 5 ls [.ref b656]) rfl ?_
    refine lv_astore_n (lv' := [(3, .ref b656), (0, .ref (v 0)), (1, .int xp), (2, .int un)]) hx hb dX5_elect_5 rfl hl (by decide) rfl (fun ls hl => ?_)
    refine lv_aload_n hx hb dX5_elect_6 rfl (lv_at hl 0 rfl) ?_
    refine lv_ifnonnull (tgt := 12) hx hb dX5_elect_7 (by decide) ?_
    refine lv_aload_n hx hb dX5_elect_12 rfl (lv_at hl 0 rfl) ?_
    obtain ⟨j657, hj657⟩ := pG_2 (cy := cy) (N := N) (T := T) (I := I) (Q := Q) (J := J) hTb656.1 hTb656.2
    refine va_get (D := (dC, dI)) (ci := 2) (v := .int (I b656 5)) (C := RX2) (T := TX2) (N := 6) hx hb hts hi2 hown hK hP j657 hj657 rfl 5 (by decide) (hts (.fieldLink RX5 58 "TallyLogs$Partition" "inStep" "I") (by decide +kernel)) (fun _ h9 => h9) rfl dX5_elect_13 ?_
    refine lv_topi (fun x658 ex658 => ?_)
    refine lv_aload_n hx hb dX5_elect_16 rfl (lv_at hl 1 rfl) ?_
    obtain ⟨j659, hj659⟩ := pG_5 (cy := cy) (N := N) (T := T) (I := I) (Q := Q) (J := J) (hC.at 0 (by decide)) (hC.k 0 (by decide) rfl)
    refine va_get (D := (dC, dI)) (ci := 5) (v := .int (I (v 0) 3)) (C := RX5) (T := TX5) (N := 6) hx hb hts hi5 hown hK hP j659 hj659 rfl 3 (by decide) (hts (.fieldLink RX5 27 "TallyLogs" "up" "I") (by decide +kernel)) (fun _ h9 => h9) rfl dX5_elect_17 ?_
    refine lv_topi (fun x660 ex660 => ?_)
    refine lv_iand hx hb dX5_elect_20 ?_
    refine lv_topi (fun v661 ev661 => ?_)
    refine vp_callSi (W.runS (As := [.int v661]) (rest := []) ⟨hx, hb, hml, hown, hts⟩ (c_X5_leastOf l v661) (va_cwS 1 hts gX5_elect_X5_leastOf rfl rfl rfl (by decide +kernel) ⟨Nat.le_of_ble_eq_true rfl, Nat.le_of_ble_eq_true rfl⟩) preEq rfl rfl hl.1 rfl (lv_room (Nat.le_of_ble_eq_true rfl)) dX5_elect_21 ⟨Nat.le_of_ble_eq_true rfl, Nat.le_of_ble_eq_true rfl⟩) (fun r662 hr662 => ?_)
    refine lv_istore (lv' := [(4, .int r662), (3, .ref b656), (0, .ref (v 0)), (1, .int xp), (2, .int un)]) hx hb dX5_elect_24 hl (by decide) rfl (fun ls hl => ?_)
    refine lv_iload hx hb dX5_elect_26 (lv_at hl 0 rfl) ?_
    refine lv_iconst (v := (-1)) hx hb dX5_elect_28 (by decide) ?_
    refine lv_icmp_ne (tgt := 64) hx hb dX5_elect_29 (by decide) (fun c663 => ?_) (fun c663 => ?_)
    · refine lv_iload hx hb dX5_elect_64 (lv_at hl 0 rfl) ?_
      refine lv_iconst (v := (-1)) hx hb dX5_elect_66 (by decide) ?_
      refine lv_icmp_ne (tgt := 73) hx hb dX5_elect_67 (by decide) (fun c664 => ?_) (fun c664 => ?_)
      · refine lv_aload_n hx hb dX5_elect_73 rfl (lv_at hl 1 rfl) ?_
        refine lv_iload hx hb dX5_elect_74 (lv_at hl 0 rfl) ?_
        refine lv_aload_n hx hb dX5_elect_76 rfl (lv_at hl 2 rfl) ?_
        obtain ⟨j665, hj665⟩ := pG_5 (cy := cy) (N := N) (T := T) (I := I) (Q := Q) (J := J) (hC.at 0 (by decide)) (hC.k 0 (by decide) rfl)
        refine va_get (D := (dC, dI)) (ci := 5) (v := .int (I (v 0) 4)) (C := RX5) (T := TX5) (N := 6) hx hb hts hi5 hown hK hP j665 hj665 rfl 4 (by decide) (hts (.fieldLink RX5 31 "TallyLogs" "now" "I") (by decide +kernel)) (fun _ h9 => h9) rfl dX5_elect_77 ?_
        refine lv_topi (fun x666 ex666 => ?_)
        obtain ⟨j667, hj667⟩ := pG_2 (cy := cy) (N := N) (T := T) (I := I) (Q := Q) (J := J) hTb656.1 hTb656.2
        have hFc := pfree hD hS hA
        refine va_callv (va_runV (As := [.int r662, .int x666]) (rest := []) ⟨hx, hb, hml, hown, hts⟩ (c_X2_putLeader l dC dI cy v L K N T I Q J s.heap.size b656 r662 x666 hC hTb656.1 hTb656.2) (cwV 2 hts gX5_elect_X2_putLeader rfl rfl rfl (by decide +kernel) ⟨Nat.le_of_ble_eq_true rfl, Nat.le_of_ble_eq_true rfl⟩) ⟨pw_blind, va_recv hK hP (ci := 2) (q0 := j667) rfl hj667, fun U hU hW => ⟨rfl, pw_pre hP hK hN hD hU hW⟩⟩ rfl rfl hl.1 rfl (lv_room (Nat.le_of_ble_eq_true rfl)) dX5_elect_80 ⟨Nat.le_of_ble_eq_true rfl, Nat.le_of_ble_eq_true rfl⟩) hS (fun q _ h => hFc q h) hFc (fun d9 t H1 locs ht hvm hw hB hz1 hk1 hS => ?_)
        obtain ⟨I668, Q668, J668⟩ := d9
        obtain ⟨hC, hR1⟩ := hw
        obtain ⟨hP, hK1, hD1⟩ := hB
        rw [ht] at hP
        have hD := hD1.weaken (fun _ _ _ h => hFc _ h)
        have hR := hR.trans hR1
        generalize H1 = H at hP hS ⊢
        have hP : va_P (dC, dI) vwCl (va_pl L (pF cy K N T I668 Q668 J668)) H := hP
        have hD : va_D A (va_pl L (pF cy K N T I668 Q668 J668)) := hD
        have hC : CT v L K N T I668 Q668 := hC
        have hR : RS v I Q J I668 Q668 J668 := hR
        refine lv_iload hx hb dX5_elect_83 (lv_at hl 0 rfl) ?_
        exact W.iret (v := r662) hx hb hr (fun t ht hW => ⟨⟨r662, (I668, Q668, J668), rfl, ⟨⟨hC, hR⟩, trivial⟩, by rw [ht]; exact hP, va_K.moved hW.alike hK, hD⟩, hS.F ht⟩) hS.2.2 dX5_elect_85
      · refine lv_bipush (v := (-2)) hx hb dX5_elect_70 (by decide) ?_
        exact W.iret (v := (-2)) hx hb hr (fun t ht hW => ⟨⟨(-2), (I, Q, J), rfl, ⟨⟨hC, hR⟩, trivial⟩, by rw [ht]; exact hP, va_K.moved hW.alike hK, hD⟩, hS.F ht⟩) hS.2.2 dX5_elect_72
    · refine lv_iload_n hx hb dX5_elect_32 rfl (lv_at hl 4 rfl) ?_
      refine lv_if_eq (tgt := 64) hx hb dX5_elect_33 (by decide) (fun c670 => ?_) (fun c670 => ?_)
      · refine lv_iload hx hb dX5_elect_64 (lv_at hl 0 rfl) ?_
        refine lv_iconst (v := (-1)) hx hb dX5_elect_66 (by decide) ?_
        refine lv_icmp_ne (tgt := 73) hx hb dX5_elect_67 (by decide) (fun c671 => ?_) (fun c671 => ?_)
        · refine lv_aload_n hx hb dX5_elect_73 rfl (lv_at hl 1 rfl) ?_
          refine lv_iload hx hb dX5_elect_74 (lv_at hl 0 rfl) ?_
          refine lv_aload_n hx hb dX5_elect_76 rfl (lv_at hl 2 rfl) ?_
          obtain ⟨j672, hj672⟩ := pG_5 (cy := cy) (N := N) (T := T) (I := I) (Q := Q) (J := J) (hC.at 0 (by decide)) (hC.k 0 (by decide) rfl)
          refine va_get (D := (dC, dI)) (ci := 5) (v := .int (I (v 0) 4)) (C := RX5) (T := TX5) (N := 6) hx hb hts hi5 hown hK hP j672 hj672 rfl 4 (by decide) (hts (.fieldLink RX5 31 "TallyLogs" "now" "I") (by decide +kernel)) (fun _ h9 => h9) rfl dX5_elect_77 ?_
          refine lv_topi (fun x673 ex673 => ?_)
          obtain ⟨j674, hj674⟩ := pG_2 (cy := cy) (N := N) (T := T) (I := I) (Q := Q) (J := J) hTb656.1 hTb656.2
          have hFc := pfree hD hS hA
          refine va_callv (va_runV (As := [.int r662, .int x673]) (rest := []) ⟨hx, hb, hml, hown, hts⟩ (c_X2_putLeader l dC dI cy v L K N T I Q J s.heap.size b656 r662 x673 hC hTb656.1 hTb656.2) (cwV 2 hts gX5_elect_X2_putLeader rfl rfl rfl (by decide +kernel) ⟨Nat.le_of_ble_eq_true rfl, Nat.le_of_ble_eq_true rfl⟩) ⟨pw_blind, va_recv hK hP (ci := 2) (q0 := j674) rfl hj674, fun U hU hW => ⟨rfl, pw_pre hP hK hN hD hU hW⟩⟩ rfl rfl hl.1 rfl (lv_room (Nat.le_of_ble_eq_true rfl)) dX5_elect_80 ⟨Nat.le_of_ble_eq_true rfl, Nat.le_of_ble_eq_true rfl⟩) hS (fun q _ h => hFc q h) hFc (fun d9 t H1 locs ht hvm hw hB hz1 hk1 hS => ?_)
          obtain ⟨I675, Q675, J675⟩ := d9
          obtain ⟨hC, hR1⟩ := hw
          obtain ⟨hP, hK1, hD1⟩ := hB
          rw [ht] at hP
          have hD := hD1.weaken (fun _ _ _ h => hFc _ h)
          have hR := hR.trans hR1
          generalize H1 = H at hP hS ⊢
          have hP : va_P (dC, dI) vwCl (va_pl L (pF cy K N T I675 Q675 J675)) H := hP
          have hD : va_D A (va_pl L (pF cy K N T I675 Q675 J675)) := hD
          have hC : CT v L K N T I675 Q675 := hC
          have hR : RS v I Q J I675 Q675 J675 := hR
          refine lv_iload hx hb dX5_elect_83 (lv_at hl 0 rfl) ?_
          exact W.iret (v := r662) hx hb hr (fun t ht hW => ⟨⟨r662, (I675, Q675, J675), rfl, ⟨⟨hC, hR⟩, trivial⟩, by rw [ht]; exact hP, va_K.moved hW.alike hK, hD⟩, hS.F ht⟩) hS.2.2 dX5_elect_85
        · refine lv_bipush (v := (-2)) hx hb dX5_elect_70 (by decide) ?_
          exact W.iret (v := (-2)) hx hb hr (fun t ht hW => ⟨⟨(-2), (I, Q, J), rfl, ⟨⟨hC, hR⟩, trivial⟩, by rw [ht]; exact hP, va_K.moved hW.alike hK, hD⟩, hS.F ht⟩) hS.2.2 dX5_elect_72
      · refine lv_aload_n hx hb dX5_elect_36 rfl (lv_at hl 1 rfl) ?_
        obtain ⟨j677, hj677⟩ := pG_2 (cy := cy) (N := N) (T := T) (I := I) (Q := Q) (J := J) hTb656.1 hTb656.2
        refine va_get (D := (dC, dI)) (ci := 2) (v := .int (I b656 0)) (C := RX2) (T := TX2) (N := 6) hx hb hts hi2 hown hK hP j677 hj677 rfl 0 (by decide) (hts (.fieldLink RX5 64 "TallyLogs$Partition" "mask" "I") (by decide +kernel)) (fun _ h9 => h9) rfl dX5_elect_37 ?_
        refine lv_topi (fun x678 ex678 => ?_)
        refine lv_aload_n hx hb dX5_elect_40 rfl (lv_at hl 2 rfl) ?_
        obtain ⟨j679, hj679⟩ := pG_5 (cy := cy) (N := N) (T := T) (I := I) (Q := Q) (J := J) (hC.at 0 (by decide)) (hC.k 0 (by decide) rfl)
        refine va_get (D := (dC, dI)) (ci := 5) (v := .int (I (v 0) 3)) (C := RX5) (T := TX5) (N := 6) hx hb hts hi5 hown hK hP j679 hj679 rfl 3 (by decide) (hts (.fieldLink RX5 27 "TallyLogs" "up" "I") (by decide +kernel)) (fun _ h9 => h9) rfl dX5_elect_41 ?_
        refine lv_topi (fun x680 ex680 => ?_)
        refine lv_iand hx hb dX5_elect_44 ?_
        refine lv_topi (fun v681 ev681 => ?_)
        refine vp_callSi (W.runS (As := [.int v681]) (rest := []) ⟨hx, hb, hml, hown, hts⟩ (c_X5_leastOf l v681) (va_cwS 1 hts gX5_elect_X5_leastOf rfl rfl rfl (by decide +kernel) ⟨Nat.le_of_ble_eq_true rfl, Nat.le_of_ble_eq_true rfl⟩) preEq rfl rfl hl.1 rfl (lv_room (Nat.le_of_ble_eq_true rfl)) dX5_elect_45 ⟨Nat.le_of_ble_eq_true rfl, Nat.le_of_ble_eq_true rfl⟩) (fun r682 hr682 => ?_)
        refine lv_istore (lv' := [(4, .int r682), (3, .ref b656), (0, .ref (v 0)), (1, .int xp), (2, .int un)]) hx hb dX5_elect_48 hl (by decide) rfl (fun ls hl => ?_)
        refine lv_iload hx hb dX5_elect_50 (lv_at hl 0 rfl) ?_
        refine lv_iconst (v := (-1)) hx hb dX5_elect_52 (by decide) ?_
        refine lv_icmp_eq (tgt := 64) hx hb dX5_elect_53 (by decide) (fun c683 => ?_) (fun c683 => ?_)
        · refine lv_iload hx hb dX5_elect_64 (lv_at hl 0 rfl) ?_
          refine lv_iconst (v := (-1)) hx hb dX5_elect_66 (by decide) ?_
          refine lv_icmp_ne (tgt := 73) hx hb dX5_elect_67 (by decide) (fun c684 => ?_) (fun c684 => ?_)
          · refine lv_aload_n hx hb dX5_elect_73 rfl (lv_at hl 1 rfl) ?_
            refine lv_iload hx hb dX5_elect_74 (lv_at hl 0 rfl) ?_
            refine lv_aload_n hx hb dX5_elect_76 rfl (lv_at hl 2 rfl) ?_
            obtain ⟨j685, hj685⟩ := pG_5 (cy := cy) (N := N) (T := T) (I := I) (Q := Q) (J := J) (hC.at 0 (by decide)) (hC.k 0 (by decide) rfl)
            refine va_get (D := (dC, dI)) (ci := 5) (v := .int (I (v 0) 4)) (C := RX5) (T := TX5) (N := 6) hx hb hts hi5 hown hK hP j685 hj685 rfl 4 (by decide) (hts (.fieldLink RX5 31 "TallyLogs" "now" "I") (by decide +kernel)) (fun _ h9 => h9) rfl dX5_elect_77 ?_
            refine lv_topi (fun x686 ex686 => ?_)
            obtain ⟨j687, hj687⟩ := pG_2 (cy := cy) (N := N) (T := T) (I := I) (Q := Q) (J := J) hTb656.1 hTb656.2
            have hFc := pfree hD hS hA
            refine va_callv (va_runV (As := [.int r682, .int x686]) (rest := []) ⟨hx, hb, hml, hown, hts⟩ (c_X2_putLeader l dC dI cy v L K N T I Q J s.heap.size b656 r682 x686 hC hTb656.1 hTb656.2) (cwV 2 hts gX5_elect_X2_putLeader rfl rfl rfl (by decide +kernel) ⟨Nat.le_of_ble_eq_true rfl, Nat.le_of_ble_eq_true rfl⟩) ⟨pw_blind, va_recv hK hP (ci := 2) (q0 := j687) rfl hj687, fun U hU hW => ⟨rfl, pw_pre hP hK hN hD hU hW⟩⟩ rfl rfl hl.1 rfl (lv_room (Nat.le_of_ble_eq_true rfl)) dX5_elect_80 ⟨Nat.le_of_ble_eq_true rfl, Nat.le_of_ble_eq_true rfl⟩) hS (fun q _ h => hFc q h) hFc (fun d9 t H1 locs ht hvm hw hB hz1 hk1 hS => ?_)
            obtain ⟨I688, Q688, J688⟩ := d9
            obtain ⟨hC, hR1⟩ := hw
            obtain ⟨hP, hK1, hD1⟩ := hB
            rw [ht] at hP
            have hD := hD1.weaken (fun _ _ _ h => hFc _ h)
            have hR := hR.trans hR1
            generalize H1 = H at hP hS ⊢
            have hP : va_P (dC, dI) vwCl (va_pl L (pF cy K N T I688 Q688 J688)) H := hP
            have hD : va_D A (va_pl L (pF cy K N T I688 Q688 J688)) := hD
            have hC : CT v L K N T I688 Q688 := hC
            have hR : RS v I Q J I688 Q688 J688 := hR
            refine lv_iload hx hb dX5_elect_83 (lv_at hl 0 rfl) ?_
            exact W.iret (v := r682) hx hb hr (fun t ht hW => ⟨⟨r682, (I688, Q688, J688), rfl, ⟨⟨hC, hR⟩, trivial⟩, by rw [ht]; exact hP, va_K.moved hW.alike hK, hD⟩, hS.F ht⟩) hS.2.2 dX5_elect_85
          · refine lv_bipush (v := (-2)) hx hb dX5_elect_70 (by decide) ?_
            exact W.iret (v := (-2)) hx hb hr (fun t ht hW => ⟨⟨(-2), (I, Q, J), rfl, ⟨⟨hC, hR⟩, trivial⟩, by rw [ht]; exact hP, va_K.moved hW.alike hK, hD⟩, hS.F ht⟩) hS.2.2 dX5_elect_72
        · refine lv_aload_n hx hb dX5_elect_56 rfl (lv_at hl 1 rfl) ?_
          refine lv_iconst (v := 1) hx hb dX5_elect_57 (by decide) ?_
          refine lv_iload hx hb dX5_elect_58 (lv_at hl 0 rfl) ?_
          refine lv_ishl hx hb dX5_elect_60 ?_
          refine lv_topi (fun v690 ev690 => ?_)
          obtain ⟨j691, hj691⟩ := pG_2 (cy := cy) (N := N) (T := T) (I := I) (Q := Q) (J := J) hTb656.1 hTb656.2
          have hDo := hD
          refine va_put (D := (dC, dI)) (ci := 2) (v := .int v690) (ty := .int) (C := RX2) (T := TX2) (N := 6) hx hb hts hi2 tyX2 tyX2_ok nmX2 hown hK hP hD hS j691 hj691 rfl 5 (by decide) (hts (.fieldLink RX5 58 "TallyLogs$Partition" "inStep" "I") (by decide +kernel)) (fun _ h9 => h9) rfl (by decide +kernel) rfl rfl (Nat.le_of_ble_eq_true rfl) dX5_elect_61 (fun H locs hP hD hS => ?_)
          have hP := Eq.mp (congrArg (fun w => va_P (dC, dI) vwCl w H) (pP_2_5 (x := v690) hDo hTb656.1 hTb656.2 hj691)) hP
          obtain ⟨I692, eI692⟩ : ∃ z, z = p2 I b656 5 v690 := ⟨_, rfl⟩
          rw [← eI692] at hP
          have hR : RS v I Q J I692 Q J := by rw [eI692]; exact hR.pi hC (by rw [hTb656.2]; decide)
          have hC : CT v L K N T I692 Q := by rw [eI692]; exact hC.pi (by rw [hTb656.2]; decide)
          have hD : va_D A (va_pl L (pF cy K N T I692 Q J)) := pD hDo
          refine lv_iload hx hb dX5_elect_64 (lv_at hl 0 rfl) ?_
          refine lv_iconst (v := (-1)) hx hb dX5_elect_66 (by decide) ?_
          refine lv_icmp_ne (tgt := 73) hx hb dX5_elect_67 (by decide) (fun c693 => ?_) (fun c693 => ?_)
          · refine lv_aload_n hx hb dX5_elect_73 rfl (lv_at hl 1 rfl) ?_
            refine lv_iload hx hb dX5_elect_74 (lv_at hl 0 rfl) ?_
            refine lv_aload_n hx hb dX5_elect_76 rfl (lv_at hl 2 rfl) ?_
            obtain ⟨j694, hj694⟩ := pG_5 (cy := cy) (N := N) (T := T) (I := I692) (Q := Q) (J := J) (hC.at 0 (by decide)) (hC.k 0 (by decide) rfl)
            refine va_get (D := (dC, dI)) (ci := 5) (v := .int (I692 (v 0) 4)) (C := RX5) (T := TX5) (N := 6) hx hb hts hi5 hown hK hP j694 hj694 rfl 4 (by decide) (hts (.fieldLink RX5 31 "TallyLogs" "now" "I") (by decide +kernel)) (fun _ h9 => h9) rfl dX5_elect_77 ?_
            refine lv_topi (fun x695 ex695 => ?_)
            obtain ⟨j696, hj696⟩ := pG_2 (cy := cy) (N := N) (T := T) (I := I692) (Q := Q) (J := J) hTb656.1 hTb656.2
            have hFc := pfree hD hS hA
            refine va_callv (va_runV (As := [.int r682, .int x695]) (rest := []) ⟨hx, hb, hml, hown, hts⟩ (c_X2_putLeader l dC dI cy v L K N T I692 Q J H.size b656 r682 x695 hC hTb656.1 hTb656.2) (cwV 2 hts gX5_elect_X2_putLeader rfl rfl rfl (by decide +kernel) ⟨Nat.le_of_ble_eq_true rfl, Nat.le_of_ble_eq_true rfl⟩) ⟨pw_blind, va_recv hK hP (ci := 2) (q0 := j696) rfl hj696, fun U hU hW => ⟨rfl, pw_pre hP hK hN hD hU hW⟩⟩ rfl rfl hl.1 rfl (lv_room (Nat.le_of_ble_eq_true rfl)) dX5_elect_80 ⟨Nat.le_of_ble_eq_true rfl, Nat.le_of_ble_eq_true rfl⟩) hS (fun q _ h => hFc q h) hFc (fun d9 t H1 locs ht hvm hw hB hz1 hk1 hS => ?_)
            obtain ⟨I697, Q697, J697⟩ := d9
            obtain ⟨hC, hR1⟩ := hw
            obtain ⟨hP, hK1, hD1⟩ := hB
            rw [ht] at hP
            have hD := hD1.weaken (fun _ _ _ h => hFc _ h)
            have hR := hR.trans hR1
            generalize H1 = H at hP hS ⊢
            have hP : va_P (dC, dI) vwCl (va_pl L (pF cy K N T I697 Q697 J697)) H := hP
            have hD : va_D A (va_pl L (pF cy K N T I697 Q697 J697)) := hD
            have hC : CT v L K N T I697 Q697 := hC
            have hR : RS v I Q J I697 Q697 J697 := hR
            refine lv_iload hx hb dX5_elect_83 (lv_at hl 0 rfl) ?_
            exact W.iret (v := r682) hx hb hr (fun t ht hW => ⟨⟨r682, (I697, Q697, J697), rfl, ⟨⟨hC, hR⟩, trivial⟩, by rw [ht]; exact hP, va_K.moved hW.alike hK, hD⟩, hS.F ht⟩) hS.2.2 dX5_elect_85
          · refine lv_bipush (v := (-2)) hx hb dX5_elect_70 (by decide) ?_
            exact W.iret (v := (-2)) hx hb hr (fun t ht hW => ⟨⟨(-2), (I692, Q, J), rfl, ⟨⟨hC, hR⟩, trivial⟩, by rw [ht]; exact hP, va_K.moved hW.alike hK, hD⟩, hS.F ht⟩) hS.2.2 dX5_elect_72
set_option maxHeartbeats 4000000 in
set_option maxRecDepth 100000 in
/-- follow -/
theorem c_X5_follow (l : Launch) (dC : Nat → ClassId) (dI : Nat → Nat → Nat) (cy : Nat → ClassId) (v : Nat → Nat) (L : List Nat) (K N : Nat → Nat) (T : Nat → Nat → Nat) (I : Nat → Nat → Int32) (Q : Nat → Nat → Option Nat) (J : Nat → Nat → Int32) (sz : Nat) (xn : Int32) (xp : Int32) (hC : CT v L K N T I Q) : Met l yX5_follow wsX5_follow ({ frames := 4, cells := 0, slots := 0, locals := 89 }) (va_Pc [.ref (v 0), .int xn, .int xp] (pW dC dI cy L (pF cy K N T I Q J) sz)) (va_Qi (fun (r : Int32) (d : (Nat → Nat → Int32) × (Nat → Nat → Option Nat) × (Nat → Nat → Int32)) => (CT v L K N T d.1 d.2.1 ∧ RS v I Q J d.1 d.2.1 d.2.2) ∧ True) (fun (d : (Nat → Nat → Int32) × (Nat → Nat → Option Nat) × (Nat → Nat → Int32)) t => va_P (dC, dI) vwCl (va_pl L (pF cy K N T d.1 d.2.1 d.2.2)) t.heap ∧ va_K (dC, dI) vwCl (pTy cy) t ∧ va_D (va_A (va_pl L (pF cy K N T I Q J)) sz) (va_pl L (pF cy K N T d.1 d.2.1 d.2.2))) (va_A (va_pl L (pF cy K N T I Q J)) sz)) 0 0 (va_A (va_pl L (pF cy K N T I Q J)) sz) := by
  refine Met.ofW (cc := cX5_follow) (maxL := 6) (ret := (some .int)) (by decide) rfl ?_
  intro p e s m args below meth c s₁ B hml hv
  obtain ⟨rfl, hsz, ⟨hP, hK, hN⟩, hD0⟩ := hv
  have hx := B.exec
  have hb := B.bytes
  have hr := B.returns
  have hts := atoms_spec (ws := wsX5_follow) B.pre
  have hown : s.vm.findClass RX5 = some m.cls := findClass_of_methodNamed B.named
  have hlocks := B.notSynchronized
  have hi5 : ∀ w ∈ wsX50, w ∈ wsX5_follow := by decide +kernel
  have hi2 : ∀ w ∈ wsX20, w ∈ wsX5_follow := by decide +kernel
  have hi4 : ∀ w ∈ wsX40, w ∈ wsX5_follow := by decide +kernel
  have hl := lv_entry ([.ref (v 0), .int xn, .int xp]) (n := 6) (Nat.le_of_ble_eq_true rfl)
  rw [lg_entry_eq]
  generalize (lg_sl ([.ref (v 0), .int xn, .int xp]) ++ List.replicate (6 - (lg_sl ([.ref (v 0), .int xn, .int xp])).length) Slot.unset).toArray = ls at hl ⊢
  have hl : lv_has ls 6 [(0, .ref (v 0)), (1, .int xn), (2, .int xp)] := hl
  subst hsz
  have hD := hD0.self (sz := s.heap.size)
  generalize hAe : va_A (va_pl L (pF cy K N T I Q J)) s.heap.size = A at hD ⊢
  have hA : ∀ q : Nat, s.heap.size ≤ q → A q := fun q h => by rw [← hAe]; exact Or.inr h
  have hS : va_S A s.heap s.heap [] := va_S.rf
  have hR : RS v I Q J I Q J := RS.rf
  have hn28 := hN.1
  have hn30 := hN.2.1
  have hn37 := hN.2.2.1
  refine lv_aload_n hx hb dX5_follow_0 rfl (lv_at hl 0 rfl) ?_
  refine lv_iload_n hx hb dX5_follow_1 rfl (lv_at hl 2 rfl) ?_
  obtain ⟨j700, hj700⟩ := pG_5 (cy := cy) (N := N) (T := T) (I := I) (Q := Q) (J := J) (hC.at 0 (by decide)) (hC.k 0 (by decide) rfl)
  refine va_csq (W.runV (As := [.int xp]) (rest := []) ⟨hx, hb, hml, hown, hts⟩ (c_X5_partitionAt l dC dI cy v L K N T I Q J  xp hC) (cwV 1 hts gX5_follow_X5_partitionAt rfl rfl rfl (by decide +kernel) ⟨Nat.le_of_ble_eq_true rfl, Nat.le_of_ble_eq_true rfl⟩) ⟨pb_blind, va_recv hK hP (ci := 5) (q0 := j700) rfl hj700, fun U hU hW => ⟨rfl, pb_pre hP hK hN hU hW⟩⟩ rfl rfl hl.1 rfl (lv_room (Nat.le_of_ble_eq_true rfl)) dX5_follow_2 ⟨Nat.le_of_ble_eq_true rfl, Nat.le_of_ble_eq_true rfl⟩) (fun r699 hr699 => ?_)
  cases r699 with
  | none =>
    refine W.eq (g2 := F0 m 5 ls [.null]) rfl ?_
    refine lv_astore_nN (lv' := [(3, .null), (0, .ref (v 0)), (1, .int xn), (2, .int xp)]) hx hb dX5_follow_5 rfl hl (by decide) rfl (fun ls hl => ?_)
    refine lv_aload_nN hx hb dX5_follow_6 rfl (lv_at hl 0 rfl) ?_
    refine lv_ifnonnullN hx hb dX5_follow_7 ?_
    refine lv_iconst (v := (-1)) hx hb dX5_follow_10 (by decide) ?_
    exact W.iret (v := (-1)) hx hb hr (fun t ht hW => ⟨⟨(-1), (I, Q, J), rfl, ⟨⟨hC, hR⟩, trivial⟩, by rw [ht]; exact hP, va_K.moved hW.alike hK, hD⟩, hS.F ht⟩) hS.2.2 dX5_follow_11
  | some b701 =>
    have hTb701 := hr699 b701 rfl
    refine W.eq (g2 := F0 m 5 ls [.ref b701]) rfl ?_
    refine lv_astore_n (lv' := [(3, .ref b701), (0, .ref (v 0)), (1, .int xn), (2, .int xp)]) hx hb dX5_follow_5 rfl hl (by decide) rfl (fun ls hl => ?_)
    refine lv_aload_n hx hb dX5_follow_6 rfl (lv_at hl 0 rfl) ?_
    refine lv_ifnonnull (tgt := 12) hx hb dX5_follow_7 (by decide) ?_
    refine lv_aload_n hx hb dX5_follow_12 rfl (lv_at hl 0 rfl) ?_
    refine lv_iload_n hx hb dX5_follow_13 rfl (lv_at hl 2 rfl) ?_
    obtain ⟨j703, hj703⟩ := pG_2 (cy := cy) (N := N) (T := T) (I := I) (Q := Q) (J := J) hTb701.1 hTb701.2
    refine va_csq (W.runV (As := [.int xn]) (rest := []) ⟨hx, hb, hml, hown, hts⟩ (c_X2_replicaAt l dC dI cy v L K N T I Q J b701 xn hC hTb701.1 hTb701.2) (cwV 1 hts gX5_follow_X2_replicaAt rfl rfl rfl (by decide +kernel) ⟨Nat.le_of_ble_eq_true rfl, Nat.le_of_ble_eq_true rfl⟩) ⟨pb_blind, va_recv hK hP (ci := 2) (q0 := j703) rfl hj703, fun U hU hW => ⟨rfl, pb_pre hP hK hN hU hW⟩⟩ rfl rfl hl.1 rfl (lv_room (Nat.le_of_ble_eq_true rfl)) dX5_follow_14 ⟨Nat.le_of_ble_eq_true rfl, Nat.le_of_ble_eq_true rfl⟩) (fun r702 hr702 => ?_)
    cases r702 with
    | none =>
      refine W.eq (g2 := F0 m 17 ls [.null]) rfl ?_
      refine lv_astoreN (lv' := [(4, .null), (3, .ref b701), (0, .ref (v 0)), (1, .int xn), (2, .int xp)]) hx hb dX5_follow_17 hl (by decide) rfl (fun ls hl => ?_)
      refine lv_aloadN hx hb dX5_follow_19 (lv_at hl 0 rfl) ?_
      refine lv_ifnullN (tgt := 43) hx hb dX5_follow_21 (by decide) ?_
      refine lv_iconst (v := (-1)) hx hb dX5_follow_43 (by decide) ?_
      exact W.iret (v := (-1)) hx hb hr (fun t ht hW => ⟨⟨(-1), (I, Q, J), rfl, ⟨⟨hC, hR⟩, trivial⟩, by rw [ht]; exact hP, va_K.moved hW.alike hK, hD⟩, hS.F ht⟩) hS.2.2 dX5_follow_44
    | some b704 =>
      have hTb704 := hr702 b704 rfl
      refine W.eq (g2 := F0 m 17 ls [.ref b704]) rfl ?_
      refine lv_astore (lv' := [(4, .ref b704), (3, .ref b701), (0, .ref (v 0)), (1, .int xn), (2, .int xp)]) hx hb dX5_follow_17 hl (by decide) rfl (fun ls hl => ?_)
      refine lv_aload hx hb dX5_follow_19 (lv_at hl 0 rfl) ?_
      refine lv_ifnull hx hb dX5_follow_21 ?_
      refine lv_aload_n hx hb dX5_follow_24 rfl (lv_at hl 2 rfl) ?_
      obtain ⟨j705, hj705⟩ := pG_5 (cy := cy) (N := N) (T := T) (I := I) (Q := Q) (J := J) (hC.at 0 (by decide)) (hC.k 0 (by decide) rfl)
      refine va_get (D := (dC, dI)) (ci := 5) (v := .int (I (v 0) 3)) (C := RX5) (T := TX5) (N := 6) hx hb hts hi5 hown hK hP j705 hj705 rfl 3 (by decide) (hts (.fieldLink RX5 27 "TallyLogs" "up" "I") (by decide +kernel)) (fun _ h9 => h9) rfl dX5_follow_25 ?_
      refine lv_topi (fun x706 ex706 => ?_)
      refine lv_iload_n hx hb dX5_follow_28 rfl (lv_at hl 3 rfl) ?_
      refine vp_callSi (W.runS (As := [.int x706, .int xn]) (rest := []) ⟨hx, hb, hml, hown, hts⟩ (c_X5_contains l x706 xn) (va_cwS 2 hts gX5_follow_X5_contains rfl rfl rfl (by decide +kernel) ⟨Nat.le_of_ble_eq_true rfl, Nat.le_of_ble_eq_true rfl⟩) preEq rfl rfl hl.1 rfl (lv_room (Nat.le_of_ble_eq_true rfl)) dX5_follow_29 ⟨Nat.le_of_ble_eq_true rfl, Nat.le_of_ble_eq_true rfl⟩) (fun r707 hr707 => ?_)
      refine lv_if_eq (tgt := 43) hx hb dX5_follow_32 (by decide) (fun c708 => ?_) (fun c708 => ?_)
      · refine lv_iconst (v := (-1)) hx hb dX5_follow_43 (by decide) ?_
        exact W.iret (v := (-1)) hx hb hr (fun t ht hW => ⟨⟨(-1), (I, Q, J), rfl, ⟨⟨hC, hR⟩, trivial⟩, by rw [ht]; exact hP, va_K.moved hW.alike hK, hD⟩, hS.F ht⟩) hS.2.2 dX5_follow_44
      · refine lv_iload_n hx hb dX5_follow_35 rfl (lv_at hl 3 rfl) ?_
        refine lv_aload_n hx hb dX5_follow_36 rfl (lv_at hl 1 rfl) ?_
        obtain ⟨j709, hj709⟩ := pG_2 (cy := cy) (N := N) (T := T) (I := I) (Q := Q) (J := J) hTb701.1 hTb701.2
        refine va_get (D := (dC, dI)) (ci := 2) (v := .int (I b701 3)) (C := RX2) (T := TX2) (N := 6) hx hb hts hi2 hown hK hP j709 hj709 rfl 3 (by decide) (hts (.fieldLink RX5 51 "TallyLogs$Partition" "leader" "I") (by decide +kernel)) (fun _ h9 => h9) rfl dX5_follow_37 ?_
        refine lv_topi (fun x710 ex710 => ?_)
        refine lv_icmp_ne (tgt := 45) hx hb dX5_follow_40 (by decide) (fun c711 => ?_) (fun c711 => ?_)
        · refine lv_aload_n hx hb dX5_follow_45 rfl (lv_at hl 1 rfl) ?_
          obtain ⟨j713, hj713⟩ := pG_2 (cy := cy) (N := N) (T := T) (I := I) (Q := Q) (J := J) hTb701.1 hTb701.2
          refine va_csq (W.runV (As := []) (rest := []) ⟨hx, hb, hml, hown, hts⟩ (c_X2_leading l dC dI cy v L K N T I Q J b701  hC hTb701.1 hTb701.2) (cwV 0 hts gX5_follow_X2_leading rfl rfl rfl (by decide +kernel) ⟨Nat.le_of_ble_eq_true rfl, Nat.le_of_ble_eq_true rfl⟩) ⟨pb_blind, va_recv hK hP (ci := 2) (q0 := j713) rfl hj713, fun U hU hW => ⟨rfl, pb_pre hP hK hN hU hW⟩⟩ rfl rfl hl.1 rfl (lv_room (Nat.le_of_ble_eq_true rfl)) dX5_follow_46 ⟨Nat.le_of_ble_eq_true rfl, Nat.le_of_ble_eq_true rfl⟩) (fun r712 hr712 => ?_)
          cases r712 with
          | none =>
            refine W.eq (g2 := F0 m 49 ls [.null]) rfl ?_
            refine lv_astoreN (lv' := [(5, .null), (4, .ref b704), (3, .ref b701), (0, .ref (v 0)), (1, .int xn), (2, .int xp)]) hx hb dX5_follow_49 hl (by decide) rfl (fun ls hl => ?_)
            refine lv_aloadN hx hb dX5_follow_51 (lv_at hl 0 rfl) ?_
            refine lv_ifnonnullN hx hb dX5_follow_53 ?_
            refine lv_bipush (v := (-2)) hx hb dX5_follow_56 (by decide) ?_
            exact W.iret (v := (-2)) hx hb hr (fun t ht hW => ⟨⟨(-2), (I, Q, J), rfl, ⟨⟨hC, hR⟩, trivial⟩, by rw [ht]; exact hP, va_K.moved hW.alike hK, hD⟩, hS.F ht⟩) hS.2.2 dX5_follow_58
          | some b714 =>
            have hTb714 := hr712 b714 rfl
            refine W.eq (g2 := F0 m 49 ls [.ref b714]) rfl ?_
            refine lv_astore (lv' := [(5, .ref b714), (4, .ref b704), (3, .ref b701), (0, .ref (v 0)), (1, .int xn), (2, .int xp)]) hx hb dX5_follow_49 hl (by decide) rfl (fun ls hl => ?_)
            refine lv_aload hx hb dX5_follow_51 (lv_at hl 0 rfl) ?_
            refine lv_ifnonnull (tgt := 59) hx hb dX5_follow_53 (by decide) ?_
            refine lv_aload hx hb dX5_follow_59 (lv_at hl 1 rfl) ?_
            refine lv_aload hx hb dX5_follow_61 (lv_at hl 0 rfl) ?_
            obtain ⟨j715, hj715⟩ := pG_4 (cy := cy) (N := N) (T := T) (I := I) (Q := Q) (J := J) hTb704.1 hTb704.2
            have hFc := pfree hD hS hA
            refine va_callv (va_runV (As := [.ref b714]) (rest := []) ⟨hx, hb, hml, hown, hts⟩ (c_X4_agreeWith l dC dI cy v L K N T I Q J s.heap.size b704 b714 hC hTb704.1 hTb704.2 hTb714.1 hTb714.2) (cwV 1 hts gX5_follow_X4_agreeWith rfl rfl rfl (by decide +kernel) ⟨Nat.le_of_ble_eq_true rfl, Nat.le_of_ble_eq_true rfl⟩) ⟨pw_blind, va_recv hK hP (ci := 4) (q0 := j715) rfl hj715, fun U hU hW => ⟨rfl, pw_pre hP hK hN hD hU hW⟩⟩ rfl rfl hl.1 rfl (lv_room (Nat.le_of_ble_eq_true rfl)) dX5_follow_63 ⟨Nat.le_of_ble_eq_true rfl, Nat.le_of_ble_eq_true rfl⟩) hS (fun q _ h => hFc q h) hFc (fun d9 t H1 locs ht hvm hw hB hz1 hk1 hS => ?_)
            obtain ⟨I716, Q716, J716⟩ := d9
            obtain ⟨hC, hR1⟩ := hw
            obtain ⟨hP, hK1, hD1⟩ := hB
            rw [ht] at hP
            have hD := hD1.weaken (fun _ _ _ h => hFc _ h)
            have hR := hR.trans hR1
            generalize H1 = H at hP hS ⊢
            have hP : va_P (dC, dI) vwCl (va_pl L (pF cy K N T I716 Q716 J716)) H := hP
            have hD : va_D A (va_pl L (pF cy K N T I716 Q716 J716)) := hD
            have hC : CT v L K N T I716 Q716 := hC
            have hR : RS v I Q J I716 Q716 J716 := hR
            refine lv_aload hx hb dX5_follow_66 (lv_at hl 1 rfl) ?_
            refine lv_aload hx hb dX5_follow_68 (lv_at hl 1 rfl) ?_
            obtain ⟨j718, hj718⟩ := pG_4 (cy := cy) (N := N) (T := T) (I := I716) (Q := Q716) (J := J716) hTb704.1 hTb704.2
            refine va_get (D := (dC, dI)) (ci := 4) (v := .int (I716 b704 2)) (C := RX4) (T := TX4) (N := 7) hx hb hts hi4 hown hK hP j718 hj718 rfl 2 (by decide) (hts (.fieldLink RX5 132 "TallyLogs$Replica" "end" "I") (by decide +kernel)) (fun _ h9 => h9) rfl dX5_follow_70 ?_
            refine lv_topi (fun x719 ex719 => ?_)
            obtain ⟨j720, hj720⟩ := pG_4 (cy := cy) (N := N) (T := T) (I := I716) (Q := Q716) (J := J716) hTb704.1 hTb704.2
            have hDo := hD
            refine va_put (D := (dC, dI)) (ci := 4) (v := .int x719) (ty := .int) (C := RX4) (T := TX4) (N := 7) hx hb hts hi4 tyX4 tyX4_ok nmX4 hown hK hP hD hS j720 hj720 rfl 5 (by decide) (hts (.fieldLink RX5 157 "TallyLogs$Replica" "known" "I") (by decide +kernel)) (fun _ h9 => h9) rfl (by decide +kernel) rfl rfl (Nat.le_of_ble_eq_true rfl) dX5_follow_73 (fun H locs hP hD hS => ?_)
            have hP := Eq.mp (congrArg (fun w => va_P (dC, dI) vwCl w H) (pP_4_5 (x := x719) hDo hTb704.1 hTb704.2 hj720)) hP
            obtain ⟨I721, eI721⟩ : ∃ z, z = p2 I716 b704 5 x719 := ⟨_, rfl⟩
            rw [← eI721] at hP
            have hR : RS v I Q J I721 Q716 J716 := by rw [eI721]; exact hR.pi hC (by rw [hTb704.2]; decide)
            have hC : CT v L K N T I721 Q716 := by rw [eI721]; exact hC.pi (by rw [hTb704.2]; decide)
            have hD : va_D A (va_pl L (pF cy K N T I721 Q716 J716)) := pD hDo
            refine lv_aload hx hb dX5_follow_76 (lv_at hl 1 rfl) ?_
            obtain ⟨j722, hj722⟩ := pG_4 (cy := cy) (N := N) (T := T) (I := I721) (Q := Q716) (J := J716) hTb704.1 hTb704.2
            refine va_get (D := (dC, dI)) (ci := 4) (v := .int (I721 b704 2)) (C := RX4) (T := TX4) (N := 7) hx hb hts hi4 hown hK hP j722 hj722 rfl 2 (by decide) (hts (.fieldLink RX5 132 "TallyLogs$Replica" "end" "I") (by decide +kernel)) (fun _ h9 => h9) rfl dX5_follow_78 ?_
            refine lv_topi (fun x723 ex723 => ?_)
            refine lv_aload hx hb dX5_follow_81 (lv_at hl 0 rfl) ?_
            obtain ⟨j724, hj724⟩ := pG_4 (cy := cy) (N := N) (T := T) (I := I721) (Q := Q716) (J := J716) hTb714.1 hTb714.2
            refine va_get (D := (dC, dI)) (ci := 4) (v := .int (I721 b714 2)) (C := RX4) (T := TX4) (N := 7) hx hb hts hi4 hown hK hP j724 hj724 rfl 2 (by decide) (hts (.fieldLink RX5 132 "TallyLogs$Replica" "end" "I") (by decide +kernel)) (fun _ h9 => h9) rfl dX5_follow_83 ?_
            refine lv_topi (fun x725 ex725 => ?_)
            refine lv_icmp_ne (tgt := 98) hx hb dX5_follow_86 (by decide) (fun c726 => ?_) (fun c726 => ?_)
            · refine lv_aload hx hb dX5_follow_98 (lv_at hl 1 rfl) ?_
              obtain ⟨j727, hj727⟩ := pG_4 (cy := cy) (N := N) (T := T) (I := I721) (Q := Q716) (J := J716) hTb704.1 hTb704.2
              refine va_get (D := (dC, dI)) (ci := 4) (v := .int (I721 b704 2)) (C := RX4) (T := TX4) (N := 7) hx hb hts hi4 hown hK hP j727 hj727 rfl 2 (by decide) (hts (.fieldLink RX5 132 "TallyLogs$Replica" "end" "I") (by decide +kernel)) (fun _ h9 => h9) rfl dX5_follow_100 ?_
              refine lv_topi (fun x728 ex728 => ?_)
              refine lv_aload hx hb dX5_follow_103 (lv_at hl 0 rfl) ?_
              obtain ⟨j729, hj729⟩ := pG_4 (cy := cy) (N := N) (T := T) (I := I721) (Q := Q716) (J := J716) hTb714.1 hTb714.2
              refine va_get (D := (dC, dI)) (ci := 4) (v := .int (I721 b714 3)) (C := RX4) (T := TX4) (N := 7) hx hb hts hi4 hown hK hP j729 hj729 rfl 3 (by decide) (hts (.fieldLink RX5 146 "TallyLogs$Replica" "hw" "I") (by decide +kernel)) (fun _ h9 => h9) rfl dX5_follow_105 ?_
              refine lv_topi (fun x730 ex730 => ?_)
              refine lv_icmp_lt (tgt := 123) hx hb dX5_follow_108 (by decide) (fun c731 => ?_) (fun c731 => ?_)
              · refine lv_aload_n hx hb dX5_follow_123 rfl (lv_at hl 2 rfl) ?_
                obtain ⟨j732, hj732⟩ := pG_2 (cy := cy) (N := N) (T := T) (I := I721) (Q := Q716) (J := J716) hTb701.1 hTb701.2
                have hFc := pfree hD hS hA
                refine va_callv (va_runV (As := []) (rest := []) ⟨hx, hb, hml, hown, hts⟩ (c_X2_raiseHw l dC dI cy v L K N T I721 Q716 J716 H.size b701  hC hTb701.1 hTb701.2) (cwV 0 hts gX5_follow_X2_raiseHw rfl rfl rfl (by decide +kernel) ⟨Nat.le_of_ble_eq_true rfl, Nat.le_of_ble_eq_true rfl⟩) ⟨pw_blind, va_recv hK hP (ci := 2) (q0 := j732) rfl hj732, fun U hU hW => ⟨rfl, pw_pre hP hK hN hD hU hW⟩⟩ rfl rfl hl.1 rfl (lv_room (Nat.le_of_ble_eq_true rfl)) dX5_follow_124 ⟨Nat.le_of_ble_eq_true rfl, Nat.le_of_ble_eq_true rfl⟩) hS (fun q _ h => hFc q h) hFc (fun d9 t H1 locs ht hvm hw hB hz1 hk1 hS => ?_)
                obtain ⟨I733, Q733, J733⟩ := d9
                obtain ⟨hC, hR1⟩ := hw
                obtain ⟨hP, hK1, hD1⟩ := hB
                rw [ht] at hP
                have hD := hD1.weaken (fun _ _ _ h => hFc _ h)
                have hR := hR.trans hR1
                generalize H1 = H at hP hS ⊢
                have hP : va_P (dC, dI) vwCl (va_pl L (pF cy K N T I733 Q733 J733)) H := hP
                have hD : va_D A (va_pl L (pF cy K N T I733 Q733 J733)) := hD
                have hC : CT v L K N T I733 Q733 := hC
                have hR : RS v I Q J I733 Q733 J733 := hR
                refine lv_aload hx hb dX5_follow_127 (lv_at hl 1 rfl) ?_
                refine lv_aload hx hb dX5_follow_129 (lv_at hl 0 rfl) ?_
                obtain ⟨j735, hj735⟩ := pG_4 (cy := cy) (N := N) (T := T) (I := I733) (Q := Q733) (J := J733) hTb704.1 hTb704.2
                have hFc := pfree hD hS hA
                refine va_calli (va_runV (As := [.ref b714]) (rest := []) ⟨hx, hb, hml, hown, hts⟩ (c_X4_fetchFrom l dC dI cy v L K N T I733 Q733 J733 H.size b704 b714 hC hTb704.1 hTb704.2 hTb714.1 hTb714.2) (cwV 1 hts gX5_follow_X4_fetchFrom rfl rfl rfl (by decide +kernel) ⟨Nat.le_of_ble_eq_true rfl, Nat.le_of_ble_eq_true rfl⟩) ⟨pw_blind, va_recv hK hP (ci := 4) (q0 := j735) rfl hj735, fun U hU hW => ⟨rfl, pw_pre hP hK hN hD hU hW⟩⟩ rfl rfl hl.1 rfl (lv_room (Nat.le_of_ble_eq_true rfl)) dX5_follow_131 ⟨Nat.le_of_ble_eq_true rfl, Nat.le_of_ble_eq_true rfl⟩) hS (fun q _ h => hFc q h) hFc (fun r737 d9 t H1 locs ht hvm hw hB hz1 hk1 hS => ?_)
                obtain ⟨I736, Q736, J736⟩ := d9
                obtain ⟨⟨hC, hR1⟩, hr737⟩ := hw
                obtain ⟨hP, hK1, hD1⟩ := hB
                rw [ht] at hP
                have hD := hD1.weaken (fun _ _ _ h => hFc _ h)
                have hR := hR.trans hR1
                generalize H1 = H at hP hS ⊢
                have hP : va_P (dC, dI) vwCl (va_pl L (pF cy K N T I736 Q736 J736)) H := hP
                have hD : va_D A (va_pl L (pF cy K N T I736 Q736 J736)) := hD
                have hC : CT v L K N T I736 Q736 := hC
                have hR : RS v I Q J I736 Q736 J736 := hR
                exact W.iret (v := r737) hx hb hr (fun t ht hW => ⟨⟨r737, (I736, Q736, J736), rfl, ⟨⟨hC, hR⟩, trivial⟩, by rw [ht]; exact hP, va_K.moved hW.alike hK, hD⟩, hS.F ht⟩) hS.2.2 dX5_follow_134
              · refine lv_aload_n hx hb dX5_follow_111 rfl (lv_at hl 2 rfl) ?_
                refine lv_dup hx hb dX5_follow_112 rfl ?_
                obtain ⟨j738, hj738⟩ := pG_2 (cy := cy) (N := N) (T := T) (I := I721) (Q := Q716) (J := J716) hTb701.1 hTb701.2
                refine va_get (D := (dC, dI)) (ci := 2) (v := .int (I721 b701 5)) (C := RX2) (T := TX2) (N := 6) hx hb hts hi2 hown hK hP j738 hj738 rfl 5 (by decide) (hts (.fieldLink RX5 58 "TallyLogs$Partition" "inStep" "I") (by decide +kernel)) (fun _ h9 => h9) rfl dX5_follow_113 ?_
                refine lv_topi (fun x739 ex739 => ?_)
                refine lv_iconst (v := 1) hx hb dX5_follow_116 (by decide) ?_
                refine lv_iload_n hx hb dX5_follow_117 rfl (lv_at hl 4 rfl) ?_
                refine lv_ishl hx hb dX5_follow_118 ?_
                refine lv_topi (fun v740 ev740 => ?_)
                refine lv_ior hx hb dX5_follow_119 ?_
                refine lv_topi (fun v741 ev741 => ?_)
                obtain ⟨j742, hj742⟩ := pG_2 (cy := cy) (N := N) (T := T) (I := I721) (Q := Q716) (J := J716) hTb701.1 hTb701.2
                have hDo := hD
                refine va_put (D := (dC, dI)) (ci := 2) (v := .int v741) (ty := .int) (C := RX2) (T := TX2) (N := 6) hx hb hts hi2 tyX2 tyX2_ok nmX2 hown hK hP hD hS j742 hj742 rfl 5 (by decide) (hts (.fieldLink RX5 58 "TallyLogs$Partition" "inStep" "I") (by decide +kernel)) (fun _ h9 => h9) rfl (by decide +kernel) rfl rfl (Nat.le_of_ble_eq_true rfl) dX5_follow_120 (fun H locs hP hD hS => ?_)
                have hP := Eq.mp (congrArg (fun w => va_P (dC, dI) vwCl w H) (pP_2_5 (x := v741) hDo hTb701.1 hTb701.2 hj742)) hP
                obtain ⟨I743, eI743⟩ : ∃ z, z = p2 I721 b701 5 v741 := ⟨_, rfl⟩
                rw [← eI743] at hP
                have hR : RS v I Q J I743 Q716 J716 := by rw [eI743]; exact hR.pi hC (by rw [hTb701.2]; decide)
                have hC : CT v L K N T I743 Q716 := by rw [eI743]; exact hC.pi (by rw [hTb701.2]; decide)
                have hD : va_D A (va_pl L (pF cy K N T I743 Q716 J716)) := pD hDo
                refine lv_aload_n hx hb dX5_follow_123 rfl (lv_at hl 2 rfl) ?_
                obtain ⟨j744, hj744⟩ := pG_2 (cy := cy) (N := N) (T := T) (I := I743) (Q := Q716) (J := J716) hTb701.1 hTb701.2
                have hFc := pfree hD hS hA
                refine va_callv (va_runV (As := []) (rest := []) ⟨hx, hb, hml, hown, hts⟩ (c_X2_raiseHw l dC dI cy v L K N T I743 Q716 J716 H.size b701  hC hTb701.1 hTb701.2) (cwV 0 hts gX5_follow_X2_raiseHw rfl rfl rfl (by decide +kernel) ⟨Nat.le_of_ble_eq_true rfl, Nat.le_of_ble_eq_true rfl⟩) ⟨pw_blind, va_recv hK hP (ci := 2) (q0 := j744) rfl hj744, fun U hU hW => ⟨rfl, pw_pre hP hK hN hD hU hW⟩⟩ rfl rfl hl.1 rfl (lv_room (Nat.le_of_ble_eq_true rfl)) dX5_follow_124 ⟨Nat.le_of_ble_eq_true rfl, Nat.le_of_ble_eq_true rfl⟩) hS (fun q _ h => hFc q h) hFc (fun d9 t H1 locs ht hvm hw hB hz1 hk1 hS => ?_)
                obtain ⟨I745, Q745, J745⟩ := d9
                obtain ⟨hC, hR1⟩ := hw
                obtain ⟨hP, hK1, hD1⟩ := hB
                rw [ht] at hP
                have hD := hD1.weaken (fun _ _ _ h => hFc _ h)
                have hR := hR.trans hR1
                generalize H1 = H at hP hS ⊢
                have hP : va_P (dC, dI) vwCl (va_pl L (pF cy K N T I745 Q745 J745)) H := hP
                have hD : va_D A (va_pl L (pF cy K N T I745 Q745 J745)) := hD
                have hC : CT v L K N T I745 Q745 := hC
                have hR : RS v I Q J I745 Q745 J745 := hR
                refine lv_aload hx hb dX5_follow_127 (lv_at hl 1 rfl) ?_
                refine lv_aload hx hb dX5_follow_129 (lv_at hl 0 rfl) ?_
                obtain ⟨j747, hj747⟩ := pG_4 (cy := cy) (N := N) (T := T) (I := I745) (Q := Q745) (J := J745) hTb704.1 hTb704.2
                have hFc := pfree hD hS hA
                refine va_calli (va_runV (As := [.ref b714]) (rest := []) ⟨hx, hb, hml, hown, hts⟩ (c_X4_fetchFrom l dC dI cy v L K N T I745 Q745 J745 H.size b704 b714 hC hTb704.1 hTb704.2 hTb714.1 hTb714.2) (cwV 1 hts gX5_follow_X4_fetchFrom rfl rfl rfl (by decide +kernel) ⟨Nat.le_of_ble_eq_true rfl, Nat.le_of_ble_eq_true rfl⟩) ⟨pw_blind, va_recv hK hP (ci := 4) (q0 := j747) rfl hj747, fun U hU hW => ⟨rfl, pw_pre hP hK hN hD hU hW⟩⟩ rfl rfl hl.1 rfl (lv_room (Nat.le_of_ble_eq_true rfl)) dX5_follow_131 ⟨Nat.le_of_ble_eq_true rfl, Nat.le_of_ble_eq_true rfl⟩) hS (fun q _ h => hFc q h) hFc (fun r749 d9 t H1 locs ht hvm hw hB hz1 hk1 hS => ?_)
                obtain ⟨I748, Q748, J748⟩ := d9
                obtain ⟨⟨hC, hR1⟩, hr749⟩ := hw
                obtain ⟨hP, hK1, hD1⟩ := hB
                rw [ht] at hP
                have hD := hD1.weaken (fun _ _ _ h => hFc _ h)
                have hR := hR.trans hR1
                generalize H1 = H at hP hS ⊢
                have hP : va_P (dC, dI) vwCl (va_pl L (pF cy K N T I748 Q748 J748)) H := hP
                have hD : va_D A (va_pl L (pF cy K N T I748 Q748 J748)) := hD
                have hC : CT v L K N T I748 Q748 := hC
                have hR : RS v I Q J I748 Q748 J748 := hR
                exact W.iret (v := r749) hx hb hr (fun t ht hW => ⟨⟨r749, (I748, Q748, J748), rfl, ⟨⟨hC, hR⟩, trivial⟩, by rw [ht]; exact hP, va_K.moved hW.alike hK, hD⟩, hS.F ht⟩) hS.2.2 dX5_follow_134
            · refine lv_aload hx hb dX5_follow_89 (lv_at hl 1 rfl) ?_
              refine lv_aload_n hx hb dX5_follow_91 rfl (lv_at hl 3 rfl) ?_
              obtain ⟨j750, hj750⟩ := pG_5 (cy := cy) (N := N) (T := T) (I := I721) (Q := Q716) (J := J716) (hC.at 0 (by decide)) (hC.k 0 (by decide) rfl)
              refine va_get (D := (dC, dI)) (ci := 5) (v := .int (I721 (v 0) 4)) (C := RX5) (T := TX5) (N := 6) hx hb hts hi5 hown hK hP j750 hj750 rfl 4 (by decide) (hts (.fieldLink RX5 31 "TallyLogs" "now" "I") (by decide +kernel)) (fun _ h9 => h9) rfl dX5_follow_92 ?_
              refine lv_topi (fun x751 ex751 => ?_)
              obtain ⟨j752, hj752⟩ := pG_4 (cy := cy) (N := N) (T := T) (I := I721) (Q := Q716) (J := J716) hTb704.1 hTb704.2
              have hDo := hD
              refine va_put (D := (dC, dI)) (ci := 4) (v := .int x751) (ty := .int) (C := RX4) (T := TX4) (N := 7) hx hb hts hi4 tyX4 tyX4_ok nmX4 hown hK hP hD hS j752 hj752 rfl 6 (by decide) (hts (.fieldLink RX5 160 "TallyLogs$Replica" "caught" "I") (by decide +kernel)) (fun _ h9 => h9) rfl (by decide +kernel) rfl rfl (Nat.le_of_ble_eq_true rfl) dX5_follow_95 (fun H locs hP hD hS => ?_)
              have hP := Eq.mp (congrArg (fun w => va_P (dC, dI) vwCl w H) (pP_4_6 (x := x751) hDo hTb704.1 hTb704.2 hj752)) hP
              obtain ⟨I753, eI753⟩ : ∃ z, z = p2 I721 b704 6 x751 := ⟨_, rfl⟩
              rw [← eI753] at hP
              have hR : RS v I Q J I753 Q716 J716 := by rw [eI753]; exact hR.pi hC (by rw [hTb704.2]; decide)
              have hC : CT v L K N T I753 Q716 := by rw [eI753]; exact hC.pi (by rw [hTb704.2]; decide)
              have hD : va_D A (va_pl L (pF cy K N T I753 Q716 J716)) := pD hDo
              refine lv_aload hx hb dX5_follow_98 (lv_at hl 1 rfl) ?_
              obtain ⟨j754, hj754⟩ := pG_4 (cy := cy) (N := N) (T := T) (I := I753) (Q := Q716) (J := J716) hTb704.1 hTb704.2
              refine va_get (D := (dC, dI)) (ci := 4) (v := .int (I753 b704 2)) (C := RX4) (T := TX4) (N := 7) hx hb hts hi4 hown hK hP j754 hj754 rfl 2 (by decide) (hts (.fieldLink RX5 132 "TallyLogs$Replica" "end" "I") (by decide +kernel)) (fun _ h9 => h9) rfl dX5_follow_100 ?_
              refine lv_topi (fun x755 ex755 => ?_)
              refine lv_aload hx hb dX5_follow_103 (lv_at hl 0 rfl) ?_
              obtain ⟨j756, hj756⟩ := pG_4 (cy := cy) (N := N) (T := T) (I := I753) (Q := Q716) (J := J716) hTb714.1 hTb714.2
              refine va_get (D := (dC, dI)) (ci := 4) (v := .int (I753 b714 3)) (C := RX4) (T := TX4) (N := 7) hx hb hts hi4 hown hK hP j756 hj756 rfl 3 (by decide) (hts (.fieldLink RX5 146 "TallyLogs$Replica" "hw" "I") (by decide +kernel)) (fun _ h9 => h9) rfl dX5_follow_105 ?_
              refine lv_topi (fun x757 ex757 => ?_)
              refine lv_icmp_lt (tgt := 123) hx hb dX5_follow_108 (by decide) (fun c758 => ?_) (fun c758 => ?_)
              · refine lv_aload_n hx hb dX5_follow_123 rfl (lv_at hl 2 rfl) ?_
                obtain ⟨j759, hj759⟩ := pG_2 (cy := cy) (N := N) (T := T) (I := I753) (Q := Q716) (J := J716) hTb701.1 hTb701.2
                have hFc := pfree hD hS hA
                refine va_callv (va_runV (As := []) (rest := []) ⟨hx, hb, hml, hown, hts⟩ (c_X2_raiseHw l dC dI cy v L K N T I753 Q716 J716 H.size b701  hC hTb701.1 hTb701.2) (cwV 0 hts gX5_follow_X2_raiseHw rfl rfl rfl (by decide +kernel) ⟨Nat.le_of_ble_eq_true rfl, Nat.le_of_ble_eq_true rfl⟩) ⟨pw_blind, va_recv hK hP (ci := 2) (q0 := j759) rfl hj759, fun U hU hW => ⟨rfl, pw_pre hP hK hN hD hU hW⟩⟩ rfl rfl hl.1 rfl (lv_room (Nat.le_of_ble_eq_true rfl)) dX5_follow_124 ⟨Nat.le_of_ble_eq_true rfl, Nat.le_of_ble_eq_true rfl⟩) hS (fun q _ h => hFc q h) hFc (fun d9 t H1 locs ht hvm hw hB hz1 hk1 hS => ?_)
                obtain ⟨I760, Q760, J760⟩ := d9
                obtain ⟨hC, hR1⟩ := hw
                obtain ⟨hP, hK1, hD1⟩ := hB
                rw [ht] at hP
                have hD := hD1.weaken (fun _ _ _ h => hFc _ h)
                have hR := hR.trans hR1
                generalize H1 = H at hP hS ⊢
                have hP : va_P (dC, dI) vwCl (va_pl L (pF cy K N T I760 Q760 J760)) H := hP
                have hD : va_D A (va_pl L (pF cy K N T I760 Q760 J760)) := hD
                have hC : CT v L K N T I760 Q760 := hC
                have hR : RS v I Q J I760 Q760 J760 := hR
                refine lv_aload hx hb dX5_follow_127 (lv_at hl 1 rfl) ?_
                refine lv_aload hx hb dX5_follow_129 (lv_at hl 0 rfl) ?_
                obtain ⟨j762, hj762⟩ := pG_4 (cy := cy) (N := N) (T := T) (I := I760) (Q := Q760) (J := J760) hTb704.1 hTb704.2
                have hFc := pfree hD hS hA
                refine va_calli (va_runV (As := [.ref b714]) (rest := []) ⟨hx, hb, hml, hown, hts⟩ (c_X4_fetchFrom l dC dI cy v L K N T I760 Q760 J760 H.size b704 b714 hC hTb704.1 hTb704.2 hTb714.1 hTb714.2) (cwV 1 hts gX5_follow_X4_fetchFrom rfl rfl rfl (by decide +kernel) ⟨Nat.le_of_ble_eq_true rfl, Nat.le_of_ble_eq_true rfl⟩) ⟨pw_blind, va_recv hK hP (ci := 4) (q0 := j762) rfl hj762, fun U hU hW => ⟨rfl, pw_pre hP hK hN hD hU hW⟩⟩ rfl rfl hl.1 rfl (lv_room (Nat.le_of_ble_eq_true rfl)) dX5_follow_131 ⟨Nat.le_of_ble_eq_true rfl, Nat.le_of_ble_eq_true rfl⟩) hS (fun q _ h => hFc q h) hFc (fun r764 d9 t H1 locs ht hvm hw hB hz1 hk1 hS => ?_)
                obtain ⟨I763, Q763, J763⟩ := d9
                obtain ⟨⟨hC, hR1⟩, hr764⟩ := hw
                obtain ⟨hP, hK1, hD1⟩ := hB
                rw [ht] at hP
                have hD := hD1.weaken (fun _ _ _ h => hFc _ h)
                have hR := hR.trans hR1
                generalize H1 = H at hP hS ⊢
                have hP : va_P (dC, dI) vwCl (va_pl L (pF cy K N T I763 Q763 J763)) H := hP
                have hD : va_D A (va_pl L (pF cy K N T I763 Q763 J763)) := hD
                have hC : CT v L K N T I763 Q763 := hC
                have hR : RS v I Q J I763 Q763 J763 := hR
                exact W.iret (v := r764) hx hb hr (fun t ht hW => ⟨⟨r764, (I763, Q763, J763), rfl, ⟨⟨hC, hR⟩, trivial⟩, by rw [ht]; exact hP, va_K.moved hW.alike hK, hD⟩, hS.F ht⟩) hS.2.2 dX5_follow_134
              · refine lv_aload_n hx hb dX5_follow_111 rfl (lv_at hl 2 rfl) ?_
                refine lv_dup hx hb dX5_follow_112 rfl ?_
                obtain ⟨j765, hj765⟩ := pG_2 (cy := cy) (N := N) (T := T) (I := I753) (Q := Q716) (J := J716) hTb701.1 hTb701.2
                refine va_get (D := (dC, dI)) (ci := 2) (v := .int (I753 b701 5)) (C := RX2) (T := TX2) (N := 6) hx hb hts hi2 hown hK hP j765 hj765 rfl 5 (by decide) (hts (.fieldLink RX5 58 "TallyLogs$Partition" "inStep" "I") (by decide +kernel)) (fun _ h9 => h9) rfl dX5_follow_113 ?_
                refine lv_topi (fun x766 ex766 => ?_)
                refine lv_iconst (v := 1) hx hb dX5_follow_116 (by decide) ?_
                refine lv_iload_n hx hb dX5_follow_117 rfl (lv_at hl 4 rfl) ?_
                refine lv_ishl hx hb dX5_follow_118 ?_
                refine lv_topi (fun v767 ev767 => ?_)
                refine lv_ior hx hb dX5_follow_119 ?_
                refine lv_topi (fun v768 ev768 => ?_)
                obtain ⟨j769, hj769⟩ := pG_2 (cy := cy) (N := N) (T := T) (I := I753) (Q := Q716) (J := J716) hTb701.1 hTb701.2
                have hDo := hD
                refine va_put (D := (dC, dI)) (ci := 2) (v := .int v768) (ty := .int) (C := RX2) (T := TX2) (N := 6) hx hb hts hi2 tyX2 tyX2_ok nmX2 hown hK hP hD hS j769 hj769 rfl 5 (by decide) (hts (.fieldLink RX5 58 "TallyLogs$Partition" "inStep" "I") (by decide +kernel)) (fun _ h9 => h9) rfl (by decide +kernel) rfl rfl (Nat.le_of_ble_eq_true rfl) dX5_follow_120 (fun H locs hP hD hS => ?_)
                have hP := Eq.mp (congrArg (fun w => va_P (dC, dI) vwCl w H) (pP_2_5 (x := v768) hDo hTb701.1 hTb701.2 hj769)) hP
                obtain ⟨I770, eI770⟩ : ∃ z, z = p2 I753 b701 5 v768 := ⟨_, rfl⟩
                rw [← eI770] at hP
                have hR : RS v I Q J I770 Q716 J716 := by rw [eI770]; exact hR.pi hC (by rw [hTb701.2]; decide)
                have hC : CT v L K N T I770 Q716 := by rw [eI770]; exact hC.pi (by rw [hTb701.2]; decide)
                have hD : va_D A (va_pl L (pF cy K N T I770 Q716 J716)) := pD hDo
                refine lv_aload_n hx hb dX5_follow_123 rfl (lv_at hl 2 rfl) ?_
                obtain ⟨j771, hj771⟩ := pG_2 (cy := cy) (N := N) (T := T) (I := I770) (Q := Q716) (J := J716) hTb701.1 hTb701.2
                have hFc := pfree hD hS hA
                refine va_callv (va_runV (As := []) (rest := []) ⟨hx, hb, hml, hown, hts⟩ (c_X2_raiseHw l dC dI cy v L K N T I770 Q716 J716 H.size b701  hC hTb701.1 hTb701.2) (cwV 0 hts gX5_follow_X2_raiseHw rfl rfl rfl (by decide +kernel) ⟨Nat.le_of_ble_eq_true rfl, Nat.le_of_ble_eq_true rfl⟩) ⟨pw_blind, va_recv hK hP (ci := 2) (q0 := j771) rfl hj771, fun U hU hW => ⟨rfl, pw_pre hP hK hN hD hU hW⟩⟩ rfl rfl hl.1 rfl (lv_room (Nat.le_of_ble_eq_true rfl)) dX5_follow_124 ⟨Nat.le_of_ble_eq_true rfl, Nat.le_of_ble_eq_true rfl⟩) hS (fun q _ h => hFc q h) hFc (fun d9 t H1 locs ht hvm hw hB hz1 hk1 hS => ?_)
                obtain ⟨I772, Q772, J772⟩ := d9
                obtain ⟨hC, hR1⟩ := hw
                obtain ⟨hP, hK1, hD1⟩ := hB
                rw [ht] at hP
                have hD := hD1.weaken (fun _ _ _ h => hFc _ h)
                have hR := hR.trans hR1
                generalize H1 = H at hP hS ⊢
                have hP : va_P (dC, dI) vwCl (va_pl L (pF cy K N T I772 Q772 J772)) H := hP
                have hD : va_D A (va_pl L (pF cy K N T I772 Q772 J772)) := hD
                have hC : CT v L K N T I772 Q772 := hC
                have hR : RS v I Q J I772 Q772 J772 := hR
                refine lv_aload hx hb dX5_follow_127 (lv_at hl 1 rfl) ?_
                refine lv_aload hx hb dX5_follow_129 (lv_at hl 0 rfl) ?_
                obtain ⟨j774, hj774⟩ := pG_4 (cy := cy) (N := N) (T := T) (I := I772) (Q := Q772) (J := J772) hTb704.1 hTb704.2
                have hFc := pfree hD hS hA
                refine va_calli (va_runV (As := [.ref b714]) (rest := []) ⟨hx, hb, hml, hown, hts⟩ (c_X4_fetchFrom l dC dI cy v L K N T I772 Q772 J772 H.size b704 b714 hC hTb704.1 hTb704.2 hTb714.1 hTb714.2) (cwV 1 hts gX5_follow_X4_fetchFrom rfl rfl rfl (by decide +kernel) ⟨Nat.le_of_ble_eq_true rfl, Nat.le_of_ble_eq_true rfl⟩) ⟨pw_blind, va_recv hK hP (ci := 4) (q0 := j774) rfl hj774, fun U hU hW => ⟨rfl, pw_pre hP hK hN hD hU hW⟩⟩ rfl rfl hl.1 rfl (lv_room (Nat.le_of_ble_eq_true rfl)) dX5_follow_131 ⟨Nat.le_of_ble_eq_true rfl, Nat.le_of_ble_eq_true rfl⟩) hS (fun q _ h => hFc q h) hFc (fun r776 d9 t H1 locs ht hvm hw hB hz1 hk1 hS => ?_)
                obtain ⟨I775, Q775, J775⟩ := d9
                obtain ⟨⟨hC, hR1⟩, hr776⟩ := hw
                obtain ⟨hP, hK1, hD1⟩ := hB
                rw [ht] at hP
                have hD := hD1.weaken (fun _ _ _ h => hFc _ h)
                have hR := hR.trans hR1
                generalize H1 = H at hP hS ⊢
                have hP : va_P (dC, dI) vwCl (va_pl L (pF cy K N T I775 Q775 J775)) H := hP
                have hD : va_D A (va_pl L (pF cy K N T I775 Q775 J775)) := hD
                have hC : CT v L K N T I775 Q775 := hC
                have hR : RS v I Q J I775 Q775 J775 := hR
                exact W.iret (v := r776) hx hb hr (fun t ht hW => ⟨⟨r776, (I775, Q775, J775), rfl, ⟨⟨hC, hR⟩, trivial⟩, by rw [ht]; exact hP, va_K.moved hW.alike hK, hD⟩, hS.F ht⟩) hS.2.2 dX5_follow_134
        · refine lv_iconst (v := (-1)) hx hb dX5_follow_43 (by decide) ?_
          exact W.iret (v := (-1)) hx hb hr (fun t ht hW => ⟨⟨(-1), (I, Q, J), rfl, ⟨⟨hC, hR⟩, trivial⟩, by rw [ht]; exact hP, va_K.moved hW.alike hK, hD⟩, hS.F ht⟩) hS.2.2 dX5_follow_44
set_option maxHeartbeats 4000000 in
set_option maxRecDepth 100000 in
/-- consume -/
theorem c_X5_consume (l : Launch) (dC : Nat → ClassId) (dI : Nat → Nat → Nat) (cy : Nat → ClassId) (v : Nat → Nat) (L : List Nat) (K N : Nat → Nat) (T : Nat → Nat → Nat) (I : Nat → Nat → Int32) (Q : Nat → Nat → Option Nat) (J : Nat → Nat → Int32) (sz : Nat) (xp : Int32) (xo : Int32) (cm : Int32) (hC : CT v L K N T I Q) : Met l yX5_consume wsX5_consume ({ frames := 5, cells := 0, slots := 0, locals := 114 }) (va_Pc [.ref (v 0), .int xp, .int xo, .int cm] (pW dC dI cy L (pF cy K N T I Q J) sz)) (va_Qi (fun (r : Int32) (d : (Nat → Nat → Int32) × (Nat → Nat → Option Nat) × (Nat → Nat → Int32)) => (CT v L K N T d.1 d.2.1 ∧ RS v I Q J d.1 d.2.1 d.2.2) ∧ True) (fun (d : (Nat → Nat → Int32) × (Nat → Nat → Option Nat) × (Nat → Nat → Int32)) t => va_P (dC, dI) vwCl (va_pl L (pF cy K N T d.1 d.2.1 d.2.2)) t.heap ∧ va_K (dC, dI) vwCl (pTy cy) t ∧ va_D (va_A (va_pl L (pF cy K N T I Q J)) sz) (va_pl L (pF cy K N T d.1 d.2.1 d.2.2))) (va_A (va_pl L (pF cy K N T I Q J)) sz)) 0 0 (va_A (va_pl L (pF cy K N T I Q J)) sz) := by
  refine Met.ofW (cc := cX5_consume) (maxL := 8) (ret := (some .int)) (by decide) rfl ?_
  intro p e s m args below meth c s₁ B hml hv
  obtain ⟨rfl, hsz, ⟨hP, hK, hN⟩, hD0⟩ := hv
  have hx := B.exec
  have hb := B.bytes
  have hr := B.returns
  have hts := atoms_spec (ws := wsX5_consume) B.pre
  have hown : s.vm.findClass RX5 = some m.cls := findClass_of_methodNamed B.named
  have hlocks := B.notSynchronized
  have hi5 : ∀ w ∈ wsX50, w ∈ wsX5_consume := by decide +kernel
  have hi4 : ∀ w ∈ wsX40, w ∈ wsX5_consume := by decide +kernel
  have hl := lv_entry ([.ref (v 0), .int xp, .int xo, .int cm]) (n := 8) (Nat.le_of_ble_eq_true rfl)
  rw [lg_entry_eq]
  generalize (lg_sl ([.ref (v 0), .int xp, .int xo, .int cm]) ++ List.replicate (8 - (lg_sl ([.ref (v 0), .int xp, .int xo, .int cm])).length) Slot.unset).toArray = ls at hl ⊢
  have hl : lv_has ls 8 [(0, .ref (v 0)), (1, .int xp), (2, .int xo), (3, .int cm)] := hl
  subst hsz
  have hD := hD0.self (sz := s.heap.size)
  generalize hAe : va_A (va_pl L (pF cy K N T I Q J)) s.heap.size = A at hD ⊢
  have hA : ∀ q : Nat, s.heap.size ≤ q → A q := fun q h => by rw [← hAe]; exact Or.inr h
  have hS : va_S A s.heap s.heap [] := va_S.rf
  have hR : RS v I Q J I Q J := RS.rf
  have hn28 := hN.1
  have hn30 := hN.2.1
  have hn37 := hN.2.2.1
  refine lv_aload_n hx hb dX5_consume_0 rfl (lv_at hl 0 rfl) ?_
  refine lv_iload_n hx hb dX5_consume_1 rfl (lv_at hl 1 rfl) ?_
  obtain ⟨j778, hj778⟩ := pG_5 (cy := cy) (N := N) (T := T) (I := I) (Q := Q) (J := J) (hC.at 0 (by decide)) (hC.k 0 (by decide) rfl)
  refine va_csq (W.runV (As := [.int xp]) (rest := []) ⟨hx, hb, hml, hown, hts⟩ (c_X5_partitionAt l dC dI cy v L K N T I Q J  xp hC) (cwV 1 hts gX5_consume_X5_partitionAt rfl rfl rfl (by decide +kernel) ⟨Nat.le_of_ble_eq_true rfl, Nat.le_of_ble_eq_true rfl⟩) ⟨pb_blind, va_recv hK hP (ci := 5) (q0 := j778) rfl hj778, fun U hU hW => ⟨rfl, pb_pre hP hK hN hU hW⟩⟩ rfl rfl hl.1 rfl (lv_room (Nat.le_of_ble_eq_true rfl)) dX5_consume_2 ⟨Nat.le_of_ble_eq_true rfl, Nat.le_of_ble_eq_true rfl⟩) (fun r777 hr777 => ?_)
  cases r777 with
  | none =>
    refine W.eq (g2 := F0 m 5 ls [.null]) rfl ?_
    refine lv_astoreN (lv' := [(4, .null), (0, .ref (v 0)), (1, .int xp), (2, .int xo), (3, .int cm)]) hx hb dX5_consume_5 hl (by decide) rfl (fun ls hl => ?_)
    refine lv_aloadN hx hb dX5_consume_7 (lv_at hl 0 rfl) ?_
    refine lv_ifnonnullN hx hb dX5_consume_9 ?_
    refine lv_iconst (v := (-1)) hx hb dX5_consume_12 (by decide) ?_
    exact W.iret (v := (-1)) hx hb hr (fun t ht hW => ⟨⟨(-1), (I, Q, J), rfl, ⟨⟨hC, hR⟩, trivial⟩, by rw [ht]; exact hP, va_K.moved hW.alike hK, hD⟩, hS.F ht⟩) hS.2.2 dX5_consume_13
  | some b779 =>
    have hTb779 := hr777 b779 rfl
    refine W.eq (g2 := F0 m 5 ls [.ref b779]) rfl ?_
    refine lv_astore (lv' := [(4, .ref b779), (0, .ref (v 0)), (1, .int xp), (2, .int xo), (3, .int cm)]) hx hb dX5_consume_5 hl (by decide) rfl (fun ls hl => ?_)
    refine lv_aload hx hb dX5_consume_7 (lv_at hl 0 rfl) ?_
    refine lv_ifnonnull (tgt := 14) hx hb dX5_consume_9 (by decide) ?_
    refine lv_aload hx hb dX5_consume_14 (lv_at hl 0 rfl) ?_
    obtain ⟨j781, hj781⟩ := pG_2 (cy := cy) (N := N) (T := T) (I := I) (Q := Q) (J := J) hTb779.1 hTb779.2
    refine va_csq (W.runV (As := []) (rest := []) ⟨hx, hb, hml, hown, hts⟩ (c_X2_leading l dC dI cy v L K N T I Q J b779  hC hTb779.1 hTb779.2) (cwV 0 hts gX5_consume_X2_leading rfl rfl rfl (by decide +kernel) ⟨Nat.le_of_ble_eq_true rfl, Nat.le_of_ble_eq_true rfl⟩) ⟨pb_blind, va_recv hK hP (ci := 2) (q0 := j781) rfl hj781, fun U hU hW => ⟨rfl, pb_pre hP hK hN hU hW⟩⟩ rfl rfl hl.1 rfl (lv_room (Nat.le_of_ble_eq_true rfl)) dX5_consume_16 ⟨Nat.le_of_ble_eq_true rfl, Nat.le_of_ble_eq_true rfl⟩) (fun r780 hr780 => ?_)
    cases r780 with
    | none =>
      refine W.eq (g2 := F0 m 19 ls [.null]) rfl ?_
      refine lv_astoreN (lv' := [(5, .null), (4, .ref b779), (0, .ref (v 0)), (1, .int xp), (2, .int xo), (3, .int cm)]) hx hb dX5_consume_19 hl (by decide) rfl (fun ls hl => ?_)
      refine lv_aloadN hx hb dX5_consume_21 (lv_at hl 0 rfl) ?_
      refine lv_ifnonnullN hx hb dX5_consume_23 ?_
      refine lv_bipush (v := (-2)) hx hb dX5_consume_26 (by decide) ?_
      exact W.iret (v := (-2)) hx hb hr (fun t ht hW => ⟨⟨(-2), (I, Q, J), rfl, ⟨⟨hC, hR⟩, trivial⟩, by rw [ht]; exact hP, va_K.moved hW.alike hK, hD⟩, hS.F ht⟩) hS.2.2 dX5_consume_28
    | some b782 =>
      have hTb782 := hr780 b782 rfl
      refine W.eq (g2 := F0 m 19 ls [.ref b782]) rfl ?_
      refine lv_astore (lv' := [(5, .ref b782), (4, .ref b779), (0, .ref (v 0)), (1, .int xp), (2, .int xo), (3, .int cm)]) hx hb dX5_consume_19 hl (by decide) rfl (fun ls hl => ?_)
      refine lv_aload hx hb dX5_consume_21 (lv_at hl 0 rfl) ?_
      refine lv_ifnonnull (tgt := 29) hx hb dX5_consume_23 (by decide) ?_
      refine lv_iload_n hx hb dX5_consume_29 rfl (lv_at hl 4 rfl) ?_
      refine lv_aload hx hb dX5_consume_30 (lv_at hl 0 rfl) ?_
      obtain ⟨j783, hj783⟩ := pG_4 (cy := cy) (N := N) (T := T) (I := I) (Q := Q) (J := J) hTb782.1 hTb782.2
      refine va_get (D := (dC, dI)) (ci := 4) (v := .int (I b782 1)) (C := RX4) (T := TX4) (N := 7) hx hb hts hi4 hown hK hP j783 hj783 rfl 1 (by decide) (hts (.fieldLink RX5 167 "TallyLogs$Replica" "start" "I") (by decide +kernel)) (fun _ h9 => h9) rfl dX5_consume_32 ?_
      refine lv_topi (fun x784 ex784 => ?_)
      refine lv_icmp_lt (tgt := 47) hx hb dX5_consume_35 (by decide) (fun c785 => ?_) (fun c785 => ?_)
      · refine lv_iconst (v := (-1)) hx hb dX5_consume_47 (by decide) ?_
        exact W.iret (v := (-1)) hx hb hr (fun t ht hW => ⟨⟨(-1), (I, Q, J), rfl, ⟨⟨hC, hR⟩, trivial⟩, by rw [ht]; exact hP, va_K.moved hW.alike hK, hD⟩, hS.F ht⟩) hS.2.2 dX5_consume_48
      · refine lv_iload_n hx hb dX5_consume_38 rfl (lv_at hl 4 rfl) ?_
        refine lv_aload hx hb dX5_consume_39 (lv_at hl 0 rfl) ?_
        obtain ⟨j786, hj786⟩ := pG_4 (cy := cy) (N := N) (T := T) (I := I) (Q := Q) (J := J) hTb782.1 hTb782.2
        refine va_get (D := (dC, dI)) (ci := 4) (v := .int (I b782 3)) (C := RX4) (T := TX4) (N := 7) hx hb hts hi4 hown hK hP j786 hj786 rfl 3 (by decide) (hts (.fieldLink RX5 146 "TallyLogs$Replica" "hw" "I") (by decide +kernel)) (fun _ h9 => h9) rfl dX5_consume_41 ?_
        refine lv_topi (fun x787 ex787 => ?_)
        refine lv_icmp_le (tgt := 49) hx hb dX5_consume_44 (by decide) (fun c788 => ?_) (fun c788 => ?_)
        · refine lv_aload hx hb dX5_consume_49 (lv_at hl 0 rfl) ?_
          refine lv_iload_n hx hb dX5_consume_51 rfl (lv_at hl 4 rfl) ?_
          refine lv_iload_n hx hb dX5_consume_52 rfl (lv_at hl 5 rfl) ?_
          obtain ⟨j790, hj790⟩ := pG_4 (cy := cy) (N := N) (T := T) (I := I) (Q := Q) (J := J) hTb782.1 hTb782.2
          refine vp_callSi (W.runV (As := [.int xo, .int cm]) (rest := []) ⟨hx, hb, hml, hown, hts⟩ (c_X4_firstVisible l dC dI cy v L K N T I Q J b782 xo cm hC hTb782.1 hTb782.2) (cwV 2 hts gX5_consume_X4_firstVisible rfl rfl rfl (by decide +kernel) ⟨Nat.le_of_ble_eq_true rfl, Nat.le_of_ble_eq_true rfl⟩) ⟨pb_blind, va_recv hK hP (ci := 4) (q0 := j790) rfl hj790, fun U hU hW => ⟨rfl, pb_pre hP hK hN hU hW⟩⟩ rfl rfl hl.1 rfl (lv_room (Nat.le_of_ble_eq_true rfl)) dX5_consume_53 ⟨Nat.le_of_ble_eq_true rfl, Nat.le_of_ble_eq_true rfl⟩) (fun r789 hr789 => ?_)
          refine lv_istore (lv' := [(6, .int r789), (5, .ref b782), (4, .ref b779), (0, .ref (v 0)), (1, .int xp), (2, .int xo), (3, .int cm)]) hx hb dX5_consume_56 hl (by decide) rfl (fun ls hl => ?_)
          refine lv_aload hx hb dX5_consume_58 (lv_at hl 1 rfl) ?_
          refine lv_iload hx hb dX5_consume_60 (lv_at hl 0 rfl) ?_
          obtain ⟨j792, hj792⟩ := pG_4 (cy := cy) (N := N) (T := T) (I := I) (Q := Q) (J := J) hTb782.1 hTb782.2
          refine va_csq (W.runV (As := [.int r789]) (rest := []) ⟨hx, hb, hml, hown, hts⟩ (c_X4_entryAt l dC dI cy v L K N T I Q J b782 r789 hC hTb782.1 hTb782.2) (cwV 1 hts gX5_consume_X4_entryAt rfl rfl rfl (by decide +kernel) ⟨Nat.le_of_ble_eq_true rfl, Nat.le_of_ble_eq_true rfl⟩) ⟨pb_blind, va_recv hK hP (ci := 4) (q0 := j792) rfl hj792, fun U hU hW => ⟨rfl, pb_pre hP hK hN hU hW⟩⟩ rfl rfl hl.1 rfl (lv_room (Nat.le_of_ble_eq_true rfl)) dX5_consume_62 ⟨Nat.le_of_ble_eq_true rfl, Nat.le_of_ble_eq_true rfl⟩) (fun r791 hr791 => ?_)
          cases r791 with
          | none =>
            refine W.eq (g2 := F0 m 65 ls [.null]) rfl ?_
            refine lv_astoreN (lv' := [(7, .null), (6, .int r789), (5, .ref b782), (4, .ref b779), (0, .ref (v 0)), (1, .int xp), (2, .int xo), (3, .int cm)]) hx hb dX5_consume_65 hl (by decide) rfl (fun ls hl => ?_)
            refine lv_aloadN hx hb dX5_consume_67 (lv_at hl 0 rfl) ?_
            refine lv_ifnonnullN hx hb dX5_consume_69 ?_
            refine lv_bipush (v := (-2)) hx hb dX5_consume_72 (by decide) ?_
            exact W.iret (v := (-2)) hx hb hr (fun t ht hW => ⟨⟨(-2), (I, Q, J), rfl, ⟨⟨hC, hR⟩, trivial⟩, by rw [ht]; exact hP, va_K.moved hW.alike hK, hD⟩, hS.F ht⟩) hS.2.2 dX5_consume_74
          | some b793 =>
            have hTb793 := hr791 b793 rfl
            refine W.eq (g2 := F0 m 65 ls [.ref b793]) rfl ?_
            refine lv_astore (lv' := [(7, .ref b793), (6, .int r789), (5, .ref b782), (4, .ref b779), (0, .ref (v 0)), (1, .int xp), (2, .int xo), (3, .int cm)]) hx hb dX5_consume_65 hl (by decide) rfl (fun ls hl => ?_)
            refine lv_aload hx hb dX5_consume_67 (lv_at hl 0 rfl) ?_
            refine lv_ifnonnull (tgt := 75) hx hb dX5_consume_69 (by decide) ?_
            refine lv_aload_n hx hb dX5_consume_75 rfl (lv_at hl 4 rfl) ?_
            refine lv_aload hx hb dX5_consume_76 (lv_at hl 0 rfl) ?_
            obtain ⟨j794, hj794⟩ := pG_5 (cy := cy) (N := N) (T := T) (I := I) (Q := Q) (J := J) (hC.at 0 (by decide)) (hC.k 0 (by decide) rfl)
            have hDo := hD
            refine va_put (D := (dC, dI)) (ci := 5) (v := .ref b793) (ty := (.object "TallyLogs$Entry")) (C := RX5) (T := TX5) (N := 6) hx hb hts hi5 tyX5 tyX5_ok nmX5 hown hK hP hD hS j794 hj794 rfl 5 (by decide) (hts (.fieldLink RX5 34 "TallyLogs" "lastSeen" "LTallyLogs$Entry;") (by decide +kernel)) (fun _ h9 => h9) rfl (by decide +kernel) rfl rfl (Nat.le_of_ble_eq_true rfl) dX5_consume_78 (fun H locs hP hD hS => ?_)
            have hP := Eq.mp (congrArg (fun w => va_P (dC, dI) vwCl w H) (pP_5_5 (x := (some b793)) hDo (hC.at 0 (by decide)) (hC.k 0 (by decide) rfl) hj794)) hP
            obtain ⟨Q795, eQ795⟩ : ∃ z, z = p2 Q (v 0) 5 (some b793) := ⟨_, rfl⟩
            rw [← eQ795] at hP
            have hR : RS v I Q J I Q795 J := by rw [eQ795]; exact hR.pq hC (by rw [(hC.k 0 (by decide) rfl)]; decide)
            have hC : CT v L K N T I Q795 := by rw [eQ795]; exact hC.q5 (fun b hb => by cases hb; exact ⟨hTb793.1, hTb793.2⟩)
            have hD : va_D A (va_pl L (pF cy K N T I Q795 J)) := pD hDo
            refine lv_iload hx hb dX5_consume_81 (lv_at hl 1 rfl) ?_
            exact W.iret (v := r789) hx hb hr (fun t ht hW => ⟨⟨r789, (I, Q795, J), rfl, ⟨⟨hC, hR⟩, trivial⟩, by rw [ht]; exact hP, va_K.moved hW.alike hK, hD⟩, hS.F ht⟩) hS.2.2 dX5_consume_83
        · refine lv_iconst (v := (-1)) hx hb dX5_consume_47 (by decide) ?_
          exact W.iret (v := (-1)) hx hb hr (fun t ht hW => ⟨⟨(-1), (I, Q, J), rfl, ⟨⟨hC, hR⟩, trivial⟩, by rw [ht]; exact hP, va_K.moved hW.alike hK, hD⟩, hS.F ht⟩) hS.2.2 dX5_consume_48
set_option maxHeartbeats 4000000 in
set_option maxRecDepth 100000 in
/-- tick -/
theorem c_X5_tick (l : Launch) (dC : Nat → ClassId) (dI : Nat → Nat → Nat) (cy : Nat → ClassId) (v : Nat → Nat) (L : List Nat) (K N : Nat → Nat) (T : Nat → Nat → Nat) (I : Nat → Nat → Int32) (Q : Nat → Nat → Option Nat) (J : Nat → Nat → Int32) (sz : Nat) (xn : Int32) (hC : CT v L K N T I Q) : Met l yX5_tick wsX5_tick ({ frames := 4, cells := 0, slots := 0, locals := 90 }) (va_Pc [.ref (v 0), .int xn] (pW dC dI cy L (pF cy K N T I Q J) sz)) (va_Qi (fun (r : Int32) (d : (Nat → Nat → Int32) × (Nat → Nat → Option Nat) × (Nat → Nat → Int32)) => (CT v L K N T d.1 d.2.1 ∧ RS v I Q J d.1 d.2.1 d.2.2) ∧ True) (fun (d : (Nat → Nat → Int32) × (Nat → Nat → Option Nat) × (Nat → Nat → Int32)) t => va_P (dC, dI) vwCl (va_pl L (pF cy K N T d.1 d.2.1 d.2.2)) t.heap ∧ va_K (dC, dI) vwCl (pTy cy) t ∧ va_D (va_A (va_pl L (pF cy K N T I Q J)) sz) (va_pl L (pF cy K N T d.1 d.2.1 d.2.2))) (va_A (va_pl L (pF cy K N T I Q J)) sz)) 0 0 (va_A (va_pl L (pF cy K N T I Q J)) sz) := by
  refine Met.ofW (cc := cX5_tick) (maxL := 5) (ret := (some .int)) (by decide) rfl ?_
  intro p e s m args below meth c s₁ B hml hv
  obtain ⟨rfl, hsz, ⟨hP, hK, hN⟩, hD0⟩ := hv
  have hx := B.exec
  have hb := B.bytes
  have hr := B.returns
  have hts := atoms_spec (ws := wsX5_tick) B.pre
  have hown : s.vm.findClass RX5 = some m.cls := findClass_of_methodNamed B.named
  have hlocks := B.notSynchronized
  have hi5 : ∀ w ∈ wsX50, w ∈ wsX5_tick := by decide +kernel
  have hl := lv_entry ([.ref (v 0), .int xn]) (n := 5) (Nat.le_of_ble_eq_true rfl)
  rw [lg_entry_eq]
  generalize (lg_sl ([.ref (v 0), .int xn]) ++ List.replicate (5 - (lg_sl ([.ref (v 0), .int xn])).length) Slot.unset).toArray = ls at hl ⊢
  have hl : lv_has ls 5 [(0, .ref (v 0)), (1, .int xn)] := hl
  subst hsz
  have hD := hD0.self (sz := s.heap.size)
  generalize hAe : va_A (va_pl L (pF cy K N T I Q J)) s.heap.size = A at hD ⊢
  have hA : ∀ q : Nat, s.heap.size ≤ q → A q := fun q h => by rw [← hAe]; exact Or.inr h
  have hS : va_S A s.heap s.heap [] := va_S.rf
  have hR : RS v I Q J I Q J := RS.rf
  have hn28 := hN.1
  have hn30 := hN.2.1
  have hn37 := hN.2.2.1
  refine lv_iload_n hx hb dX5_tick_0 rfl (lv_at hl 1 rfl) ?_
  refine lv_iconst (v := 1) hx hb dX5_tick_1 (by decide) ?_
  refine lv_icmp_lt (tgt := 11) hx hb dX5_tick_2 (by decide) (fun c796 => ?_) (fun c796 => ?_)
  · refine lv_iconst (v := (-1)) hx hb dX5_tick_11 (by decide) ?_
    exact W.iret (v := (-1)) hx hb hr (fun t ht hW => ⟨⟨(-1), (I, Q, J), rfl, ⟨⟨hC, hR⟩, trivial⟩, by rw [ht]; exact hP, va_K.moved hW.alike hK, hD⟩, hS.F ht⟩) hS.2.2 dX5_tick_12
  · refine lv_iload_n hx hb dX5_tick_5 rfl (lv_at hl 1 rfl) ?_
    refine lv_bipush (v := 50) hx hb dX5_tick_6 (by decide) ?_
    refine lv_icmp_le (tgt := 13) hx hb dX5_tick_8 (by decide) (fun c797 => ?_) (fun c797 => ?_)
    · refine lv_aload_n hx hb dX5_tick_13 rfl (lv_at hl 0 rfl) ?_
      refine lv_dup hx hb dX5_tick_14 rfl ?_
      obtain ⟨j798, hj798⟩ := pG_5 (cy := cy) (N := N) (T := T) (I := I) (Q := Q) (J := J) (hC.at 0 (by decide)) (hC.k 0 (by decide) rfl)
      refine va_get (D := (dC, dI)) (ci := 5) (v := .int (I (v 0) 4)) (C := RX5) (T := TX5) (N := 6) hx hb hts hi5 hown hK hP j798 hj798 rfl 4 (by decide) (hts (.fieldLink RX5 31 "TallyLogs" "now" "I") (by decide +kernel)) (fun _ h9 => h9) rfl dX5_tick_15 ?_
      refine lv_topi (fun x799 ex799 => ?_)
      refine lv_iload_n hx hb dX5_tick_18 rfl (lv_at hl 1 rfl) ?_
      refine lv_iadd hx hb dX5_tick_19 ?_
      refine lv_topi (fun v800 ev800 => ?_)
      obtain ⟨j801, hj801⟩ := pG_5 (cy := cy) (N := N) (T := T) (I := I) (Q := Q) (J := J) (hC.at 0 (by decide)) (hC.k 0 (by decide) rfl)
      have hDo := hD
      refine va_put (D := (dC, dI)) (ci := 5) (v := .int v800) (ty := .int) (C := RX5) (T := TX5) (N := 6) hx hb hts hi5 tyX5 tyX5_ok nmX5 hown hK hP hD hS j801 hj801 rfl 4 (by decide) (hts (.fieldLink RX5 31 "TallyLogs" "now" "I") (by decide +kernel)) (fun _ h9 => h9) rfl (by decide +kernel) rfl rfl (Nat.le_of_ble_eq_true rfl) dX5_tick_20 (fun H locs hP hD hS => ?_)
      have hP := Eq.mp (congrArg (fun w => va_P (dC, dI) vwCl w H) (pP_5_4 (x := v800) hDo (hC.at 0 (by decide)) (hC.k 0 (by decide) rfl) hj801)) hP
      obtain ⟨I802, eI802⟩ : ∃ z, z = p2 I (v 0) 4 v800 := ⟨_, rfl⟩
      rw [← eI802] at hP
      have hR : RS v I Q J I802 Q J := by rw [eI802]; exact hR.pi hC (by rw [(hC.k 0 (by decide) rfl)]; decide)
      have hC : CT v L K N T I802 Q := by rw [eI802]; exact hC.pi (by rw [(hC.k 0 (by decide) rfl)]; decide)
      have hD : va_D A (va_pl L (pF cy K N T I802 Q J)) := pD hDo
      refine lv_iconst (v := 0) hx hb dX5_tick_23 (by decide) ?_
      refine lv_istore_n (lv' := [(2, .int 0), (0, .ref (v 0)), (1, .int xn)]) hx hb dX5_tick_24 rfl hl (by decide) rfl (fun ls hl => ?_)
      refine lv_iconst (v := 0) hx hb dX5_tick_25 (by decide) ?_
      refine lv_istore_n (lv' := [(3, .int 0), (2, .int 0), (0, .ref (v 0)), (1, .int xn)]) hx hb dX5_tick_26 rfl hl (by decide) rfl (fun ls hl => ?_)
      refine wq_gen (fun Qz hQz => ?_)
      have hLP803 : ∀ (n : Nat) (y804 y805 : Int32) (Ia803 : Nat → Nat → Int32) (Qa803 : Nat → Nat → Option Nat) (Ja803 : Nat → Nat → Int32) (H : Heap) (locs : List Loc) (ls : Array Slot), (((4 : Int32)).toInt - y804.toInt).toNat < n → 0 ≤ y804.toInt → CT v L K N T Ia803 Qa803 → RS v I Q J Ia803 Qa803 Ja803 → va_P (dC, dI) vwCl (va_pl L (pF cy K N T Ia803 Qa803 Ja803)) H → va_D A (va_pl L (pF cy K N T Ia803 Qa803 Ja803)) → va_S A s.heap H locs → lv_has ls 5 [(3, .int y804), (2, .int y805), (0, .ref (v 0)), (1, .int xn)] → W p l e (headSpec wsX5_tick ({ frames := 4, cells := 0, slots := 0, locals := 90 })).room s m ([.ref (v 0), .int xn] : List Value).toArray below meth c H locs 0 0 Qz (F0 m 27 ls []) := by
        intro n
        induction n with
        | zero => intro y804 y805 Ia803 Qa803 Ja803 H locs ls hms; exact absurd hms (Nat.not_lt_zero _)
        | succ n ih =>
          intro y804 y805 Ia803 Qa803 Ja803 H locs ls hms hnn803 hC hR hP hD hS hl
          refine lv_iload_n hx hb dX5_tick_27 rfl (lv_at hl 0 rfl) ?_
          refine lv_iconst (v := 4) hx hb dX5_tick_28 (by decide) ?_
          refine lv_icmp_ge (tgt := 63) hx hb dX5_tick_29 (by decide) (fun c806 => ?_) (fun c806 => ?_)
          · refine lv_iload_n hx hb dX5_tick_63 rfl (lv_at hl 1 rfl) ?_
            rw [hQz]
            exact W.iret (v := y805) hx hb hr (fun t ht hW => ⟨⟨y805, (Ia803, Qa803, Ja803), rfl, ⟨⟨hC, hR⟩, trivial⟩, by rw [ht]; exact hP, va_K.moved hW.alike hK, hD⟩, hS.F ht⟩) hS.2.2 dX5_tick_64
          · refine lv_aload_n hx hb dX5_tick_32 rfl (lv_at hl 2 rfl) ?_
            obtain ⟨j807, hj807⟩ := pG_5 (cy := cy) (N := N) (T := T) (I := Ia803) (Q := Qa803) (J := Ja803) (hC.at 0 (by decide)) (hC.k 0 (by decide) rfl)
            refine va_get (D := (dC, dI)) (ci := 5) (v := .ref (T (v 0) 0)) (C := RX5) (T := TX5) (N := 6) hx hb hts hi5 hown hK hP j807 hj807 rfl 0 (by decide) (hts (.fieldLink RX5 11 "TallyLogs" "partitions" "[LTallyLogs$Partition;") (by decide +kernel)) (fun _ h9 => h9) rfl dX5_tick_33 ?_
            refine W.eq (g2 := F0 m 36 ls [.ref (v 1)]) (by rw [hC.1.2.2.1.1]) ?_
            refine lv_iload_n hx hb dX5_tick_36 rfl (lv_at hl 0 rfl) ?_
            obtain ⟨j809, hj809⟩ := pG_10 (cy := cy) (N := N) (T := T) (I := Ia803) (Q := Qa803) (J := Ja803) (hC.at 1 (by decide)) (hC.k 1 (by decide) rfl)
            refine va_aldq hx hb hK hP j809 3 hj809 rfl (xin_of hnn803 (by have kc := c806; simp only [xk_lt, xk_le, xk_0, xk_1, xk_2, xk_3, xk_4, xk_5, xk_6, xk_7, xk_8, xk_50] at kc; omega)) dX5_tick_37 ?_
            cases hq811 : Qa803 (v 1) y804.toNatClampNeg with
            | none =>
              refine W.eq (g2 := F0 m 38 ls [.null]) rfl ?_
              refine lv_astoreN (lv' := [(4, .null), (3, .int y804), (2, .int y805), (0, .ref (v 0)), (1, .int xn)]) hx hb dX5_tick_38 hl (by decide) rfl (fun ls hl => ?_)
              refine lv_aloadN hx hb dX5_tick_40 (lv_at hl 0 rfl) ?_
              refine lv_ifnullN (tgt := 57) hx hb dX5_tick_42 (by decide) ?_
              obtain ⟨v812, ev812⟩ : ∃ y : Int32, y = y804 + Int32.ofInt 1 := ⟨_, rfl⟩
              refine lv_iinc (v := v812) (lv' := [(3, .int v812), (4, .null), (2, .int y805), (0, .ref (v 0)), (1, .int xn)]) hx hb dX5_tick_57 hl (k := 1) rfl ev812.symm (by decide) rfl (fun ls hl => ?_)
              refine lv_goto (tgt := 27) hx hb dX5_tick_60 (by decide) ?_
              exact ih _ _ _ _ _ _ _ _ (by have kc := c806; simp only [xk_le, xk_lt] at kc; have h9 := xinc (x := y804) (y := (4 : Int32)) (by rw [xk_lt]; omega); rw [ev812, show y804 + Int32.ofInt 1 = y804 + 1 from rfl, h9]; omega) (by have kc := c806; simp only [xk_le, xk_lt] at kc; have h9 := xinc (x := y804) (y := (4 : Int32)) (by rw [xk_lt]; omega); rw [ev812, show y804 + Int32.ofInt 1 = y804 + 1 from rfl, h9]; omega) hC hR hP hD hS (lv_sub hl [0, 2, 3, 4] rfl)
            | some b810 =>
              have hTb810 := (hC.2.2.2.1 y804.toNatClampNeg b810 (vp_lt (xin_of hnn803 (by have kc := c806; simp only [xk_lt, xk_le, xk_0, xk_1, xk_2, xk_3, xk_4, xk_5, xk_6, xk_7, xk_8, xk_50] at kc; omega))) hq811)
              refine W.eq (g2 := F0 m 38 ls [.ref b810]) rfl ?_
              refine lv_astore (lv' := [(4, .ref b810), (3, .int y804), (2, .int y805), (0, .ref (v 0)), (1, .int xn)]) hx hb dX5_tick_38 hl (by decide) rfl (fun ls hl => ?_)
              refine lv_aload hx hb dX5_tick_40 (lv_at hl 0 rfl) ?_
              refine lv_ifnull hx hb dX5_tick_42 ?_
              refine lv_iload_n hx hb dX5_tick_45 rfl (lv_at hl 2 rfl) ?_
              refine lv_aload hx hb dX5_tick_46 (lv_at hl 0 rfl) ?_
              refine lv_aload_n hx hb dX5_tick_48 rfl (lv_at hl 3 rfl) ?_
              obtain ⟨j813, hj813⟩ := pG_5 (cy := cy) (N := N) (T := T) (I := Ia803) (Q := Qa803) (J := Ja803) (hC.at 0 (by decide)) (hC.k 0 (by decide) rfl)
              refine va_get (D := (dC, dI)) (ci := 5) (v := .int (Ia803 (v 0) 4)) (C := RX5) (T := TX5) (N := 6) hx hb hts hi5 hown hK hP j813 hj813 rfl 4 (by decide) (hts (.fieldLink RX5 31 "TallyLogs" "now" "I") (by decide +kernel)) (fun _ h9 => h9) rfl dX5_tick_49 ?_
              refine lv_topi (fun x814 ex814 => ?_)
              obtain ⟨j815, hj815⟩ := pG_2 (cy := cy) (N := N) (T := T) (I := Ia803) (Q := Qa803) (J := Ja803) hTb810.1 hTb810.2
              have hFc := pfree hD hS hA
              refine va_calli (va_runV (As := [.int x814]) (rest := [.int y805]) ⟨hx, hb, hml, hown, hts⟩ (c_X2_dropLate l dC dI cy v L K N T Ia803 Qa803 Ja803 H.size b810 x814 hC hTb810.1 hTb810.2) (cwV 1 hts gX5_tick_X2_dropLate rfl rfl rfl (by decide +kernel) ⟨Nat.le_of_ble_eq_true rfl, Nat.le_of_ble_eq_true rfl⟩) ⟨pw_blind, va_recv hK hP (ci := 2) (q0 := j815) rfl hj815, fun U hU hW => ⟨rfl, pw_pre hP hK hN hD hU hW⟩⟩ rfl rfl hl.1 rfl (lv_room (Nat.le_of_ble_eq_true rfl)) dX5_tick_52 ⟨Nat.le_of_ble_eq_true rfl, Nat.le_of_ble_eq_true rfl⟩) hS (fun q _ h => hFc q h) hFc (fun r817 d9 t H1 locs ht hvm hw hB hz1 hk1 hS => ?_)
              obtain ⟨I816, Q816, J816⟩ := d9
              obtain ⟨⟨hC, hR1⟩, hr817⟩ := hw
              obtain ⟨hP, hK1, hD1⟩ := hB
              rw [ht] at hP
              have hD := hD1.weaken (fun _ _ _ h => hFc _ h)
              have hR := hR.trans hR1
              generalize H1 = H at hP hS ⊢
              have hP : va_P (dC, dI) vwCl (va_pl L (pF cy K N T I816 Q816 J816)) H := hP
              have hD : va_D A (va_pl L (pF cy K N T I816 Q816 J816)) := hD
              have hC : CT v L K N T I816 Q816 := hC
              have hR : RS v I Q J I816 Q816 J816 := hR
              refine lv_iadd hx hb dX5_tick_55 ?_
              refine lv_topi (fun v818 ev818 => ?_)
              refine lv_istore_n (lv' := [(2, .int v818), (4, .ref b810), (3, .int y804), (0, .ref (v 0)), (1, .int xn)]) hx hb dX5_tick_56 rfl hl (by decide) rfl (fun ls hl => ?_)
              obtain ⟨v819, ev819⟩ : ∃ y : Int32, y = y804 + Int32.ofInt 1 := ⟨_, rfl⟩
              refine lv_iinc (v := v819) (lv' := [(3, .int v819), (2, .int v818), (4, .ref b810), (0, .ref (v 0)), (1, .int xn)]) hx hb dX5_tick_57 hl (k := 2) rfl ev819.symm (by decide) rfl (fun ls hl => ?_)
              refine lv_goto (tgt := 27) hx hb dX5_tick_60 (by decide) ?_
              exact ih _ _ _ _ _ _ _ _ (by have kc := c806; simp only [xk_le, xk_lt] at kc; have h9 := xinc (x := y804) (y := (4 : Int32)) (by rw [xk_lt]; omega); rw [ev819, show y804 + Int32.ofInt 1 = y804 + 1 from rfl, h9]; omega) (by have kc := c806; simp only [xk_le, xk_lt] at kc; have h9 := xinc (x := y804) (y := (4 : Int32)) (by rw [xk_lt]; omega); rw [ev819, show y804 + Int32.ofInt 1 = y804 + 1 from rfl, h9]; omega) hC hR hP hD hS (lv_sub hl [0, 1, 3, 4] rfl)
      exact hLP803 _ _ _ _ _ _ _ _ _ (Nat.lt_succ_self _) (by decide) hC hR hP hD hS (lv_sub hl [0, 1, 2, 3] rfl)
    · refine lv_iconst (v := (-1)) hx hb dX5_tick_11 (by decide) ?_
      exact W.iret (v := (-1)) hx hb hr (fun t ht hW => ⟨⟨(-1), (I, Q, J), rfl, ⟨⟨hC, hR⟩, trivial⟩, by rw [ht]; exact hP, va_K.moved hW.alike hK, hD⟩, hS.F ht⟩) hS.2.2 dX5_tick_12
