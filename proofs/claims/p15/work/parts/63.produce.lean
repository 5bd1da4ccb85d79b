set_option maxHeartbeats 4000000 in
set_option maxRecDepth 100000 in
/-- produce -/
theorem c_X5_produce (l : Launch) (dC : Nat → ClassId) (dI : Nat → Nat → Nat) (cy : Nat → ClassId) (v : Nat → Nat) (L : List Nat) (K N : Nat → Nat) (T : Nat → Nat → Nat) (I : Nat → Nat → Int32) (Q : Nat → Nat → Option Nat) (J : Nat → Nat → Int32) (sz : Nat) (xp hd sq ke va al : Int32) (hC : CT v L K N T I Q) : Met l yX5_produce wsX5_produce ({ frames := 3, cells := 1, slots := 8, locals := 68 }) (va_Pc [.ref (v 0), .int xp, .int hd, .int sq, .int ke, .int va, .int al] (pW dC dI cy L (pF cy K N T I Q J) sz)) (va_Qi (fun (r : Int32) (d : List Nat × (Nat → Nat) × (Nat → Nat → Nat) × (Nat → Nat → Int32) × (Nat → Nat → Option Nat) × (Nat → Nat → Int32)) => (CT v d.1 d.2.1 N d.2.2.1 d.2.2.2.1 d.2.2.2.2.1 ∧ RS v I Q J d.2.2.2.1 d.2.2.2.2.1 d.2.2.2.2.2 ∧ PX L K N T d.1 d.2.1 N d.2.2.1) ∧ True) (fun (d : List Nat × (Nat → Nat) × (Nat → Nat → Nat) × (Nat → Nat → Int32) × (Nat → Nat → Option Nat) × (Nat → Nat → Int32)) t => va_P (dC, dI) vwCl (va_pl d.1 (pF cy d.2.1 N d.2.2.1 d.2.2.2.1 d.2.2.2.2.1 d.2.2.2.2.2)) t.heap ∧ va_K (dC, dI) vwCl (pTy cy) t ∧ va_D (va_A (va_pl L (pF cy K N T I Q J)) sz) (va_pl d.1 (pF cy d.2.1 N d.2.2.1 d.2.2.2.1 d.2.2.2.2.1 d.2.2.2.2.2))) (va_A (va_pl L (pF cy K N T I Q J)) sz)) 1 8 (va_A (va_pl L (pF cy K N T I Q J)) sz) := by
  refine Met.ofW (cc := cX5_produce) (maxL := 11) (ret := (some .int)) (by decide) rfl ?_
  intro p e s m args below meth c s₁ B hml hv
  obtain ⟨rfl, hsz, ⟨hP, hK, hN⟩, hD0⟩ := hv
  have hx := B.exec
  have hb := B.bytes
  have hr := B.returns
  have hts := atoms_spec (ws := wsX5_produce) B.pre
  have hown : s.vm.findClass RX5 = some m.cls := findClass_of_methodNamed B.named
  have hlocks := B.notSynchronized
  have hi5 : ∀ w ∈ wsX50, w ∈ wsX5_produce := by decide +kernel
  have hi4 : ∀ w ∈ wsX40, w ∈ wsX5_produce := by decide +kernel
  have hi3 : ∀ w ∈ wsX30, w ∈ wsX5_produce := by decide +kernel
  have hi2 : ∀ w ∈ wsX20, w ∈ wsX5_produce := by decide +kernel
  have hl := lv_entry ([.ref (v 0), .int xp, .int hd, .int sq, .int ke, .int va, .int al]) (n := 11) (Nat.le_of_ble_eq_true rfl)
  rw [lg_entry_eq]
  generalize (lg_sl ([.ref (v 0), .int xp, .int hd, .int sq, .int ke, .int va, .int al]) ++ List.replicate (11 - (lg_sl ([.ref (v 0), .int xp, .int hd, .int sq, .int ke, .int va, .int al])).length) Slot.unset).toArray = ls at hl ⊢
  have hl : lv_has ls 11 [(0, .ref (v 0)), (1, .int xp), (2, .int hd), (3, .int sq), (4, .int ke), (5, .int va), (6, .int al)] := hl
  subst hsz
  have hD := hD0.self (sz := s.heap.size)
  generalize hAe : va_A (va_pl L (pF cy K N T I Q J)) s.heap.size = A at hD ⊢
  have hA : ∀ q : Nat, s.heap.size ≤ q → A q := fun q h => by rw [← hAe]; exact Or.inr h
  have hS : va_S A s.heap s.heap [] := va_S.rf
  have hR : RS v I Q J I Q J := RS.rf
  have hX : PX L K N T L K N T := PX.rf
  have hn28 := hN.1
  have hn30 := hN.2.1
  have hn37 := hN.2.2.1
  refine lv_aload_n hx hb dX5_produce_0 rfl (lv_at hl 0 rfl) ?_
  refine lv_iload_n hx hb dX5_produce_1 rfl (lv_at hl 1 rfl) ?_
  obtain ⟨j1099, hj1099⟩ := pG_5 (cy := cy) (N := N) (T := T) (I := I) (Q := Q) (J := J) (hC.at 0 (by decide)) (hC.k 0 (by decide) rfl)
  refine va_csq (W.runV (As := [.int xp]) (rest := []) ⟨hx, hb, hml, hown, hts⟩ (c_X5_partitionAt l dC dI cy v L K N T I Q J  xp hC) (cwV 1 hts gX5_produce_X5_partitionAt rfl rfl rfl (by decide +kernel) ⟨Nat.le_of_ble_eq_true rfl, Nat.le_of_ble_eq_true rfl⟩) ⟨pb_blind, va_recv hK hP (ci := 5) (q0 := j1099) rfl hj1099, fun U hU hW => ⟨rfl, pb_pre hP hK hN hU hW⟩⟩ rfl rfl hl.1 rfl (lv_room (Nat.le_of_ble_eq_true rfl)) dX5_produce_2 ⟨Nat.le_of_ble_eq_true rfl, Nat.le_of_ble_eq_true rfl⟩) (fun r1098 hr1098 => ?_)
  cases r1098 with
  | none =>
    refine W.eq (g2 := F0 m 5 ls [.null]) rfl ?_
    refine lv_astoreN (lv' := [(7, .null), (0, .ref (v 0)), (1, .int xp), (2, .int hd), (3, .int sq), (4, .int ke), (5, .int va), (6, .int al)]) hx hb dX5_produce_5 hl (by decide) rfl (fun ls hl => ?_)
    refine lv_aload_n hx hb dX5_produce_7 rfl (lv_at hl 1 rfl) ?_
    refine lv_iload_n hx hb dX5_produce_8 rfl (lv_at hl 3 rfl) ?_
    obtain ⟨j1102, hj1102⟩ := pG_5 (cy := cy) (N := N) (T := T) (I := I) (Q := Q) (J := J) (hC.at 0 (by decide)) (hC.k 0 (by decide) rfl)
    refine va_csq (W.runV (As := [.int hd]) (rest := []) ⟨hx, hb, hml, hown, hts⟩ (c_X5_producerOf l dC dI cy v L K N T I Q J  hd hC) (cwV 1 hts gX5_produce_X5_producerOf rfl rfl rfl (by decide +kernel) ⟨Nat.le_of_ble_eq_true rfl, Nat.le_of_ble_eq_true rfl⟩) ⟨pb_blind, va_recv hK hP (ci := 5) (q0 := j1102) rfl hj1102, fun U hU hW => ⟨rfl, pb_pre hP hK hN hU hW⟩⟩ rfl rfl hl.1 rfl (lv_room (Nat.le_of_ble_eq_true rfl)) dX5_produce_9 ⟨Nat.le_of_ble_eq_true rfl, Nat.le_of_ble_eq_true rfl⟩) (fun r1101 hr1101 => ?_)
    rcases hr1101 with rfl | ⟨j1103, hj1103, rfl⟩
    · refine W.eq (g2 := F0 m 12 ls [.null]) rfl ?_
      refine lv_astoreN (lv' := [(8, .null), (7, .null), (0, .ref (v 0)), (1, .int xp), (2, .int hd), (3, .int sq), (4, .int ke), (5, .int va), (6, .int al)]) hx hb dX5_produce_12 hl (by decide) rfl (fun ls hl => ?_)
      refine lv_aloadN hx hb dX5_produce_14 (lv_at hl 1 rfl) ?_
      refine lv_ifnullN (tgt := 29) hx hb dX5_produce_16 (by decide) ?_
      refine lv_iconst (v := (-1)) hx hb dX5_produce_29 (by decide) ?_
      refine W.widen (k := 1) (n := 8) (by omega) (by omega) ?_
      exact W.iret (v := (-1)) hx hb hr (fun t ht hW => ⟨⟨(-1), (L, K, T, I, Q, J), rfl, ⟨⟨hC, hR, hX⟩, trivial⟩, by rw [ht]; exact hP, va_K.moved hW.alike hK, hD⟩, hS.F ht⟩) hS.2.2 dX5_produce_30
    · refine W.eq (g2 := F0 m 12 ls [.ref (v (4 + j1103))]) rfl ?_
      refine lv_astore (lv' := [(8, .ref (v (4 + j1103))), (7, .null), (0, .ref (v 0)), (1, .int xp), (2, .int hd), (3, .int sq), (4, .int ke), (5, .int va), (6, .int al)]) hx hb dX5_produce_12 hl (by decide) rfl (fun ls hl => ?_)
      refine lv_aloadN hx hb dX5_produce_14 (lv_at hl 1 rfl) ?_
      refine lv_ifnullN (tgt := 29) hx hb dX5_produce_16 (by decide) ?_
      refine lv_iconst (v := (-1)) hx hb dX5_produce_29 (by decide) ?_
      refine W.widen (k := 1) (n := 8) (by omega) (by omega) ?_
      exact W.iret (v := (-1)) hx hb hr (fun t ht hW => ⟨⟨(-1), (L, K, T, I, Q, J), rfl, ⟨⟨hC, hR, hX⟩, trivial⟩, by rw [ht]; exact hP, va_K.moved hW.alike hK, hD⟩, hS.F ht⟩) hS.2.2 dX5_produce_30
  | some b1100 =>
    have hTb1100 := hr1098 b1100 rfl
    refine W.eq (g2 := F0 m 5 ls [.ref b1100]) rfl ?_
    refine lv_astore (lv' := [(7, .ref b1100), (0, .ref (v 0)), (1, .int xp), (2, .int hd), (3, .int sq), (4, .int ke), (5, .int va), (6, .int al)]) hx hb dX5_produce_5 hl (by decide) rfl (fun ls hl => ?_)
    refine lv_aload_n hx hb dX5_produce_7 rfl (lv_at hl 1 rfl) ?_
    refine lv_iload_n hx hb dX5_produce_8 rfl (lv_at hl 3 rfl) ?_
    obtain ⟨j1105, hj1105⟩ := pG_5 (cy := cy) (N := N) (T := T) (I := I) (Q := Q) (J := J) (hC.at 0 (by decide)) (hC.k 0 (by decide) rfl)
    refine va_csq (W.runV (As := [.int hd]) (rest := []) ⟨hx, hb, hml, hown, hts⟩ (c_X5_producerOf l dC dI cy v L K N T I Q J  hd hC) (cwV 1 hts gX5_produce_X5_producerOf rfl rfl rfl (by decide +kernel) ⟨Nat.le_of_ble_eq_true rfl, Nat.le_of_ble_eq_true rfl⟩) ⟨pb_blind, va_recv hK hP (ci := 5) (q0 := j1105) rfl hj1105, fun U hU hW => ⟨rfl, pb_pre hP hK hN hU hW⟩⟩ rfl rfl hl.1 rfl (lv_room (Nat.le_of_ble_eq_true rfl)) dX5_produce_9 ⟨Nat.le_of_ble_eq_true rfl, Nat.le_of_ble_eq_true rfl⟩) (fun r1104 hr1104 => ?_)
    rcases hr1104 with rfl | ⟨j1106, hj1106, rfl⟩
    · refine W.eq (g2 := F0 m 12 ls [.null]) rfl ?_
      refine lv_astoreN (lv' := [(8, .null), (7, .ref b1100), (0, .ref (v 0)), (1, .int xp), (2, .int hd), (3, .int sq), (4, .int ke), (5, .int va), (6, .int al)]) hx hb dX5_produce_12 hl (by decide) rfl (fun ls hl => ?_)
      refine lv_aload hx hb dX5_produce_14 (lv_at hl 1 rfl) ?_
      refine lv_ifnull hx hb dX5_produce_16 ?_
      refine lv_aloadN hx hb dX5_produce_19 (lv_at hl 0 rfl) ?_
      refine lv_ifnonnullN hx hb dX5_produce_21 ?_
      refine lv_iload_n hx hb dX5_produce_24 rfl (lv_at hl 4 rfl) ?_
      refine lv_iconst (v := (-1)) hx hb dX5_produce_25 (by decide) ?_
      refine lv_icmp_eq (tgt := 31) hx hb dX5_produce_26 (by decide) (fun c1107 => ?_) (fun c1107 => ?_)
      · refine lv_aload hx hb dX5_produce_31 (lv_at hl 1 rfl) ?_
        obtain ⟨j1109, hj1109⟩ := pG_2 (cy := cy) (N := N) (T := T) (I := I) (Q := Q) (J := J) hTb1100.1 hTb1100.2
        refine va_csq (W.runV (As := []) (rest := []) ⟨hx, hb, hml, hown, hts⟩ (c_X2_leading l dC dI cy v L K N T I Q J b1100  hC hTb1100.1 hTb1100.2) (cwV 0 hts gX5_produce_X2_leading rfl rfl rfl (by decide +kernel) ⟨Nat.le_of_ble_eq_true rfl, Nat.le_of_ble_eq_true rfl⟩) ⟨pb_blind, va_recv hK hP (ci := 2) (q0 := j1109) rfl hj1109, fun U hU hW => ⟨rfl, pb_pre hP hK hN hU hW⟩⟩ rfl rfl hl.1 rfl (lv_room (Nat.le_of_ble_eq_true rfl)) dX5_produce_33 ⟨Nat.le_of_ble_eq_true rfl, Nat.le_of_ble_eq_true rfl⟩) (fun r1108 hr1108 => ?_)
        cases r1108 with
        | none =>
          refine W.eq (g2 := F0 m 36 ls [.null]) rfl ?_
          refine lv_astoreN (lv' := [(9, .null), (8, .null), (7, .ref b1100), (0, .ref (v 0)), (1, .int xp), (2, .int hd), (3, .int sq), (4, .int ke), (5, .int va), (6, .int al)]) hx hb dX5_produce_36 hl (by decide) rfl (fun ls hl => ?_)
          refine lv_aloadN hx hb dX5_produce_38 (lv_at hl 0 rfl) ?_
          refine lv_ifnonnullN hx hb dX5_produce_40 ?_
          refine lv_bipush (v := (-2)) hx hb dX5_produce_43 (by decide) ?_
          refine W.widen (k := 1) (n := 8) (by omega) (by omega) ?_
          exact W.iret (v := (-2)) hx hb hr (fun t ht hW => ⟨⟨(-2), (L, K, T, I, Q, J), rfl, ⟨⟨hC, hR, hX⟩, trivial⟩, by rw [ht]; exact hP, va_K.moved hW.alike hK, hD⟩, hS.F ht⟩) hS.2.2 dX5_produce_45
        | some b1110 =>
          have hTb1110 := hr1108 b1110 rfl
          refine W.eq (g2 := F0 m 36 ls [.ref b1110]) rfl ?_
          refine lv_astore (lv' := [(9, .ref b1110), (8, .null), (7, .ref b1100), (0, .ref (v 0)), (1, .int xp), (2, .int hd), (3, .int sq), (4, .int ke), (5, .int va), (6, .int al)]) hx hb dX5_produce_36 hl (by decide) rfl (fun ls hl => ?_)
          refine lv_aload hx hb dX5_produce_38 (lv_at hl 0 rfl) ?_
          refine lv_ifnonnull (tgt := 46) hx hb dX5_produce_40 (by decide) ?_
          refine lv_aloadN hx hb dX5_produce_46 (lv_at hl 1 rfl) ?_
          refine lv_ifnullN (tgt := 75) hx hb dX5_produce_48 (by decide) ?_
          refine lv_iload hx hb dX5_produce_75 (lv_at hl 9 rfl) ?_
          refine lv_if_eq (tgt := 99) hx hb dX5_produce_77 (by decide) (fun c1111 => ?_) (fun c1111 => ?_)
          · refine lv_aloadN hx hb dX5_produce_99 (lv_at hl 1 rfl) ?_
            refine lv_ifnullN (tgt := 153) hx hb dX5_produce_101 (by decide) ?_
            refine lv_aload hx hb dX5_produce_153 (lv_at hl 0 rfl) ?_
            obtain ⟨j1113, hj1113⟩ := pG_4 (cy := cy) (N := N) (T := T) (I := I) (Q := Q) (J := J) hTb1110.1 hTb1110.2
            refine vp_callSi (W.runV (As := []) (rest := []) ⟨hx, hb, hml, hown, hts⟩ (c_X4_isFull l dC dI cy v L K N T I Q J b1110  hC hTb1110.1 hTb1110.2) (cwV 0 hts gX5_produce_X4_isFull rfl rfl rfl (by decide +kernel) ⟨Nat.le_of_ble_eq_true rfl, Nat.le_of_ble_eq_true rfl⟩) ⟨pb_blind, va_recv hK hP (ci := 4) (q0 := j1113) rfl hj1113, fun U hU hW => ⟨rfl, pb_pre hP hK hN hU hW⟩⟩ rfl rfl hl.1 rfl (lv_room (Nat.le_of_ble_eq_true rfl)) dX5_produce_155 ⟨Nat.le_of_ble_eq_true rfl, Nat.le_of_ble_eq_true rfl⟩) (fun r1112 hr1112 => ?_)
            refine lv_if_eq (tgt := 164) hx hb dX5_produce_158 (by decide) (fun c1114 => ?_) (fun c1114 => ?_)
            · refine lv_aload hx hb dX5_produce_164 (lv_at hl 0 rfl) ?_
              refine lv_aload hx hb dX5_produce_166 (lv_at hl 2 rfl) ?_
              obtain ⟨j1115, hj1115⟩ := pG_2 (cy := cy) (N := N) (T := T) (I := I) (Q := Q) (J := J) hTb1100.1 hTb1100.2
              refine va_get (D := (dC, dI)) (ci := 2) (v := .int (I b1100 4)) (C := RX2) (T := TX2) (N := 6) hx hb hts hi2 hown hK hP j1115 hj1115 rfl 4 (by decide) (hts (.fieldLink RX5 115 "TallyLogs$Partition" "epoch" "I") (by decide +kernel)) (fun _ h9 => h9) rfl dX5_produce_168 ?_
              refine lv_topi (fun x1116 ex1116 => ?_)
              refine lv_aloadN hx hb dX5_produce_171 (lv_at hl 1 rfl) ?_
              refine lv_iload_n hx hb dX5_produce_173 rfl (lv_at hl 6 rfl) ?_
              refine lv_iload hx hb dX5_produce_174 (lv_at hl 7 rfl) ?_
              refine lv_iload hx hb dX5_produce_176 (lv_at hl 8 rfl) ?_
              have hFc := pfree hD hS hA
              refine va_callr (va_runS (As := [.int x1116, .null, .int sq, .int ke, .int va]) (rest := [.ref b1110]) ⟨hx, hb, hml, hown, hts⟩ (c_X5_newData0 l dC dI cy v L K N T I Q J s.heap.size x1116 sq ke va hC) (va_cwS 5 hts gX5_produce_X5_newData rfl rfl rfl (by decide +kernel) ⟨Nat.le_of_ble_eq_true rfl, Nat.le_of_ble_eq_true rfl⟩) ⟨pw_blind, fun U hU hW => ⟨rfl, pw_pre hP hK hN hD hU hW⟩⟩ rfl rfl hl.1 rfl (lv_room (Nat.le_of_ble_eq_true rfl)) dX5_produce_178 ⟨Nat.le_of_ble_eq_true rfl, Nat.le_of_ble_eq_true rfl⟩) hS (fun q _ h => hFc q h) hFc (fun d9 r1118 t H1 locs ht hvm hw hB hz1 hk1 hS => ?_)
              obtain ⟨L, K, T, I1117, Q1117, J1117⟩ := d9
              obtain ⟨hC, hR1, hXe⟩ := hw
              obtain ⟨⟨hLr1118, hkr1118⟩, hB⟩ := hB
              obtain ⟨hP, hK1, hD1⟩ := hB
              rw [ht] at hP
              have hD := hD1.weaken (fun _ _ _ h => hFc _ h)
              have hR := hR.trans hR1
              generalize H1 = H at hP hS ⊢
              have hP : va_P (dC, dI) vwCl (va_pl L (pF cy K N T I1117 Q1117 J1117)) H := hP
              have hD : va_D A (va_pl L (pF cy K N T I1117 Q1117 J1117)) := hD
              have hC : CT v L K N T I1117 Q1117 := hC
              have hR : RS v I Q J I1117 Q1117 J1117 := hR
              have hX := hX.trans hXe
              have hLz1119 : b1100 ∈ L := (hXe _ hTb1100.1).1
              have hkz1119 : K b1100 = 2 := (hXe _ hTb1100.1).2.1.trans hTb1100.2
              have hLz1120 : b1110 ∈ L := (hXe _ hTb1110.1).1
              have hkz1120 : K b1110 = 4 := (hXe _ hTb1110.1).2.1.trans hTb1110.2
              refine W.widen (k := 1) (n := 8) (by omega) (by omega) ?_
              obtain ⟨j1121, hj1121⟩ := pG_4 (cy := cy) (N := N) (T := T) (I := I1117) (Q := Q1117) (J := J1117) hLz1120 hkz1120
              have hFc := pfree hD hS hA
              refine va_callv (va_runV (As := [.ref r1118]) (rest := []) ⟨hx, hb, hml, hown, hts⟩ (c_X4_append l dC dI cy v L K N T I1117 Q1117 J1117 H.size b1110 r1118 hC hLz1120 hkz1120 hLr1118 hkr1118) (cwV 1 hts gX5_produce_X4_append rfl rfl rfl (by decide +kernel) ⟨Nat.le_of_ble_eq_true rfl, Nat.le_of_ble_eq_true rfl⟩) ⟨pw_blind, va_recv hK hP (ci := 4) (q0 := j1121) rfl hj1121, fun U hU hW => ⟨rfl, pw_pre hP hK hN hD hU hW⟩⟩ rfl rfl hl.1 rfl (lv_room (Nat.le_of_ble_eq_true rfl)) dX5_produce_181 ⟨Nat.le_of_ble_eq_true rfl, Nat.le_of_ble_eq_true rfl⟩) hS (fun q _ h => hFc q h) hFc (fun d9 t H1 locs ht hvm hw hB hz1 hk1 hS => ?_)
              obtain ⟨I1122, Q1122, J1122⟩ := d9
              obtain ⟨hC, hR1⟩ := hw
              obtain ⟨hP, hK1, hD1⟩ := hB
              rw [ht] at hP
              have hD := hD1.weaken (fun _ _ _ h => hFc _ h)
              have hR := hR.trans hR1
              generalize H1 = H at hP hS ⊢
              have hP : va_P (dC, dI) vwCl (va_pl L (pF cy K N T I1122 Q1122 J1122)) H := hP
              have hD : va_D A (va_pl L (pF cy K N T I1122 Q1122 J1122)) := hD
              have hC : CT v L K N T I1122 Q1122 := hC
              have hR : RS v I Q J I1122 Q1122 J1122 := hR
              refine lv_aloadN hx hb dX5_produce_184 (lv_at hl 1 rfl) ?_
              refine lv_ifnullN (tgt := 211) hx hb dX5_produce_186 (by decide) ?_
              refine lv_aload hx hb dX5_produce_211 (lv_at hl 2 rfl) ?_
              obtain ⟨j1124, hj1124⟩ := pG_2 (cy := cy) (N := N) (T := T) (I := I1122) (Q := Q1122) (J := J1122) hLz1119 hkz1119
              have hFc := pfree hD hS hA
              refine va_callv (va_runV (As := []) (rest := []) ⟨hx, hb, hml, hown, hts⟩ (c_X2_raiseHw l dC dI cy v L K N T I1122 Q1122 J1122 H.size b1100  hC hLz1119 hkz1119) (cwV 0 hts gX5_produce_X2_raiseHw rfl rfl rfl (by decide +kernel) ⟨Nat.le_of_ble_eq_true rfl, Nat.le_of_ble_eq_true rfl⟩) ⟨pw_blind, va_recv hK hP (ci := 2) (q0 := j1124) rfl hj1124, fun U hU hW => ⟨rfl, pw_pre hP hK hN hD hU hW⟩⟩ rfl rfl hl.1 rfl (lv_room (Nat.le_of_ble_eq_true rfl)) dX5_produce_213 ⟨Nat.le_of_ble_eq_true rfl, Nat.le_of_ble_eq_true rfl⟩) hS (fun q _ h => hFc q h) hFc (fun d9 t H1 locs ht hvm hw hB hz1 hk1 hS => ?_)
              obtain ⟨I1125, Q1125, J1125⟩ := d9
              obtain ⟨hC, hR1⟩ := hw
              obtain ⟨hP, hK1, hD1⟩ := hB
              rw [ht] at hP
              have hD := hD1.weaken (fun _ _ _ h => hFc _ h)
              have hR := hR.trans hR1
              generalize H1 = H at hP hS ⊢
              have hP : va_P (dC, dI) vwCl (va_pl L (pF cy K N T I1125 Q1125 J1125)) H := hP
              have hD : va_D A (va_pl L (pF cy K N T I1125 Q1125 J1125)) := hD
              have hC : CT v L K N T I1125 Q1125 := hC
              have hR : RS v I Q J I1125 Q1125 J1125 := hR
              refine lv_aload hx hb dX5_produce_216 (lv_at hl 0 rfl) ?_
              obtain ⟨j1127, hj1127⟩ := pG_4 (cy := cy) (N := N) (T := T) (I := I1125) (Q := Q1125) (J := J1125) hLz1120 hkz1120
              refine va_get (D := (dC, dI)) (ci := 4) (v := .int (I1125 b1110 2)) (C := RX4) (T := TX4) (N := 7) hx hb hts hi4 hown hK hP j1127 hj1127 rfl 2 (by decide) (hts (.fieldLink RX5 132 "TallyLogs$Replica" "end" "I") (by decide +kernel)) (fun _ h9 => h9) rfl dX5_produce_218 ?_
              refine lv_topi (fun x1128 ex1128 => ?_)
              refine lv_iconst (v := 1) hx hb dX5_produce_221 (by decide) ?_
              refine lv_isub hx hb dX5_produce_222 ?_
              refine lv_topi (fun v1129 ev1129 => ?_)
              refine W.widen (k := 1) (n := 8) (by omega) (by omega) ?_
              exact W.iret (v := v1129) hx hb hr (fun t ht hW => ⟨⟨v1129, (L, K, T, I1125, Q1125, J1125), rfl, ⟨⟨hC, hR, hX⟩, trivial⟩, by rw [ht]; exact hP, va_K.moved hW.alike hK, hD⟩, hS.F ht⟩) hS.2.2 dX5_produce_223
            · refine lv_bipush (v := (-3)) hx hb dX5_produce_161 (by decide) ?_
              refine W.widen (k := 1) (n := 8) (by omega) (by omega) ?_
              exact W.iret (v := (-3)) hx hb hr (fun t ht hW => ⟨⟨(-3), (L, K, T, I, Q, J), rfl, ⟨⟨hC, hR, hX⟩, trivial⟩, by rw [ht]; exact hP, va_K.moved hW.alike hK, hD⟩, hS.F ht⟩) hS.2.2 dX5_produce_163
          · refine lv_aload hx hb dX5_produce_80 (lv_at hl 2 rfl) ?_
            obtain ⟨j1130, hj1130⟩ := pG_2 (cy := cy) (N := N) (T := T) (I := I) (Q := Q) (J := J) hTb1100.1 hTb1100.2
            refine va_get (D := (dC, dI)) (ci := 2) (v := .int (I b1100 5)) (C := RX2) (T := TX2) (N := 6) hx hb hts hi2 hown hK hP j1130 hj1130 rfl 5 (by decide) (hts (.fieldLink RX5 58 "TallyLogs$Partition" "inStep" "I") (by decide +kernel)) (fun _ h9 => h9) rfl dX5_produce_82 ?_
            refine lv_topi (fun x1131 ex1131 => ?_)
            refine vp_callSi (W.runS (As := [.int x1131]) (rest := []) ⟨hx, hb, hml, hown, hts⟩ (c_J6_bitCount_0f7a4 l x1131) (va_cwS 1 hts gX5_produce_J6_bitCount_0f7a4 rfl rfl rfl (by decide +kernel) ⟨Nat.le_of_ble_eq_true rfl, Nat.le_of_ble_eq_true rfl⟩) preEq rfl rfl hl.1 rfl (lv_room (Nat.le_of_ble_eq_true rfl)) dX5_produce_85 ⟨Nat.le_of_ble_eq_true rfl, Nat.le_of_ble_eq_true rfl⟩) (fun r1132 hr1132 => ?_)
            refine lv_aload hx hb dX5_produce_88 (lv_at hl 2 rfl) ?_
            obtain ⟨j1133, hj1133⟩ := pG_2 (cy := cy) (N := N) (T := T) (I := I) (Q := Q) (J := J) hTb1100.1 hTb1100.2
            refine va_get (D := (dC, dI)) (ci := 2) (v := .int (I b1100 1)) (C := RX2) (T := TX2) (N := 6) hx hb hts hi2 hown hK hP j1133 hj1133 rfl 1 (by decide) (hts (.fieldLink RX5 95 "TallyLogs$Partition" "min" "I") (by decide +kernel)) (fun _ h9 => h9) rfl dX5_produce_90 ?_
            refine lv_topi (fun x1134 ex1134 => ?_)
            refine lv_icmp_ge (tgt := 99) hx hb dX5_produce_93 (by decide) (fun c1135 => ?_) (fun c1135 => ?_)
            · refine lv_aloadN hx hb dX5_produce_99 (lv_at hl 1 rfl) ?_
              refine lv_ifnullN (tgt := 153) hx hb dX5_produce_101 (by decide) ?_
              refine lv_aload hx hb dX5_produce_153 (lv_at hl 0 rfl) ?_
              obtain ⟨j1137, hj1137⟩ := pG_4 (cy := cy) (N := N) (T := T) (I := I) (Q := Q) (J := J) hTb1110.1 hTb1110.2
              refine vp_callSi (W.runV (As := []) (rest := []) ⟨hx, hb, hml, hown, hts⟩ (c_X4_isFull l dC dI cy v L K N T I Q J b1110  hC hTb1110.1 hTb1110.2) (cwV 0 hts gX5_produce_X4_isFull rfl rfl rfl (by decide +kernel) ⟨Nat.le_of_ble_eq_true rfl, Nat.le_of_ble_eq_true rfl⟩) ⟨pb_blind, va_recv hK hP (ci := 4) (q0 := j1137) rfl hj1137, fun U hU hW => ⟨rfl, pb_pre hP hK hN hU hW⟩⟩ rfl rfl hl.1 rfl (lv_room (Nat.le_of_ble_eq_true rfl)) dX5_produce_155 ⟨Nat.le_of_ble_eq_true rfl, Nat.le_of_ble_eq_true rfl⟩) (fun r1136 hr1136 => ?_)
              refine lv_if_eq (tgt := 164) hx hb dX5_produce_158 (by decide) (fun c1138 => ?_) (fun c1138 => ?_)
              · refine lv_aload hx hb dX5_produce_164 (lv_at hl 0 rfl) ?_
                refine lv_aload hx hb dX5_produce_166 (lv_at hl 2 rfl) ?_
                obtain ⟨j1139, hj1139⟩ := pG_2 (cy := cy) (N := N) (T := T) (I := I) (Q := Q) (J := J) hTb1100.1 hTb1100.2
                refine va_get (D := (dC, dI)) (ci := 2) (v := .int (I b1100 4)) (C := RX2) (T := TX2) (N := 6) hx hb hts hi2 hown hK hP j1139 hj1139 rfl 4 (by decide) (hts (.fieldLink RX5 115 "TallyLogs$Partition" "epoch" "I") (by decide +kernel)) (fun _ h9 => h9) rfl dX5_produce_168 ?_
                refine lv_topi (fun x1140 ex1140 => ?_)
                refine lv_aloadN hx hb dX5_produce_171 (lv_at hl 1 rfl) ?_
                refine lv_iload_n hx hb dX5_produce_173 rfl (lv_at hl 6 rfl) ?_
                refine lv_iload hx hb dX5_produce_174 (lv_at hl 7 rfl) ?_
                refine lv_iload hx hb dX5_produce_176 (lv_at hl 8 rfl) ?_
                have hFc := pfree hD hS hA
                refine va_callr (va_runS (As := [.int x1140, .null, .int sq, .int ke, .int va]) (rest := [.ref b1110]) ⟨hx, hb, hml, hown, hts⟩ (c_X5_newData0 l dC dI cy v L K N T I Q J s.heap.size x1140 sq ke va hC) (va_cwS 5 hts gX5_produce_X5_newData rfl rfl rfl (by decide +kernel) ⟨Nat.le_of_ble_eq_true rfl, Nat.le_of_ble_eq_true rfl⟩) ⟨pw_blind, fun U hU hW => ⟨rfl, pw_pre hP hK hN hD hU hW⟩⟩ rfl rfl hl.1 rfl (lv_room (Nat.le_of_ble_eq_true rfl)) dX5_produce_178 ⟨Nat.le_of_ble_eq_true rfl, Nat.le_of_ble_eq_true rfl⟩) hS (fun q _ h => hFc q h) hFc (fun d9 r1142 t H1 locs ht hvm hw hB hz1 hk1 hS => ?_)
                obtain ⟨L, K, T, I1141, Q1141, J1141⟩ := d9
                obtain ⟨hC, hR1, hXe⟩ := hw
                obtain ⟨⟨hLr1142, hkr1142⟩, hB⟩ := hB
                obtain ⟨hP, hK1, hD1⟩ := hB
                rw [ht] at hP
                have hD := hD1.weaken (fun _ _ _ h => hFc _ h)
                have hR := hR.trans hR1
                generalize H1 = H at hP hS ⊢
                have hP : va_P (dC, dI) vwCl (va_pl L (pF cy K N T I1141 Q1141 J1141)) H := hP
                have hD : va_D A (va_pl L (pF cy K N T I1141 Q1141 J1141)) := hD
                have hC : CT v L K N T I1141 Q1141 := hC
                have hR : RS v I Q J I1141 Q1141 J1141 := hR
                have hX := hX.trans hXe
                have hLz1143 : b1100 ∈ L := (hXe _ hTb1100.1).1
                have hkz1143 : K b1100 = 2 := (hXe _ hTb1100.1).2.1.trans hTb1100.2
                have hLz1144 : b1110 ∈ L := (hXe _ hTb1110.1).1
                have hkz1144 : K b1110 = 4 := (hXe _ hTb1110.1).2.1.trans hTb1110.2
                refine W.widen (k := 1) (n := 8) (by omega) (by omega) ?_
                obtain ⟨j1145, hj1145⟩ := pG_4 (cy := cy) (N := N) (T := T) (I := I1141) (Q := Q1141) (J := J1141) hLz1144 hkz1144
                have hFc := pfree hD hS hA
                refine va_callv (va_runV (As := [.ref r1142]) (rest := []) ⟨hx, hb, hml, hown, hts⟩ (c_X4_append l dC dI cy v L K N T I1141 Q1141 J1141 H.size b1110 r1142 hC hLz1144 hkz1144 hLr1142 hkr1142) (cwV 1 hts gX5_produce_X4_append rfl rfl rfl (by decide +kernel) ⟨Nat.le_of_ble_eq_true rfl, Nat.le_of_ble_eq_true rfl⟩) ⟨pw_blind, va_recv hK hP (ci := 4) (q0 := j1145) rfl hj1145, fun U hU hW => ⟨rfl, pw_pre hP hK hN hD hU hW⟩⟩ rfl rfl hl.1 rfl (lv_room (Nat.le_of_ble_eq_true rfl)) dX5_produce_181 ⟨Nat.le_of_ble_eq_true rfl, Nat.le_of_ble_eq_true rfl⟩) hS (fun q _ h => hFc q h) hFc (fun d9 t H1 locs ht hvm hw hB hz1 hk1 hS => ?_)
                obtain ⟨I1146, Q1146, J1146⟩ := d9
                obtain ⟨hC, hR1⟩ := hw
                obtain ⟨hP, hK1, hD1⟩ := hB
                rw [ht] at hP
                have hD := hD1.weaken (fun _ _ _ h => hFc _ h)
                have hR := hR.trans hR1
                generalize H1 = H at hP hS ⊢
                have hP : va_P (dC, dI) vwCl (va_pl L (pF cy K N T I1146 Q1146 J1146)) H := hP
                have hD : va_D A (va_pl L (pF cy K N T I1146 Q1146 J1146)) := hD
                have hC : CT v L K N T I1146 Q1146 := hC
                have hR : RS v I Q J I1146 Q1146 J1146 := hR
                refine lv_aloadN hx hb dX5_produce_184 (lv_at hl 1 rfl) ?_
                refine lv_ifnullN (tgt := 211) hx hb dX5_produce_186 (by decide) ?_
                refine lv_aload hx hb dX5_produce_211 (lv_at hl 2 rfl) ?_
                obtain ⟨j1148, hj1148⟩ := pG_2 (cy := cy) (N := N) (T := T) (I := I1146) (Q := Q1146) (J := J1146) hLz1143 hkz1143
                have hFc := pfree hD hS hA
                refine va_callv (va_runV (As := []) (rest := []) ⟨hx, hb, hml, hown, hts⟩ (c_X2_raiseHw l dC dI cy v L K N T I1146 Q1146 J1146 H.size b1100  hC hLz1143 hkz1143) (cwV 0 hts gX5_produce_X2_raiseHw rfl rfl rfl (by decide +kernel) ⟨Nat.le_of_ble_eq_true rfl, Nat.le_of_ble_eq_true rfl⟩) ⟨pw_blind, va_recv hK hP (ci := 2) (q0 := j1148) rfl hj1148, fun U hU hW => ⟨rfl, pw_pre hP hK hN hD hU hW⟩⟩ rfl rfl hl.1 rfl (lv_room (Nat.le_of_ble_eq_true rfl)) dX5_produce_213 ⟨Nat.le_of_ble_eq_true rfl, Nat.le_of_ble_eq_true rfl⟩) hS (fun q _ h => hFc q h) hFc (fun d9 t H1 locs ht hvm hw hB hz1 hk1 hS => ?_)
                obtain ⟨I1149, Q1149, J1149⟩ := d9
                obtain ⟨hC, hR1⟩ := hw
                obtain ⟨hP, hK1, hD1⟩ := hB
                rw [ht] at hP
                have hD := hD1.weaken (fun _ _ _ h => hFc _ h)
                have hR := hR.trans hR1
                generalize H1 = H at hP hS ⊢
                have hP : va_P (dC, dI) vwCl (va_pl L (pF cy K N T I1149 Q1149 J1149)) H := hP
                have hD : va_D A (va_pl L (pF cy K N T I1149 Q1149 J1149)) := hD
                have hC : CT v L K N T I1149 Q1149 := hC
                have hR : RS v I Q J I1149 Q1149 J1149 := hR
                refine lv_aload hx hb dX5_produce_216 (lv_at hl 0 rfl) ?_
                obtain ⟨j1151, hj1151⟩ := pG_4 (cy := cy) (N := N) (T := T) (I := I1149) (Q := Q1149) (J := J1149) hLz1144 hkz1144
                refine va_get (D := (dC, dI)) (ci := 4) (v := .int (I1149 b1110 2)) (C := RX4) (T := TX4) (N := 7) hx hb hts hi4 hown hK hP j1151 hj1151 rfl 2 (by decide) (hts (.fieldLink RX5 132 "TallyLogs$Replica" "end" "I") (by decide +kernel)) (fun _ h9 => h9) rfl dX5_produce_218 ?_
                refine lv_topi (fun x1152 ex1152 => ?_)
                refine lv_iconst (v := 1) hx hb dX5_produce_221 (by decide) ?_
                refine lv_isub hx hb dX5_produce_222 ?_
                refine lv_topi (fun v1153 ev1153 => ?_)
                refine W.widen (k := 1) (n := 8) (by omega) (by omega) ?_
                exact W.iret (v := v1153) hx hb hr (fun t ht hW => ⟨⟨v1153, (L, K, T, I1149, Q1149, J1149), rfl, ⟨⟨hC, hR, hX⟩, trivial⟩, by rw [ht]; exact hP, va_K.moved hW.alike hK, hD⟩, hS.F ht⟩) hS.2.2 dX5_produce_223
              · refine lv_bipush (v := (-3)) hx hb dX5_produce_161 (by decide) ?_
                refine W.widen (k := 1) (n := 8) (by omega) (by omega) ?_
                exact W.iret (v := (-3)) hx hb hr (fun t ht hW => ⟨⟨(-3), (L, K, T, I, Q, J), rfl, ⟨⟨hC, hR, hX⟩, trivial⟩, by rw [ht]; exact hP, va_K.moved hW.alike hK, hD⟩, hS.F ht⟩) hS.2.2 dX5_produce_163
            · refine lv_bipush (v := (-5)) hx hb dX5_produce_96 (by decide) ?_
              refine W.widen (k := 1) (n := 8) (by omega) (by omega) ?_
              exact W.iret (v := (-5)) hx hb hr (fun t ht hW => ⟨⟨(-5), (L, K, T, I, Q, J), rfl, ⟨⟨hC, hR, hX⟩, trivial⟩, by rw [ht]; exact hP, va_K.moved hW.alike hK, hD⟩, hS.F ht⟩) hS.2.2 dX5_produce_98
      · refine lv_iconst (v := (-1)) hx hb dX5_produce_29 (by decide) ?_
        refine W.widen (k := 1) (n := 8) (by omega) (by omega) ?_
        exact W.iret (v := (-1)) hx hb hr (fun t ht hW => ⟨⟨(-1), (L, K, T, I, Q, J), rfl, ⟨⟨hC, hR, hX⟩, trivial⟩, by rw [ht]; exact hP, va_K.moved hW.alike hK, hD⟩, hS.F ht⟩) hS.2.2 dX5_produce_30
    · refine W.eq (g2 := F0 m 12 ls [.ref (v (4 + j1106))]) rfl ?_
      refine lv_astore (lv' := [(8, .ref (v (4 + j1106))), (7, .ref b1100), (0, .ref (v 0)), (1, .int xp), (2, .int hd), (3, .int sq), (4, .int ke), (5, .int va), (6, .int al)]) hx hb dX5_produce_12 hl (by decide) rfl (fun ls hl => ?_)
      refine lv_aload hx hb dX5_produce_14 (lv_at hl 1 rfl) ?_
      refine lv_ifnull hx hb dX5_produce_16 ?_
      refine lv_aload hx hb dX5_produce_19 (lv_at hl 0 rfl) ?_
      refine lv_ifnonnull (tgt := 31) hx hb dX5_produce_21 (by decide) ?_
      refine lv_aload hx hb dX5_produce_31 (lv_at hl 1 rfl) ?_
      obtain ⟨j1155, hj1155⟩ := pG_2 (cy := cy) (N := N) (T := T) (I := I) (Q := Q) (J := J) hTb1100.1 hTb1100.2
      refine va_csq (W.runV (As := []) (rest := []) ⟨hx, hb, hml, hown, hts⟩ (c_X2_leading l dC dI cy v L K N T I Q J b1100  hC hTb1100.1 hTb1100.2) (cwV 0 hts gX5_produce_X2_leading rfl rfl rfl (by decide +kernel) ⟨Nat.le_of_ble_eq_true rfl, Nat.le_of_ble_eq_true rfl⟩) ⟨pb_blind, va_recv hK hP (ci := 2) (q0 := j1155) rfl hj1155, fun U hU hW => ⟨rfl, pb_pre hP hK hN hU hW⟩⟩ rfl rfl hl.1 rfl (lv_room (Nat.le_of_ble_eq_true rfl)) dX5_produce_33 ⟨Nat.le_of_ble_eq_true rfl, Nat.le_of_ble_eq_true rfl⟩) (fun r1154 hr1154 => ?_)
      cases r1154 with
      | none =>
        refine W.eq (g2 := F0 m 36 ls [.null]) rfl ?_
        refine lv_astoreN (lv' := [(9, .null), (8, .ref (v (4 + j1106))), (7, .ref b1100), (0, .ref (v 0)), (1, .int xp), (2, .int hd), (3, .int sq), (4, .int ke), (5, .int va), (6, .int al)]) hx hb dX5_produce_36 hl (by decide) rfl (fun ls hl => ?_)
        refine lv_aloadN hx hb dX5_produce_38 (lv_at hl 0 rfl) ?_
        refine lv_ifnonnullN hx hb dX5_produce_40 ?_
        refine lv_bipush (v := (-2)) hx hb dX5_produce_43 (by decide) ?_
        refine W.widen (k := 1) (n := 8) (by omega) (by omega) ?_
        exact W.iret (v := (-2)) hx hb hr (fun t ht hW => ⟨⟨(-2), (L, K, T, I, Q, J), rfl, ⟨⟨hC, hR, hX⟩, trivial⟩, by rw [ht]; exact hP, va_K.moved hW.alike hK, hD⟩, hS.F ht⟩) hS.2.2 dX5_produce_45
      | some b1156 =>
        have hTb1156 := hr1154 b1156 rfl
        refine W.eq (g2 := F0 m 36 ls [.ref b1156]) rfl ?_
        refine lv_astore (lv' := [(9, .ref b1156), (8, .ref (v (4 + j1106))), (7, .ref b1100), (0, .ref (v 0)), (1, .int xp), (2, .int hd), (3, .int sq), (4, .int ke), (5, .int va), (6, .int al)]) hx hb dX5_produce_36 hl (by decide) rfl (fun ls hl => ?_)
        refine lv_aload hx hb dX5_produce_38 (lv_at hl 0 rfl) ?_
        refine lv_ifnonnull (tgt := 46) hx hb dX5_produce_40 (by decide) ?_
        refine lv_aload hx hb dX5_produce_46 (lv_at hl 1 rfl) ?_
        refine lv_ifnull hx hb dX5_produce_48 ?_
        refine lv_aload hx hb dX5_produce_51 (lv_at hl 1 rfl) ?_
        obtain ⟨j1157, hj1157⟩ := pG_3 (cy := cy) (N := N) (T := T) (I := I) (Q := Q) (J := J) (hC.kp hj1106).1 (hC.kp hj1106).2
        refine va_get (D := (dC, dI)) (ci := 3) (v := .int (I (v (4 + j1106)) 1)) (C := RX3) (T := TX3) (N := 6) hx hb hts hi3 hown hK hP j1157 hj1157 rfl 1 (by decide) (hts (.fieldLink RX5 75 "TallyLogs$Producer" "generation" "I") (by decide +kernel)) (fun _ h9 => h9) rfl dX5_produce_53 ?_
        refine lv_topi (fun x1158 ex1158 => ?_)
        refine lv_iload_n hx hb dX5_produce_56 rfl (lv_at hl 5 rfl) ?_
        refine vp_callSi (W.runS (As := [.int hd]) (rest := [.int x1158]) ⟨hx, hb, hml, hown, hts⟩ (c_X5_generationOf l hd) (va_cwS 1 hts gX5_produce_X5_generationOf rfl rfl rfl (by decide +kernel) ⟨Nat.le_of_ble_eq_true rfl, Nat.le_of_ble_eq_true rfl⟩) preEq rfl rfl hl.1 rfl (lv_room (Nat.le_of_ble_eq_true rfl)) dX5_produce_57 ⟨Nat.le_of_ble_eq_true rfl, Nat.le_of_ble_eq_true rfl⟩) (fun r1159 hr1159 => ?_)
        refine lv_icmp_ne (tgt := 72) hx hb dX5_produce_60 (by decide) (fun c1160 => ?_) (fun c1160 => ?_)
        · refine lv_bipush (v := (-4)) hx hb dX5_produce_72 (by decide) ?_
          refine W.widen (k := 1) (n := 8) (by omega) (by omega) ?_
          exact W.iret (v := (-4)) hx hb hr (fun t ht hW => ⟨⟨(-4), (L, K, T, I, Q, J), rfl, ⟨⟨hC, hR, hX⟩, trivial⟩, by rw [ht]; exact hP, va_K.moved hW.alike hK, hD⟩, hS.F ht⟩) hS.2.2 dX5_produce_74
        · refine lv_aload hx hb dX5_produce_63 (lv_at hl 1 rfl) ?_
          obtain ⟨j1161, hj1161⟩ := pG_3 (cy := cy) (N := N) (T := T) (I := I) (Q := Q) (J := J) (hC.kp hj1106).1 (hC.kp hj1106).2
          refine va_get (D := (dC, dI)) (ci := 3) (v := .int (I (v (4 + j1106)) 2)) (C := RX3) (T := TX3) (N := 6) hx hb hts hi3 hown hK hP j1161 hj1161 rfl 2 (by decide) (hts (.fieldLink RX5 78 "TallyLogs$Producer" "mode" "I") (by decide +kernel)) (fun _ h9 => h9) rfl dX5_produce_65 ?_
          refine lv_topi (fun x1162 ex1162 => ?_)
          refine lv_iconst (v := 2) hx hb dX5_produce_68 (by decide) ?_
          refine lv_icmp_ne (tgt := 75) hx hb dX5_produce_69 (by decide) (fun c1163 => ?_) (fun c1163 => ?_)
          · refine lv_iload hx hb dX5_produce_75 (lv_at hl 9 rfl) ?_
            refine lv_if_eq (tgt := 99) hx hb dX5_produce_77 (by decide) (fun c1164 => ?_) (fun c1164 => ?_)
            · refine lv_aload hx hb dX5_produce_99 (lv_at hl 1 rfl) ?_
              refine lv_ifnull hx hb dX5_produce_101 ?_
              refine lv_aload hx hb dX5_produce_104 (lv_at hl 0 rfl) ?_
              refine lv_aload hx hb dX5_produce_106 (lv_at hl 1 rfl) ?_
              obtain ⟨j1165, hj1165⟩ := pG_3 (cy := cy) (N := N) (T := T) (I := I) (Q := Q) (J := J) (hC.kp hj1106).1 (hC.kp hj1106).2
              refine va_get (D := (dC, dI)) (ci := 3) (v := .int (I (v (4 + j1106)) 0)) (C := RX3) (T := TX3) (N := 6) hx hb hts hi3 hown hK hP j1165 hj1165 rfl 0 (by decide) (hts (.fieldLink RX5 98 "TallyLogs$Producer" "number" "I") (by decide +kernel)) (fun _ h9 => h9) rfl dX5_produce_108 ?_
              refine lv_topi (fun x1166 ex1166 => ?_)
              refine lv_aload hx hb dX5_produce_111 (lv_at hl 1 rfl) ?_
              obtain ⟨j1167, hj1167⟩ := pG_3 (cy := cy) (N := N) (T := T) (I := I) (Q := Q) (J := J) (hC.kp hj1106).1 (hC.kp hj1106).2
              refine va_get (D := (dC, dI)) (ci := 3) (v := .int (I (v (4 + j1106)) 1)) (C := RX3) (T := TX3) (N := 6) hx hb hts hi3 hown hK hP j1167 hj1167 rfl 1 (by decide) (hts (.fieldLink RX5 75 "TallyLogs$Producer" "generation" "I") (by decide +kernel)) (fun _ h9 => h9) rfl dX5_produce_113 ?_
              refine lv_topi (fun x1168 ex1168 => ?_)
              refine lv_iload_n hx hb dX5_produce_116 rfl (lv_at hl 6 rfl) ?_
              obtain ⟨j1170, hj1170⟩ := pG_4 (cy := cy) (N := N) (T := T) (I := I) (Q := Q) (J := J) hTb1156.1 hTb1156.2
              refine vp_callSi (W.runV (As := [.int x1166, .int x1168, .int sq]) (rest := []) ⟨hx, hb, hml, hown, hts⟩ (c_X4_offsetOf l dC dI cy v L K N T I Q J b1156 x1166 x1168 sq hC hTb1156.1 hTb1156.2) (cwV 3 hts gX5_produce_X4_offsetOf rfl rfl rfl (by decide +kernel) ⟨Nat.le_of_ble_eq_true rfl, Nat.le_of_ble_eq_true rfl⟩) ⟨pb_blind, va_recv hK hP (ci := 4) (q0 := j1170) rfl hj1170, fun U hU hW => ⟨rfl, pb_pre hP hK hN hU hW⟩⟩ rfl rfl hl.1 rfl (lv_room (Nat.le_of_ble_eq_true rfl)) dX5_produce_117 ⟨Nat.le_of_ble_eq_true rfl, Nat.le_of_ble_eq_true rfl⟩) (fun r1169 hr1169 => ?_)
              refine lv_istore (lv' := [(10, .int r1169), (9, .ref b1156), (8, .ref (v (4 + j1106))), (7, .ref b1100), (0, .ref (v 0)), (1, .int xp), (2, .int hd), (3, .int sq), (4, .int ke), (5, .int va), (6, .int al)]) hx hb dX5_produce_120 hl (by decide) rfl (fun ls hl => ?_)
              refine lv_iload hx hb dX5_produce_122 (lv_at hl 0 rfl) ?_
              refine lv_iconst (v := (-1)) hx hb dX5_produce_124 (by decide) ?_
              refine lv_icmp_eq (tgt := 131) hx hb dX5_produce_125 (by decide) (fun c1171 => ?_) (fun c1171 => ?_)
              · refine lv_iload_n hx hb dX5_produce_131 rfl (lv_at hl 7 rfl) ?_
                refine lv_aload hx hb dX5_produce_132 (lv_at hl 1 rfl) ?_
                refine lv_aload hx hb dX5_produce_134 (lv_at hl 2 rfl) ?_
                obtain ⟨j1172, hj1172⟩ := pG_3 (cy := cy) (N := N) (T := T) (I := I) (Q := Q) (J := J) (hC.kp hj1106).1 (hC.kp hj1106).2
                refine va_get (D := (dC, dI)) (ci := 3) (v := .int (I (v (4 + j1106)) 0)) (C := RX3) (T := TX3) (N := 6) hx hb hts hi3 hown hK hP j1172 hj1172 rfl 0 (by decide) (hts (.fieldLink RX5 98 "TallyLogs$Producer" "number" "I") (by decide +kernel)) (fun _ h9 => h9) rfl dX5_produce_136 ?_
                refine lv_topi (fun x1173 ex1173 => ?_)
                refine lv_aload hx hb dX5_produce_139 (lv_at hl 2 rfl) ?_
                obtain ⟨j1174, hj1174⟩ := pG_3 (cy := cy) (N := N) (T := T) (I := I) (Q := Q) (J := J) (hC.kp hj1106).1 (hC.kp hj1106).2
                refine va_get (D := (dC, dI)) (ci := 3) (v := .int (I (v (4 + j1106)) 1)) (C := RX3) (T := TX3) (N := 6) hx hb hts hi3 hown hK hP j1174 hj1174 rfl 1 (by decide) (hts (.fieldLink RX5 75 "TallyLogs$Producer" "generation" "I") (by decide +kernel)) (fun _ h9 => h9) rfl dX5_produce_141 ?_
                refine lv_topi (fun x1175 ex1175 => ?_)
                obtain ⟨j1177, hj1177⟩ := pG_4 (cy := cy) (N := N) (T := T) (I := I) (Q := Q) (J := J) hTb1156.1 hTb1156.2
                refine vp_callSi (W.runV (As := [.int x1173, .int x1175]) (rest := [.int sq]) ⟨hx, hb, hml, hown, hts⟩ (c_X4_nextSeq l dC dI cy v L K N T I Q J b1156 x1173 x1175 hC hTb1156.1 hTb1156.2) (cwV 2 hts gX5_produce_X4_nextSeq rfl rfl rfl (by decide +kernel) ⟨Nat.le_of_ble_eq_true rfl, Nat.le_of_ble_eq_true rfl⟩) ⟨pb_blind, va_recv hK hP (ci := 4) (q0 := j1177) rfl hj1177, fun U hU hW => ⟨rfl, pb_pre hP hK hN hU hW⟩⟩ rfl rfl hl.1 rfl (lv_room (Nat.le_of_ble_eq_true rfl)) dX5_produce_144 ⟨Nat.le_of_ble_eq_true rfl, Nat.le_of_ble_eq_true rfl⟩) (fun r1176 hr1176 => ?_)
                refine lv_icmp_eq (tgt := 153) hx hb dX5_produce_147 (by decide) (fun c1178 => ?_) (fun c1178 => ?_)
                · refine lv_aload hx hb dX5_produce_153 (lv_at hl 1 rfl) ?_
                  obtain ⟨j1180, hj1180⟩ := pG_4 (cy := cy) (N := N) (T := T) (I := I) (Q := Q) (J := J) hTb1156.1 hTb1156.2
                  refine vp_callSi (W.runV (As := []) (rest := []) ⟨hx, hb, hml, hown, hts⟩ (c_X4_isFull l dC dI cy v L K N T I Q J b1156  hC hTb1156.1 hTb1156.2) (cwV 0 hts gX5_produce_X4_isFull rfl rfl rfl (by decide +kernel) ⟨Nat.le_of_ble_eq_true rfl, Nat.le_of_ble_eq_true rfl⟩) ⟨pb_blind, va_recv hK hP (ci := 4) (q0 := j1180) rfl hj1180, fun U hU hW => ⟨rfl, pb_pre hP hK hN hU hW⟩⟩ rfl rfl hl.1 rfl (lv_room (Nat.le_of_ble_eq_true rfl)) dX5_produce_155 ⟨Nat.le_of_ble_eq_true rfl, Nat.le_of_ble_eq_true rfl⟩) (fun r1179 hr1179 => ?_)
                  refine lv_if_eq (tgt := 164) hx hb dX5_produce_158 (by decide) (fun c1181 => ?_) (fun c1181 => ?_)
                  · refine lv_aload hx hb dX5_produce_164 (lv_at hl 1 rfl) ?_
                    refine lv_aload hx hb dX5_produce_166 (lv_at hl 3 rfl) ?_
                    obtain ⟨j1182, hj1182⟩ := pG_2 (cy := cy) (N := N) (T := T) (I := I) (Q := Q) (J := J) hTb1100.1 hTb1100.2
                    refine va_get (D := (dC, dI)) (ci := 2) (v := .int (I b1100 4)) (C := RX2) (T := TX2) (N := 6) hx hb hts hi2 hown hK hP j1182 hj1182 rfl 4 (by decide) (hts (.fieldLink RX5 115 "TallyLogs$Partition" "epoch" "I") (by decide +kernel)) (fun _ h9 => h9) rfl dX5_produce_168 ?_
                    refine lv_topi (fun x1183 ex1183 => ?_)
                    refine lv_aload hx hb dX5_produce_171 (lv_at hl 2 rfl) ?_
                    refine lv_iload_n hx hb dX5_produce_173 rfl (lv_at hl 7 rfl) ?_
                    refine lv_iload hx hb dX5_produce_174 (lv_at hl 8 rfl) ?_
                    refine lv_iload hx hb dX5_produce_176 (lv_at hl 9 rfl) ?_
                    have hFc := pfree hD hS hA
                    refine va_callr (va_runS (As := [.int x1183, .ref (v (4 + j1106)), .int sq, .int ke, .int va]) (rest := [.ref b1156]) ⟨hx, hb, hml, hown, hts⟩ (c_X5_newData l dC dI cy v L K N T I Q J s.heap.size x1183 (v (4 + j1106)) sq ke va hC (hC.kp hj1106).1 (hC.kp hj1106).2) (va_cwS 5 hts gX5_produce_X5_newData rfl rfl rfl (by decide +kernel) ⟨Nat.le_of_ble_eq_true rfl, Nat.le_of_ble_eq_true rfl⟩) ⟨pw_blind, fun U hU hW => ⟨rfl, pw_pre hP hK hN hD hU hW⟩⟩ rfl rfl hl.1 rfl (lv_room (Nat.le_of_ble_eq_true rfl)) dX5_produce_178 ⟨Nat.le_of_ble_eq_true rfl, Nat.le_of_ble_eq_true rfl⟩) hS (fun q _ h => hFc q h) hFc (fun d9 r1185 t H1 locs ht hvm hw hB hz1 hk1 hS => ?_)
                    obtain ⟨L, K, T, I1184, Q1184, J1184⟩ := d9
                    obtain ⟨hC, hR1, hXe⟩ := hw
                    obtain ⟨⟨hLr1185, hkr1185⟩, hB⟩ := hB
                    obtain ⟨hP, hK1, hD1⟩ := hB
                    rw [ht] at hP
                    have hD := hD1.weaken (fun _ _ _ h => hFc _ h)
                    have hR := hR.trans hR1
                    generalize H1 = H at hP hS ⊢
                    have hP : va_P (dC, dI) vwCl (va_pl L (pF cy K N T I1184 Q1184 J1184)) H := hP
                    have hD : va_D A (va_pl L (pF cy K N T I1184 Q1184 J1184)) := hD
                    have hC : CT v L K N T I1184 Q1184 := hC
                    have hR : RS v I Q J I1184 Q1184 J1184 := hR
                    have hX := hX.trans hXe
                    have hLz1186 : b1100 ∈ L := (hXe _ hTb1100.1).1
                    have hkz1186 : K b1100 = 2 := (hXe _ hTb1100.1).2.1.trans hTb1100.2
                    have hLz1187 : b1156 ∈ L := (hXe _ hTb1156.1).1
                    have hkz1187 : K b1156 = 4 := (hXe _ hTb1156.1).2.1.trans hTb1156.2
                    refine W.widen (k := 1) (n := 8) (by omega) (by omega) ?_
                    obtain ⟨j1188, hj1188⟩ := pG_4 (cy := cy) (N := N) (T := T) (I := I1184) (Q := Q1184) (J := J1184) hLz1187 hkz1187
                    have hFc := pfree hD hS hA
                    refine va_callv (va_runV (As := [.ref r1185]) (rest := []) ⟨hx, hb, hml, hown, hts⟩ (c_X4_append l dC dI cy v L K N T I1184 Q1184 J1184 H.size b1156 r1185 hC hLz1187 hkz1187 hLr1185 hkr1185) (cwV 1 hts gX5_produce_X4_append rfl rfl rfl (by decide +kernel) ⟨Nat.le_of_ble_eq_true rfl, Nat.le_of_ble_eq_true rfl⟩) ⟨pw_blind, va_recv hK hP (ci := 4) (q0 := j1188) rfl hj1188, fun U hU hW => ⟨rfl, pw_pre hP hK hN hD hU hW⟩⟩ rfl rfl hl.1 rfl (lv_room (Nat.le_of_ble_eq_true rfl)) dX5_produce_181 ⟨Nat.le_of_ble_eq_true rfl, Nat.le_of_ble_eq_true rfl⟩) hS (fun q _ h => hFc q h) hFc (fun d9 t H1 locs ht hvm hw hB hz1 hk1 hS => ?_)
                    obtain ⟨I1189, Q1189, J1189⟩ := d9
                    obtain ⟨hC, hR1⟩ := hw
                    obtain ⟨hP, hK1, hD1⟩ := hB
                    rw [ht] at hP
                    have hD := hD1.weaken (fun _ _ _ h => hFc _ h)
                    have hR := hR.trans hR1
                    generalize H1 = H at hP hS ⊢
                    have hP : va_P (dC, dI) vwCl (va_pl L (pF cy K N T I1189 Q1189 J1189)) H := hP
                    have hD : va_D A (va_pl L (pF cy K N T I1189 Q1189 J1189)) := hD
                    have hC : CT v L K N T I1189 Q1189 := hC
                    have hR : RS v I Q J I1189 Q1189 J1189 := hR
                    refine lv_aload hx hb dX5_produce_184 (lv_at hl 2 rfl) ?_
                    refine lv_ifnull hx hb dX5_produce_186 ?_
                    refine lv_aload hx hb dX5_produce_189 (lv_at hl 2 rfl) ?_
                    obtain ⟨j1191, hj1191⟩ := pG_3 (cy := cy) (N := N) (T := T) (I := I1189) (Q := Q1189) (J := J1189) (hC.kp hj1106).1 (hC.kp hj1106).2
                    refine va_get (D := (dC, dI)) (ci := 3) (v := .int (I1189 (v (4 + j1106)) 2)) (C := RX3) (T := TX3) (N := 6) hx hb hts hi3 hown hK hP j1191 hj1191 rfl 2 (by decide) (hts (.fieldLink RX5 78 "TallyLogs$Producer" "mode" "I") (by decide +kernel)) (fun _ h9 => h9) rfl dX5_produce_191 ?_
                    refine lv_topi (fun x1192 ex1192 => ?_)
                    refine lv_iconst (v := 1) hx hb dX5_produce_194 (by decide) ?_
                    refine lv_icmp_ne (tgt := 211) hx hb dX5_produce_195 (by decide) (fun c1193 => ?_) (fun c1193 => ?_)
                    · refine lv_aload hx hb dX5_produce_211 (lv_at hl 3 rfl) ?_
                      obtain ⟨j1194, hj1194⟩ := pG_2 (cy := cy) (N := N) (T := T) (I := I1189) (Q := Q1189) (J := J1189) hLz1186 hkz1186
                      have hFc := pfree hD hS hA
                      refine va_callv (va_runV (As := []) (rest := []) ⟨hx, hb, hml, hown, hts⟩ (c_X2_raiseHw l dC dI cy v L K N T I1189 Q1189 J1189 H.size b1100  hC hLz1186 hkz1186) (cwV 0 hts gX5_produce_X2_raiseHw rfl rfl rfl (by decide +kernel) ⟨Nat.le_of_ble_eq_true rfl, Nat.le_of_ble_eq_true rfl⟩) ⟨pw_blind, va_recv hK hP (ci := 2) (q0 := j1194) rfl hj1194, fun U hU hW => ⟨rfl, pw_pre hP hK hN hD hU hW⟩⟩ rfl rfl hl.1 rfl (lv_room (Nat.le_of_ble_eq_true rfl)) dX5_produce_213 ⟨Nat.le_of_ble_eq_true rfl, Nat.le_of_ble_eq_true rfl⟩) hS (fun q _ h => hFc q h) hFc (fun d9 t H1 locs ht hvm hw hB hz1 hk1 hS => ?_)
                      obtain ⟨I1195, Q1195, J1195⟩ := d9
                      obtain ⟨hC, hR1⟩ := hw
                      obtain ⟨hP, hK1, hD1⟩ := hB
                      rw [ht] at hP
                      have hD := hD1.weaken (fun _ _ _ h => hFc _ h)
                      have hR := hR.trans hR1
                      generalize H1 = H at hP hS ⊢
                      have hP : va_P (dC, dI) vwCl (va_pl L (pF cy K N T I1195 Q1195 J1195)) H := hP
                      have hD : va_D A (va_pl L (pF cy K N T I1195 Q1195 J1195)) := hD
                      have hC : CT v L K N T I1195 Q1195 := hC
                      have hR : RS v I Q J I1195 Q1195 J1195 := hR
                      refine lv_aload hx hb dX5_produce_216 (lv_at hl 1 rfl) ?_
                      obtain ⟨j1197, hj1197⟩ := pG_4 (cy := cy) (N := N) (T := T) (I := I1195) (Q := Q1195) (J := J1195) hLz1187 hkz1187
                      refine va_get (D := (dC, dI)) (ci := 4) (v := .int (I1195 b1156 2)) (C := RX4) (T := TX4) (N := 7) hx hb hts hi4 hown hK hP j1197 hj1197 rfl 2 (by decide) (hts (.fieldLink RX5 132 "TallyLogs$Replica" "end" "I") (by decide +kernel)) (fun _ h9 => h9) rfl dX5_produce_218 ?_
                      refine lv_topi (fun x1198 ex1198 => ?_)
                      refine lv_iconst (v := 1) hx hb dX5_produce_221 (by decide) ?_
                      refine lv_isub hx hb dX5_produce_222 ?_
                      refine lv_topi (fun v1199 ev1199 => ?_)
                      refine W.widen (k := 1) (n := 8) (by omega) (by omega) ?_
                      exact W.iret (v := v1199) hx hb hr (fun t ht hW => ⟨⟨v1199, (L, K, T, I1195, Q1195, J1195), rfl, ⟨⟨hC, hR, hX⟩, trivial⟩, by rw [ht]; exact hP, va_K.moved hW.alike hK, hD⟩, hS.F ht⟩) hS.2.2 dX5_produce_223
                    · refine lv_aload hx hb dX5_produce_198 (lv_at hl 2 rfl) ?_
                      refine lv_dup hx hb dX5_produce_200 rfl ?_
                      obtain ⟨j1200, hj1200⟩ := pG_3 (cy := cy) (N := N) (T := T) (I := I1189) (Q := Q1189) (J := J1189) (hC.kp hj1106).1 (hC.kp hj1106).2
                      refine va_get (D := (dC, dI)) (ci := 3) (v := .int (I1189 (v (4 + j1106)) 5)) (C := RX3) (T := TX3) (N := 6) hx hb hts hi3 hown hK hP j1200 hj1200 rfl 5 (by decide) (hts (.fieldLink RX5 126 "TallyLogs$Producer" "left" "I") (by decide +kernel)) (fun _ h9 => h9) rfl dX5_produce_201 ?_
                      refine lv_topi (fun x1201 ex1201 => ?_)
                      refine lv_iconst (v := 1) hx hb dX5_produce_204 (by decide) ?_
                      refine lv_iload_n hx hb dX5_produce_205 rfl (lv_at hl 5 rfl) ?_
                      refine lv_ishl hx hb dX5_produce_206 ?_
                      refine lv_topi (fun v1202 ev1202 => ?_)
                      refine lv_ior hx hb dX5_produce_207 ?_
                      refine lv_topi (fun v1203 ev1203 => ?_)
                      obtain ⟨j1204, hj1204⟩ := pG_3 (cy := cy) (N := N) (T := T) (I := I1189) (Q := Q1189) (J := J1189) (hC.kp hj1106).1 (hC.kp hj1106).2
                      have hDo := hD
                      refine va_put (D := (dC, dI)) (ci := 3) (v := .int v1203) (ty := .int) (C := RX3) (T := TX3) (N := 6) hx hb hts hi3 tyX3 tyX3_ok nmX3 hown hK hP hD hS j1204 hj1204 rfl 5 (by decide) (hts (.fieldLink RX5 126 "TallyLogs$Producer" "left" "I") (by decide +kernel)) (fun _ h9 => h9) rfl (by decide +kernel) rfl rfl (Nat.le_of_ble_eq_true rfl) dX5_produce_208 (fun H locs hP hD hS => ?_)
                      have hP := Eq.mp (congrArg (fun w => va_P (dC, dI) vwCl w H) (pP_3_5 (x := v1203) hDo (hC.kp hj1106).1 (hC.kp hj1106).2 hj1204)) hP
                      obtain ⟨I1205, eI1205⟩ : ∃ z, z = p2 I1189 (v (4 + j1106)) 5 v1203 := ⟨_, rfl⟩
                      rw [← eI1205] at hP
                      have hR : RS v I Q J I1205 Q1189 J1189 := by rw [eI1205]; exact hR.pi hC (by rw [(hC.kp hj1106).2]; decide)
                      have hC : CT v L K N T I1205 Q1189 := by rw [eI1205]; exact hC.pi (by rw [(hC.kp hj1106).2]; decide)
                      have hD : va_D A (va_pl L (pF cy K N T I1205 Q1189 J1189)) := pD hDo
                      refine lv_aload hx hb dX5_produce_211 (lv_at hl 3 rfl) ?_
                      obtain ⟨j1206, hj1206⟩ := pG_2 (cy := cy) (N := N) (T := T) (I := I1205) (Q := Q1189) (J := J1189) hLz1186 hkz1186
                      have hFc := pfree hD hS hA
                      refine va_callv (va_runV (As := []) (rest := []) ⟨hx, hb, hml, hown, hts⟩ (c_X2_raiseHw l dC dI cy v L K N T I1205 Q1189 J1189 H.size b1100  hC hLz1186 hkz1186) (cwV 0 hts gX5_produce_X2_raiseHw rfl rfl rfl (by decide +kernel) ⟨Nat.le_of_ble_eq_true rfl, Nat.le_of_ble_eq_true rfl⟩) ⟨pw_blind, va_recv hK hP (ci := 2) (q0 := j1206) rfl hj1206, fun U hU hW => ⟨rfl, pw_pre hP hK hN hD hU hW⟩⟩ rfl rfl hl.1 rfl (lv_room (Nat.le_of_ble_eq_true rfl)) dX5_produce_213 ⟨Nat.le_of_ble_eq_true rfl, Nat.le_of_ble_eq_true rfl⟩) hS (fun q _ h => hFc q h) hFc (fun d9 t H1 locs ht hvm hw hB hz1 hk1 hS => ?_)
                      obtain ⟨I1207, Q1207, J1207⟩ := d9
                      obtain ⟨hC, hR1⟩ := hw
                      obtain ⟨hP, hK1, hD1⟩ := hB
                      rw [ht] at hP
                      have hD := hD1.weaken (fun _ _ _ h => hFc _ h)
                      have hR := hR.trans hR1
                      generalize H1 = H at hP hS ⊢
                      have hP : va_P (dC, dI) vwCl (va_pl L (pF cy K N T I1207 Q1207 J1207)) H := hP
                      have hD : va_D A (va_pl L (pF cy K N T I1207 Q1207 J1207)) := hD
                      have hC : CT v L K N T I1207 Q1207 := hC
                      have hR : RS v I Q J I1207 Q1207 J1207 := hR
                      refine lv_aload hx hb dX5_produce_216 (lv_at hl 1 rfl) ?_
                      obtain ⟨j1209, hj1209⟩ := pG_4 (cy := cy) (N := N) (T := T) (I := I1207) (Q := Q1207) (J := J1207) hLz1187 hkz1187
                      refine va_get (D := (dC, dI)) (ci := 4) (v := .int (I1207 b1156 2)) (C := RX4) (T := TX4) (N := 7) hx hb hts hi4 hown hK hP j1209 hj1209 rfl 2 (by decide) (hts (.fieldLink RX5 132 "TallyLogs$Replica" "end" "I") (by decide +kernel)) (fun _ h9 => h9) rfl dX5_produce_218 ?_
                      refine lv_topi (fun x1210 ex1210 => ?_)
                      refine lv_iconst (v := 1) hx hb dX5_produce_221 (by decide) ?_
                      refine lv_isub hx hb dX5_produce_222 ?_
                      refine lv_topi (fun v1211 ev1211 => ?_)
                      refine W.widen (k := 1) (n := 8) (by omega) (by omega) ?_
                      exact W.iret (v := v1211) hx hb hr (fun t ht hW => ⟨⟨v1211, (L, K, T, I1207, Q1207, J1207), rfl, ⟨⟨hC, hR, hX⟩, trivial⟩, by rw [ht]; exact hP, va_K.moved hW.alike hK, hD⟩, hS.F ht⟩) hS.2.2 dX5_produce_223
                  · refine lv_bipush (v := (-3)) hx hb dX5_produce_161 (by decide) ?_
                    refine W.widen (k := 1) (n := 8) (by omega) (by omega) ?_
                    exact W.iret (v := (-3)) hx hb hr (fun t ht hW => ⟨⟨(-3), (L, K, T, I, Q, J), rfl, ⟨⟨hC, hR, hX⟩, trivial⟩, by rw [ht]; exact hP, va_K.moved hW.alike hK, hD⟩, hS.F ht⟩) hS.2.2 dX5_produce_163
                · refine lv_bipush (v := (-6)) hx hb dX5_produce_150 (by decide) ?_
                  refine W.widen (k := 1) (n := 8) (by omega) (by omega) ?_
                  exact W.iret (v := (-6)) hx hb hr (fun t ht hW => ⟨⟨(-6), (L, K, T, I, Q, J), rfl, ⟨⟨hC, hR, hX⟩, trivial⟩, by rw [ht]; exact hP, va_K.moved hW.alike hK, hD⟩, hS.F ht⟩) hS.2.2 dX5_produce_152
              · refine lv_iload hx hb dX5_produce_128 (lv_at hl 0 rfl) ?_
                refine W.widen (k := 1) (n := 8) (by omega) (by omega) ?_
                exact W.iret (v := r1169) hx hb hr (fun t ht hW => ⟨⟨r1169, (L, K, T, I, Q, J), rfl, ⟨⟨hC, hR, hX⟩, trivial⟩, by rw [ht]; exact hP, va_K.moved hW.alike hK, hD⟩, hS.F ht⟩) hS.2.2 dX5_produce_130
            · refine lv_aload hx hb dX5_produce_80 (lv_at hl 2 rfl) ?_
              obtain ⟨j1212, hj1212⟩ := pG_2 (cy := cy) (N := N) (T := T) (I := I) (Q := Q) (J := J) hTb1100.1 hTb1100.2
              refine va_get (D := (dC, dI)) (ci := 2) (v := .int (I b1100 5)) (C := RX2) (T := TX2) (N := 6) hx hb hts hi2 hown hK hP j1212 hj1212 rfl 5 (by decide) (hts (.fieldLink RX5 58 "TallyLogs$Partition" "inStep" "I") (by decide +kernel)) (fun _ h9 => h9) rfl dX5_produce_82 ?_
              refine lv_topi (fun x1213 ex1213 => ?_)
              refine vp_callSi (W.runS (As := [.int x1213]) (rest := []) ⟨hx, hb, hml, hown, hts⟩ (c_J6_bitCount_0f7a4 l x1213) (va_cwS 1 hts gX5_produce_J6_bitCount_0f7a4 rfl rfl rfl (by decide +kernel) ⟨Nat.le_of_ble_eq_true rfl, Nat.le_of_ble_eq_true rfl⟩) preEq rfl rfl hl.1 rfl (lv_room (Nat.le_of_ble_eq_true rfl)) dX5_produce_85 ⟨Nat.le_of_ble_eq_true rfl, Nat.le_of_ble_eq_true rfl⟩) (fun r1214 hr1214 => ?_)
              refine lv_aload hx hb dX5_produce_88 (lv_at hl 2 rfl) ?_
              obtain ⟨j1215, hj1215⟩ := pG_2 (cy := cy) (N := N) (T := T) (I := I) (Q := Q) (J := J) hTb1100.1 hTb1100.2
              refine va_get (D := (dC, dI)) (ci := 2) (v := .int (I b1100 1)) (C := RX2) (T := TX2) (N := 6) hx hb hts hi2 hown hK hP j1215 hj1215 rfl 1 (by decide) (hts (.fieldLink RX5 95 "TallyLogs$Partition" "min" "I") (by decide +kernel)) (fun _ h9 => h9) rfl dX5_produce_90 ?_
              refine lv_topi (fun x1216 ex1216 => ?_)
              refine lv_icmp_ge (tgt := 99) hx hb dX5_produce_93 (by decide) (fun c1217 => ?_) (fun c1217 => ?_)
              · refine lv_aload hx hb dX5_produce_99 (lv_at hl 1 rfl) ?_
                refine lv_ifnull hx hb dX5_produce_101 ?_
                refine lv_aload hx hb dX5_produce_104 (lv_at hl 0 rfl) ?_
                refine lv_aload hx hb dX5_produce_106 (lv_at hl 1 rfl) ?_
                obtain ⟨j1218, hj1218⟩ := pG_3 (cy := cy) (N := N) (T := T) (I := I) (Q := Q) (J := J) (hC.kp hj1106).1 (hC.kp hj1106).2
                refine va_get (D := (dC, dI)) (ci := 3) (v := .int (I (v (4 + j1106)) 0)) (C := RX3) (T := TX3) (N := 6) hx hb hts hi3 hown hK hP j1218 hj1218 rfl 0 (by decide) (hts (.fieldLink RX5 98 "TallyLogs$Producer" "number" "I") (by decide +kernel)) (fun _ h9 => h9) rfl dX5_produce_108 ?_
                refine lv_topi (fun x1219 ex1219 => ?_)
                refine lv_aload hx hb dX5_produce_111 (lv_at hl 1 rfl) ?_
                obtain ⟨j1220, hj1220⟩ := pG_3 (cy := cy) (N := N) (T := T) (I := I) (Q := Q) (J := J) (hC.kp hj1106).1 (hC.kp hj1106).2
                refine va_get (D := (dC, dI)) (ci := 3) (v := .int (I (v (4 + j1106)) 1)) (C := RX3) (T := TX3) (N := 6) hx hb hts hi3 hown hK hP j1220 hj1220 rfl 1 (by decide) (hts (.fieldLink RX5 75 "TallyLogs$Producer" "generation" "I") (by decide +kernel)) (fun _ h9 => h9) rfl dX5_produce_113 ?_
                refine lv_topi (fun x1221 ex1221 => ?_)
                refine lv_iload_n hx hb dX5_produce_116 rfl (lv_at hl 6 rfl) ?_
                obtain ⟨j1223, hj1223⟩ := pG_4 (cy := cy) (N := N) (T := T) (I := I) (Q := Q) (J := J) hTb1156.1 hTb1156.2
                refine vp_callSi (W.runV (As := [.int x1219, .int x1221, .int sq]) (rest := []) ⟨hx, hb, hml, hown, hts⟩ (c_X4_offsetOf l dC dI cy v L K N T I Q J b1156 x1219 x1221 sq hC hTb1156.1 hTb1156.2) (cwV 3 hts gX5_produce_X4_offsetOf rfl rfl rfl (by decide +kernel) ⟨Nat.le_of_ble_eq_true rfl, Nat.le_of_ble_eq_true rfl⟩) ⟨pb_blind, va_recv hK hP (ci := 4) (q0 := j1223) rfl hj1223, fun U hU hW => ⟨rfl, pb_pre hP hK hN hU hW⟩⟩ rfl rfl hl.1 rfl (lv_room (Nat.le_of_ble_eq_true rfl)) dX5_produce_117 ⟨Nat.le_of_ble_eq_true rfl, Nat.le_of_ble_eq_true rfl⟩) (fun r1222 hr1222 => ?_)
                refine lv_istore (lv' := [(10, .int r1222), (9, .ref b1156), (8, .ref (v (4 + j1106))), (7, .ref b1100), (0, .ref (v 0)), (1, .int xp), (2, .int hd), (3, .int sq), (4, .int ke), (5, .int va), (6, .int al)]) hx hb dX5_produce_120 hl (by decide) rfl (fun ls hl => ?_)
                refine lv_iload hx hb dX5_produce_122 (lv_at hl 0 rfl) ?_
                refine lv_iconst (v := (-1)) hx hb dX5_produce_124 (by decide) ?_
                refine lv_icmp_eq (tgt := 131) hx hb dX5_produce_125 (by decide) (fun c1224 => ?_) (fun c1224 => ?_)
                · refine lv_iload_n hx hb dX5_produce_131 rfl (lv_at hl 7 rfl) ?_
                  refine lv_aload hx hb dX5_produce_132 (lv_at hl 1 rfl) ?_
                  refine lv_aload hx hb dX5_produce_134 (lv_at hl 2 rfl) ?_
                  obtain ⟨j1225, hj1225⟩ := pG_3 (cy := cy) (N := N) (T := T) (I := I) (Q := Q) (J := J) (hC.kp hj1106).1 (hC.kp hj1106).2
                  refine va_get (D := (dC, dI)) (ci := 3) (v := .int (I (v (4 + j1106)) 0)) (C := RX3) (T := TX3) (N := 6) hx hb hts hi3 hown hK hP j1225 hj1225 rfl 0 (by decide) (hts (.fieldLink RX5 98 "TallyLogs$Producer" "number" "I") (by decide +kernel)) (fun _ h9 => h9) rfl dX5_produce_136 ?_
                  refine lv_topi (fun x1226 ex1226 => ?_)
                  refine lv_aload hx hb dX5_produce_139 (lv_at hl 2 rfl) ?_
                  obtain ⟨j1227, hj1227⟩ := pG_3 (cy := cy) (N := N) (T := T) (I := I) (Q := Q) (J := J) (hC.kp hj1106).1 (hC.kp hj1106).2
                  refine va_get (D := (dC, dI)) (ci := 3) (v := .int (I (v (4 + j1106)) 1)) (C := RX3) (T := TX3) (N := 6) hx hb hts hi3 hown hK hP j1227 hj1227 rfl 1 (by decide) (hts (.fieldLink RX5 75 "TallyLogs$Producer" "generation" "I") (by decide +kernel)) (fun _ h9 => h9) rfl dX5_produce_141 ?_
                  refine lv_topi (fun x1228 ex1228 => ?_)
                  obtain ⟨j1230, hj1230⟩ := pG_4 (cy := cy) (N := N) (T := T) (I := I) (Q := Q) (J := J) hTb1156.1 hTb1156.2
                  refine vp_callSi (W.runV (As := [.int x1226, .int x1228]) (rest := [.int sq]) ⟨hx, hb, hml, hown, hts⟩ (c_X4_nextSeq l dC dI cy v L K N T I Q J b1156 x1226 x1228 hC hTb1156.1 hTb1156.2) (cwV 2 hts gX5_produce_X4_nextSeq rfl rfl rfl (by decide +kernel) ⟨Nat.le_of_ble_eq_true rfl, Nat.le_of_ble_eq_true rfl⟩) ⟨pb_blind, va_recv hK hP (ci := 4) (q0 := j1230) rfl hj1230, fun U hU hW => ⟨rfl, pb_pre hP hK hN hU hW⟩⟩ rfl rfl hl.1 rfl (lv_room (Nat.le_of_ble_eq_true rfl)) dX5_produce_144 ⟨Nat.le_of_ble_eq_true rfl, Nat.le_of_ble_eq_true rfl⟩) (fun r1229 hr1229 => ?_)
                  refine lv_icmp_eq (tgt := 153) hx hb dX5_produce_147 (by decide) (fun c1231 => ?_) (fun c1231 => ?_)
                  · refine lv_aload hx hb dX5_produce_153 (lv_at hl 1 rfl) ?_
                    obtain ⟨j1233, hj1233⟩ := pG_4 (cy := cy) (N := N) (T := T) (I := I) (Q := Q) (J := J) hTb1156.1 hTb1156.2
                    refine vp_callSi (W.runV (As := []) (rest := []) ⟨hx, hb, hml, hown, hts⟩ (c_X4_isFull l dC dI cy v L K N T I Q J b1156  hC hTb1156.1 hTb1156.2) (cwV 0 hts gX5_produce_X4_isFull rfl rfl rfl (by decide +kernel) ⟨Nat.le_of_ble_eq_true rfl, Nat.le_of_ble_eq_true rfl⟩) ⟨pb_blind, va_recv hK hP (ci := 4) (q0 := j1233) rfl hj1233, fun U hU hW => ⟨rfl, pb_pre hP hK hN hU hW⟩⟩ rfl rfl hl.1 rfl (lv_room (Nat.le_of_ble_eq_true rfl)) dX5_produce_155 ⟨Nat.le_of_ble_eq_true rfl, Nat.le_of_ble_eq_true rfl⟩) (fun r1232 hr1232 => ?_)
                    refine lv_if_eq (tgt := 164) hx hb dX5_produce_158 (by decide) (fun c1234 => ?_) (fun c1234 => ?_)
                    · refine lv_aload hx hb dX5_produce_164 (lv_at hl 1 rfl) ?_
                      refine lv_aload hx hb dX5_produce_166 (lv_at hl 3 rfl) ?_
                      obtain ⟨j1235, hj1235⟩ := pG_2 (cy := cy) (N := N) (T := T) (I := I) (Q := Q) (J := J) hTb1100.1 hTb1100.2
                      refine va_get (D := (dC, dI)) (ci := 2) (v := .int (I b1100 4)) (C := RX2) (T := TX2) (N := 6) hx hb hts hi2 hown hK hP j1235 hj1235 rfl 4 (by decide) (hts (.fieldLink RX5 115 "TallyLogs$Partition" "epoch" "I") (by decide +kernel)) (fun _ h9 => h9) rfl dX5_produce_168 ?_
                      refine lv_topi (fun x1236 ex1236 => ?_)
                      refine lv_aload hx hb dX5_produce_171 (lv_at hl 2 rfl) ?_
                      refine lv_iload_n hx hb dX5_produce_173 rfl (lv_at hl 7 rfl) ?_
                      refine lv_iload hx hb dX5_produce_174 (lv_at hl 8 rfl) ?_
                      refine lv_iload hx hb dX5_produce_176 (lv_at hl 9 rfl) ?_
                      have hFc := pfree hD hS hA
                      refine va_callr (va_runS (As := [.int x1236, .ref (v (4 + j1106)), .int sq, .int ke, .int va]) (rest := [.ref b1156]) ⟨hx, hb, hml, hown, hts⟩ (c_X5_newData l dC dI cy v L K N T I Q J s.heap.size x1236 (v (4 + j1106)) sq ke va hC (hC.kp hj1106).1 (hC.kp hj1106).2) (va_cwS 5 hts gX5_produce_X5_newData rfl rfl rfl (by decide +kernel) ⟨Nat.le_of_ble_eq_true rfl, Nat.le_of_ble_eq_true rfl⟩) ⟨pw_blind, fun U hU hW => ⟨rfl, pw_pre hP hK hN hD hU hW⟩⟩ rfl rfl hl.1 rfl (lv_room (Nat.le_of_ble_eq_true rfl)) dX5_produce_178 ⟨Nat.le_of_ble_eq_true rfl, Nat.le_of_ble_eq_true rfl⟩) hS (fun q _ h => hFc q h) hFc (fun d9 r1238 t H1 locs ht hvm hw hB hz1 hk1 hS => ?_)
                      obtain ⟨L, K, T, I1237, Q1237, J1237⟩ := d9
                      obtain ⟨hC, hR1, hXe⟩ := hw
                      obtain ⟨⟨hLr1238, hkr1238⟩, hB⟩ := hB
                      obtain ⟨hP, hK1, hD1⟩ := hB
                      rw [ht] at hP
                      have hD := hD1.weaken (fun _ _ _ h => hFc _ h)
                      have hR := hR.trans hR1
                      generalize H1 = H at hP hS ⊢
                      have hP : va_P (dC, dI) vwCl (va_pl L (pF cy K N T I1237 Q1237 J1237)) H := hP
                      have hD : va_D A (va_pl L (pF cy K N T I1237 Q1237 J1237)) := hD
                      have hC : CT v L K N T I1237 Q1237 := hC
                      have hR : RS v I Q J I1237 Q1237 J1237 := hR
                      have hX := hX.trans hXe
                      have hLz1239 : b1100 ∈ L := (hXe _ hTb1100.1).1
                      have hkz1239 : K b1100 = 2 := (hXe _ hTb1100.1).2.1.trans hTb1100.2
                      have hLz1240 : b1156 ∈ L := (hXe _ hTb1156.1).1
                      have hkz1240 : K b1156 = 4 := (hXe _ hTb1156.1).2.1.trans hTb1156.2
                      refine W.widen (k := 1) (n := 8) (by omega) (by omega) ?_
                      obtain ⟨j1241, hj1241⟩ := pG_4 (cy := cy) (N := N) (T := T) (I := I1237) (Q := Q1237) (J := J1237) hLz1240 hkz1240
                      have hFc := pfree hD hS hA
                      refine va_callv (va_runV (As := [.ref r1238]) (rest := []) ⟨hx, hb, hml, hown, hts⟩ (c_X4_append l dC dI cy v L K N T I1237 Q1237 J1237 H.size b1156 r1238 hC hLz1240 hkz1240 hLr1238 hkr1238) (cwV 1 hts gX5_produce_X4_append rfl rfl rfl (by decide +kernel) ⟨Nat.le_of_ble_eq_true rfl, Nat.le_of_ble_eq_true rfl⟩) ⟨pw_blind, va_recv hK hP (ci := 4) (q0 := j1241) rfl hj1241, fun U hU hW => ⟨rfl, pw_pre hP hK hN hD hU hW⟩⟩ rfl rfl hl.1 rfl (lv_room (Nat.le_of_ble_eq_true rfl)) dX5_produce_181 ⟨Nat.le_of_ble_eq_true rfl, Nat.le_of_ble_eq_true rfl⟩) hS (fun q _ h => hFc q h) hFc (fun d9 t H1 locs ht hvm hw hB hz1 hk1 hS => ?_)
                      obtain ⟨I1242, Q1242, J1242⟩ := d9
                      obtain ⟨hC, hR1⟩ := hw
                      obtain ⟨hP, hK1, hD1⟩ := hB
                      rw [ht] at hP
                      have hD := hD1.weaken (fun _ _ _ h => hFc _ h)
                      have hR := hR.trans hR1
                      generalize H1 = H at hP hS ⊢
                      have hP : va_P (dC, dI) vwCl (va_pl L (pF cy K N T I1242 Q1242 J1242)) H := hP
                      have hD : va_D A (va_pl L (pF cy K N T I1242 Q1242 J1242)) := hD
                      have hC : CT v L K N T I1242 Q1242 := hC
                      have hR : RS v I Q J I1242 Q1242 J1242 := hR
                      refine lv_aload hx hb dX5_produce_184 (lv_at hl 2 rfl) ?_
                      refine lv_ifnull hx hb dX5_produce_186 ?_
                      refine lv_aload hx hb dX5_produce_189 (lv_at hl 2 rfl) ?_
                      obtain ⟨j1244, hj1244⟩ := pG_3 (cy := cy) (N := N) (T := T) (I := I1242) (Q := Q1242) (J := J1242) (hC.kp hj1106).1 (hC.kp hj1106).2
                      refine va_get (D := (dC, dI)) (ci := 3) (v := .int (I1242 (v (4 + j1106)) 2)) (C := RX3) (T := TX3) (N := 6) hx hb hts hi3 hown hK hP j1244 hj1244 rfl 2 (by decide) (hts (.fieldLink RX5 78 "TallyLogs$Producer" "mode" "I") (by decide +kernel)) (fun _ h9 => h9) rfl dX5_produce_191 ?_
                      refine lv_topi (fun x1245 ex1245 => ?_)
                      refine lv_iconst (v := 1) hx hb dX5_produce_194 (by decide) ?_
                      refine lv_icmp_ne (tgt := 211) hx hb dX5_produce_195 (by decide) (fun c1246 => ?_) (fun c1246 => ?_)
                      · refine lv_aload hx hb dX5_produce_211 (lv_at hl 3 rfl) ?_
                        obtain ⟨j1247, hj1247⟩ := pG_2 (cy := cy) (N := N) (T := T) (I := I1242) (Q := Q1242) (J := J1242) hLz1239 hkz1239
                        have hFc := pfree hD hS hA
                        refine va_callv (va_runV (As := []) (rest := []) ⟨hx, hb, hml, hown, hts⟩ (c_X2_raiseHw l dC dI cy v L K N T I1242 Q1242 J1242 H.size b1100  hC hLz1239 hkz1239) (cwV 0 hts gX5_produce_X2_raiseHw rfl rfl rfl (by decide +kernel) ⟨Nat.le_of_ble_eq_true rfl, Nat.le_of_ble_eq_true rfl⟩) ⟨pw_blind, va_recv hK hP (ci := 2) (q0 := j1247) rfl hj1247, fun U hU hW => ⟨rfl, pw_pre hP hK hN hD hU hW⟩⟩ rfl rfl hl.1 rfl (lv_room (Nat.le_of_ble_eq_true rfl)) dX5_produce_213 ⟨Nat.le_of_ble_eq_true rfl, Nat.le_of_ble_eq_true rfl⟩) hS (fun q _ h => hFc q h) hFc (fun d9 t H1 locs ht hvm hw hB hz1 hk1 hS => ?_)
                        obtain ⟨I1248, Q1248, J1248⟩ := d9
                        obtain ⟨hC, hR1⟩ := hw
                        obtain ⟨hP, hK1, hD1⟩ := hB
                        rw [ht] at hP
                        have hD := hD1.weaken (fun _ _ _ h => hFc _ h)
                        have hR := hR.trans hR1
                        generalize H1 = H at hP hS ⊢
                        have hP : va_P (dC, dI) vwCl (va_pl L (pF cy K N T I1248 Q1248 J1248)) H := hP
                        have hD : va_D A (va_pl L (pF cy K N T I1248 Q1248 J1248)) := hD
                        have hC : CT v L K N T I1248 Q1248 := hC
                        have hR : RS v I Q J I1248 Q1248 J1248 := hR
                        refine lv_aload hx hb dX5_produce_216 (lv_at hl 1 rfl) ?_
                        obtain ⟨j1250, hj1250⟩ := pG_4 (cy := cy) (N := N) (T := T) (I := I1248) (Q := Q1248) (J := J1248) hLz1240 hkz1240
                        refine va_get (D := (dC, dI)) (ci := 4) (v := .int (I1248 b1156 2)) (C := RX4) (T := TX4) (N := 7) hx hb hts hi4 hown hK hP j1250 hj1250 rfl 2 (by decide) (hts (.fieldLink RX5 132 "TallyLogs$Replica" "end" "I") (by decide +kernel)) (fun _ h9 => h9) rfl dX5_produce_218 ?_
                        refine lv_topi (fun x1251 ex1251 => ?_)
                        refine lv_iconst (v := 1) hx hb dX5_produce_221 (by decide) ?_
                        refine lv_isub hx hb dX5_produce_222 ?_
                        refine lv_topi (fun v1252 ev1252 => ?_)
                        refine W.widen (k := 1) (n := 8) (by omega) (by omega) ?_
                        exact W.iret (v := v1252) hx hb hr (fun t ht hW => ⟨⟨v1252, (L, K, T, I1248, Q1248, J1248), rfl, ⟨⟨hC, hR, hX⟩, trivial⟩, by rw [ht]; exact hP, va_K.moved hW.alike hK, hD⟩, hS.F ht⟩) hS.2.2 dX5_produce_223
                      · refine lv_aload hx hb dX5_produce_198 (lv_at hl 2 rfl) ?_
                        refine lv_dup hx hb dX5_produce_200 rfl ?_
                        obtain ⟨j1253, hj1253⟩ := pG_3 (cy := cy) (N := N) (T := T) (I := I1242) (Q := Q1242) (J := J1242) (hC.kp hj1106).1 (hC.kp hj1106).2
                        refine va_get (D := (dC, dI)) (ci := 3) (v := .int (I1242 (v (4 + j1106)) 5)) (C := RX3) (T := TX3) (N := 6) hx hb hts hi3 hown hK hP j1253 hj1253 rfl 5 (by decide) (hts (.fieldLink RX5 126 "TallyLogs$Producer" "left" "I") (by decide +kernel)) (fun _ h9 => h9) rfl dX5_produce_201 ?_
                        refine lv_topi (fun x1254 ex1254 => ?_)
                        refine lv_iconst (v := 1) hx hb dX5_produce_204 (by decide) ?_
                        refine lv_iload_n hx hb dX5_produce_205 rfl (lv_at hl 5 rfl) ?_
                        refine lv_ishl hx hb dX5_produce_206 ?_
                        refine lv_topi (fun v1255 ev1255 => ?_)
                        refine lv_ior hx hb dX5_produce_207 ?_
                        refine lv_topi (fun v1256 ev1256 => ?_)
                        obtain ⟨j1257, hj1257⟩ := pG_3 (cy := cy) (N := N) (T := T) (I := I1242) (Q := Q1242) (J := J1242) (hC.kp hj1106).1 (hC.kp hj1106).2
                        have hDo := hD
                        refine va_put (D := (dC, dI)) (ci := 3) (v := .int v1256) (ty := .int) (C := RX3) (T := TX3) (N := 6) hx hb hts hi3 tyX3 tyX3_ok nmX3 hown hK hP hD hS j1257 hj1257 rfl 5 (by decide) (hts (.fieldLink RX5 126 "TallyLogs$Producer" "left" "I") (by decide +kernel)) (fun _ h9 => h9) rfl (by decide +kernel) rfl rfl (Nat.le_of_ble_eq_true rfl) dX5_produce_208 (fun H locs hP hD hS => ?_)
                        have hP := Eq.mp (congrArg (fun w => va_P (dC, dI) vwCl w H) (pP_3_5 (x := v1256) hDo (hC.kp hj1106).1 (hC.kp hj1106).2 hj1257)) hP
                        obtain ⟨I1258, eI1258⟩ : ∃ z, z = p2 I1242 (v (4 + j1106)) 5 v1256 := ⟨_, rfl⟩
                        rw [← eI1258] at hP
                        have hR : RS v I Q J I1258 Q1242 J1242 := by rw [eI1258]; exact hR.pi hC (by rw [(hC.kp hj1106).2]; decide)
                        have hC : CT v L K N T I1258 Q1242 := by rw [eI1258]; exact hC.pi (by rw [(hC.kp hj1106).2]; decide)
                        have hD : va_D A (va_pl L (pF cy K N T I1258 Q1242 J1242)) := pD hDo
                        refine lv_aload hx hb dX5_produce_211 (lv_at hl 3 rfl) ?_
                        obtain ⟨j1259, hj1259⟩ := pG_2 (cy := cy) (N := N) (T := T) (I := I1258) (Q := Q1242) (J := J1242) hLz1239 hkz1239
                        have hFc := pfree hD hS hA
                        refine va_callv (va_runV (As := []) (rest := []) ⟨hx, hb, hml, hown, hts⟩ (c_X2_raiseHw l dC dI cy v L K N T I1258 Q1242 J1242 H.size b1100  hC hLz1239 hkz1239) (cwV 0 hts gX5_produce_X2_raiseHw rfl rfl rfl (by decide +kernel) ⟨Nat.le_of_ble_eq_true rfl, Nat.le_of_ble_eq_true rfl⟩) ⟨pw_blind, va_recv hK hP (ci := 2) (q0 := j1259) rfl hj1259, fun U hU hW => ⟨rfl, pw_pre hP hK hN hD hU hW⟩⟩ rfl rfl hl.1 rfl (lv_room (Nat.le_of_ble_eq_true rfl)) dX5_produce_213 ⟨Nat.le_of_ble_eq_true rfl, Nat.le_of_ble_eq_true rfl⟩) hS (fun q _ h => hFc q h) hFc (fun d9 t H1 locs ht hvm hw hB hz1 hk1 hS => ?_)
                        obtain ⟨I1260, Q1260, J1260⟩ := d9
                        obtain ⟨hC, hR1⟩ := hw
                        obtain ⟨hP, hK1, hD1⟩ := hB
                        rw [ht] at hP
                        have hD := hD1.weaken (fun _ _ _ h => hFc _ h)
                        have hR := hR.trans hR1
                        generalize H1 = H at hP hS ⊢
                        have hP : va_P (dC, dI) vwCl (va_pl L (pF cy K N T I1260 Q1260 J1260)) H := hP
                        have hD : va_D A (va_pl L (pF cy K N T I1260 Q1260 J1260)) := hD
                        have hC : CT v L K N T I1260 Q1260 := hC
                        have hR : RS v I Q J I1260 Q1260 J1260 := hR
                        refine lv_aload hx hb dX5_produce_216 (lv_at hl 1 rfl) ?_
                        obtain ⟨j1262, hj1262⟩ := pG_4 (cy := cy) (N := N) (T := T) (I := I1260) (Q := Q1260) (J := J1260) hLz1240 hkz1240
                        refine va_get (D := (dC, dI)) (ci := 4) (v := .int (I1260 b1156 2)) (C := RX4) (T := TX4) (N := 7) hx hb hts hi4 hown hK hP j1262 hj1262 rfl 2 (by decide) (hts (.fieldLink RX5 132 "TallyLogs$Replica" "end" "I") (by decide +kernel)) (fun _ h9 => h9) rfl dX5_produce_218 ?_
                        refine lv_topi (fun x1263 ex1263 => ?_)
                        refine lv_iconst (v := 1) hx hb dX5_produce_221 (by decide) ?_
                        refine lv_isub hx hb dX5_produce_222 ?_
                        refine lv_topi (fun v1264 ev1264 => ?_)
                        refine W.widen (k := 1) (n := 8) (by omega) (by omega) ?_
                        exact W.iret (v := v1264) hx hb hr (fun t ht hW => ⟨⟨v1264, (L, K, T, I1260, Q1260, J1260), rfl, ⟨⟨hC, hR, hX⟩, trivial⟩, by rw [ht]; exact hP, va_K.moved hW.alike hK, hD⟩, hS.F ht⟩) hS.2.2 dX5_produce_223
                    · refine lv_bipush (v := (-3)) hx hb dX5_produce_161 (by decide) ?_
                      refine W.widen (k := 1) (n := 8) (by omega) (by omega) ?_
                      exact W.iret (v := (-3)) hx hb hr (fun t ht hW => ⟨⟨(-3), (L, K, T, I, Q, J), rfl, ⟨⟨hC, hR, hX⟩, trivial⟩, by rw [ht]; exact hP, va_K.moved hW.alike hK, hD⟩, hS.F ht⟩) hS.2.2 dX5_produce_163
                  · refine lv_bipush (v := (-6)) hx hb dX5_produce_150 (by decide) ?_
                    refine W.widen (k := 1) (n := 8) (by omega) (by omega) ?_
                    exact W.iret (v := (-6)) hx hb hr (fun t ht hW => ⟨⟨(-6), (L, K, T, I, Q, J), rfl, ⟨⟨hC, hR, hX⟩, trivial⟩, by rw [ht]; exact hP, va_K.moved hW.alike hK, hD⟩, hS.F ht⟩) hS.2.2 dX5_produce_152
                · refine lv_iload hx hb dX5_produce_128 (lv_at hl 0 rfl) ?_
                  refine W.widen (k := 1) (n := 8) (by omega) (by omega) ?_
                  exact W.iret (v := r1222) hx hb hr (fun t ht hW => ⟨⟨r1222, (L, K, T, I, Q, J), rfl, ⟨⟨hC, hR, hX⟩, trivial⟩, by rw [ht]; exact hP, va_K.moved hW.alike hK, hD⟩, hS.F ht⟩) hS.2.2 dX5_produce_130
              · refine lv_bipush (v := (-5)) hx hb dX5_produce_96 (by decide) ?_
                refine W.widen (k := 1) (n := 8) (by omega) (by omega) ?_
                exact W.iret (v := (-5)) hx hb hr (fun t ht hW => ⟨⟨(-5), (L, K, T, I, Q, J), rfl, ⟨⟨hC, hR, hX⟩, trivial⟩, by rw [ht]; exact hP, va_K.moved hW.alike hK, hD⟩, hS.F ht⟩) hS.2.2 dX5_produce_98
          · refine lv_bipush (v := (-4)) hx hb dX5_produce_72 (by decide) ?_
            refine W.widen (k := 1) (n := 8) (by omega) (by omega) ?_
            exact W.iret (v := (-4)) hx hb hr (fun t ht hW => ⟨⟨(-4), (L, K, T, I, Q, J), rfl, ⟨⟨hC, hR, hX⟩, trivial⟩, by rw [ht]; exact hP, va_K.moved hW.alike hK, hD⟩, hS.F ht⟩) hS.2.2 dX5_produce_74
set_option maxHeartbeats 4000000 in
set_option maxRecDepth 100000 in
/-- settle -/
theorem c_X5_settle (l : Launch) (dC : Nat → ClassId) (dI : Nat → Nat → Nat) (cy : Nat → ClassId) (v : Nat → Nat) (L : List Nat) (K N : Nat → Nat) (T : Nat → Nat → Nat) (I : Nat → Nat → Int32) (Q : Nat → Nat → Option Nat) (J : Nat → Nat → Int32) (sz : Nat) (xk : Int32) (hC : CT v L K N T I Q) : Met l yX5_settle wsX5_settle ({ frames := 4, cells := 4, slots := 32, locals := 88 }) (va_Pc [.ref (v 0), .int xk] (pW dC dI cy L (pF cy K N T I Q J) sz)) (va_Qi (fun (r : Int32) (d : List Nat × (Nat → Nat) × (Nat → Nat → Nat) × (Nat → Nat → Int32) × (Nat → Nat → Option Nat) × (Nat → Nat → Int32)) => (CT v d.1 d.2.1 N d.2.2.1 d.2.2.2.1 d.2.2.2.2.1 ∧ RS v I Q J d.2.2.2.1 d.2.2.2.2.1 d.2.2.2.2.2 ∧ PX L K N T d.1 d.2.1 N d.2.2.1) ∧ True) (fun (d : List Nat × (Nat → Nat) × (Nat → Nat → Nat) × (Nat → Nat → Int32) × (Nat → Nat → Option Nat) × (Nat → Nat → Int32)) t => va_P (dC, dI) vwCl (va_pl d.1 (pF cy d.2.1 N d.2.2.1 d.2.2.2.1 d.2.2.2.2.1 d.2.2.2.2.2)) t.heap ∧ va_K (dC, dI) vwCl (pTy cy) t ∧ va_D (va_A (va_pl L (pF cy K N T I Q J)) sz) (va_pl d.1 (pF cy d.2.1 N d.2.2.1 d.2.2.2.1 d.2.2.2.2.1 d.2.2.2.2.2))) (va_A (va_pl L (pF cy K N T I Q J)) sz)) 4 32 (va_A (va_pl L (pF cy K N T I Q J)) sz) := by
  refine Met.ofW (cc := cX5_settle) (maxL := 4) (ret := (some .int)) (by decide) rfl ?_
  intro p e s m args below meth c s₁ B hml hv
  obtain ⟨rfl, hsz, ⟨hP, hK, hN⟩, hD0⟩ := hv
  have hx := B.exec
  have hb := B.bytes
  have hr := B.returns
  have hts := atoms_spec (ws := wsX5_settle) B.pre
  have hown : s.vm.findClass RX5 = some m.cls := findClass_of_methodNamed B.named
  have hlocks := B.notSynchronized
  have hi5 : ∀ w ∈ wsX50, w ∈ wsX5_settle := by decide +kernel
  have hi3 : ∀ w ∈ wsX30, w ∈ wsX5_settle := by decide +kernel
  have hl := lv_entry ([.ref (v 0), .int xk]) (n := 4) (Nat.le_of_ble_eq_true rfl)
  rw [lg_entry_eq]
  generalize (lg_sl ([.ref (v 0), .int xk]) ++ List.replicate (4 - (lg_sl ([.ref (v 0), .int xk])).length) Slot.unset).toArray = ls at hl ⊢
  have hl : lv_has ls 4 [(0, .ref (v 0)), (1, .int xk)] := hl
  subst hsz
  have hD := hD0.self (sz := s.heap.size)
  generalize hAe : va_A (va_pl L (pF cy K N T I Q J)) s.heap.size = A at hD ⊢
  have hA : ∀ q : Nat, s.heap.size ≤ q → A q := fun q h => by rw [← hAe]; exact Or.inr h
  have hS : va_S A s.heap s.heap [] := va_S.rf
  have hR : RS v I Q J I Q J := RS.rf
  have hX : PX L K N T L K N T := PX.rf
  have hn28 := hN.1
  have hn30 := hN.2.1
  have hn37 := hN.2.2.1
  refine lv_aload_n hx hb dX5_settle_0 rfl (lv_at hl 0 rfl) ?_
  refine lv_iload_n hx hb dX5_settle_1 rfl (lv_at hl 1 rfl) ?_
  obtain ⟨j1266, hj1266⟩ := pG_5 (cy := cy) (N := N) (T := T) (I := I) (Q := Q) (J := J) (hC.at 0 (by decide)) (hC.k 0 (by decide) rfl)
  refine va_csq (W.runV (As := [.int xk]) (rest := []) ⟨hx, hb, hml, hown, hts⟩ (c_X5_producerAt l dC dI cy v L K N T I Q J  xk hC) (cwV 1 hts gX5_settle_X5_producerAt rfl rfl rfl (by decide +kernel) ⟨Nat.le_of_ble_eq_true rfl, Nat.le_of_ble_eq_true rfl⟩) ⟨pb_blind, va_recv hK hP (ci := 5) (q0 := j1266) rfl hj1266, fun U hU hW => ⟨rfl, pb_pre hP hK hN hU hW⟩⟩ rfl rfl hl.1 rfl (lv_room (Nat.le_of_ble_eq_true rfl)) dX5_settle_2 ⟨Nat.le_of_ble_eq_true rfl, Nat.le_of_ble_eq_true rfl⟩) (fun r1265 hr1265 => ?_)
  rcases hr1265 with ⟨hn1267, rfl⟩ | ⟨j1267, hj1267, hn1267, rfl⟩
  · refine W.eq (g2 := F0 m 5 ls [.null]) rfl ?_
    refine lv_astore_nN (lv' := [(2, .null), (0, .ref (v 0)), (1, .int xk)]) hx hb dX5_settle_5 rfl hl (by decide) rfl (fun ls hl => ?_)
    refine lv_aload_nN hx hb dX5_settle_6 rfl (lv_at hl 0 rfl) ?_
    refine lv_ifnonnullN hx hb dX5_settle_7 ?_
    refine lv_iconst (v := (-1)) hx hb dX5_settle_10 (by decide) ?_
    refine W.widen (k := 4) (n := 32) (by omega) (by omega) ?_
    exact W.iret (v := (-1)) hx hb hr (fun t ht hW => ⟨⟨(-1), (L, K, T, I, Q, J), rfl, ⟨⟨hC, hR, hX⟩, trivial⟩, by rw [ht]; exact hP, va_K.moved hW.alike hK, hD⟩, hS.F ht⟩) hS.2.2 dX5_settle_11
  · refine W.eq (g2 := F0 m 5 ls [.ref (v (4 + j1267))]) rfl ?_
    refine lv_astore_n (lv' := [(2, .ref (v (4 + j1267))), (0, .ref (v 0)), (1, .int xk)]) hx hb dX5_settle_5 rfl hl (by decide) rfl (fun ls hl => ?_)
    refine lv_aload_n hx hb dX5_settle_6 rfl (lv_at hl 0 rfl) ?_
    refine lv_ifnonnull (tgt := 12) hx hb dX5_settle_7 (by decide) ?_
    refine lv_aload_n hx hb dX5_settle_12 rfl (lv_at hl 0 rfl) ?_
    obtain ⟨j1268, hj1268⟩ := pG_3 (cy := cy) (N := N) (T := T) (I := I) (Q := Q) (J := J) (hC.kp hj1267).1 (hC.kp hj1267).2
    refine va_get (D := (dC, dI)) (ci := 3) (v := .int (I (v (4 + j1267)) 2)) (C := RX3) (T := TX3) (N := 6) hx hb hts hi3 hown hK hP j1268 hj1268 rfl 2 (by decide) (hts (.fieldLink RX5 78 "TallyLogs$Producer" "mode" "I") (by decide +kernel)) (fun _ h9 => h9) rfl dX5_settle_13 ?_
    refine lv_topi (fun x1269 ex1269 => ?_)
    refine lv_iconst (v := 2) hx hb dX5_settle_16 (by decide) ?_
    refine lv_icmp_eq (tgt := 23) hx hb dX5_settle_17 (by decide) (fun c1270 => ?_) (fun c1270 => ?_)
    · refine lv_iconst (v := 0) hx hb dX5_settle_23 (by decide) ?_
      refine lv_istore_n (lv' := [(3, .int 0), (2, .ref (v (4 + j1267))), (0, .ref (v 0)), (1, .int xk)]) hx hb dX5_settle_24 rfl hl (by decide) rfl (fun ls hl => ?_)
      refine wq_gen (fun Qz hQz => ?_)
      have hU1271_4 : ∀ (Lz : List Nat) (Kz : Nat → Nat) (Tz : Nat → Nat → Nat) (Iz : Nat → Nat → Int32) (Qy : Nat → Nat → Option Nat) (Jz : Nat → Nat → Int32) (H : Heap) (locs : List Loc) (ls : Array Slot), CT v Lz Kz N Tz Iz Qy → RS v I Q J Iz Qy Jz → PX L K N T Lz Kz N Tz → va_P (dC, dI) vwCl (va_pl Lz (pF cy Kz N Tz Iz Qy Jz)) H → va_D A (va_pl Lz (pF cy Kz N Tz Iz Qy Jz)) → va_S A s.heap H locs → lv_has ls 4 [(3, .int 4), (2, .ref (v (4 + j1267))), (0, .ref (v 0)), (1, .int xk)] → W p l e (headSpec wsX5_settle ({ frames := 4, cells := 4, slots := 32, locals := 88 })).room s m ([.ref (v 0), .int xk] : List Value).toArray below meth c H locs 4 32 Qz (F0 m 25 ls []) := by
        intro L K T I1272 Q1272 J1272 H locs ls hC hR hXe hP hD hS hl
        have hX := hX.trans hXe
        have hXs := hXe
        refine lv_iload_n hx hb dX5_settle_25 rfl (lv_at hl 0 rfl) ?_
        refine lv_iconst (v := 4) hx hb dX5_settle_26 (by decide) ?_
        refine lv_icmp_ge (tgt := 74) hx hb dX5_settle_27 (by decide) (fun c1273 => ?_) (fun c1273 => ?_)
        rotate_left
        · exact absurd c1273 (by decide)
        refine lv_aload_n hx hb dX5_settle_74 rfl (lv_at hl 1 rfl) ?_
        obtain ⟨j1274, hj1274⟩ := pG_3 (cy := cy) (N := N) (T := T) (I := I1272) (Q := Q1272) (J := J1272) (hC.kp hj1267).1 (hC.kp hj1267).2
        refine va_get (D := (dC, dI)) (ci := 3) (v := .int (I1272 (v (4 + j1267)) 5)) (C := RX3) (T := TX3) (N := 6) hx hb hts hi3 hown hK hP j1274 hj1274 rfl 5 (by decide) (hts (.fieldLink RX5 126 "TallyLogs$Producer" "left" "I") (by decide +kernel)) (fun _ h9 => h9) rfl dX5_settle_75 ?_
        refine lv_topi (fun x1275 ex1275 => ?_)
        refine lv_if_ne (tgt := 86) hx hb dX5_settle_78 (by decide) (fun c1276 => ?_) (fun c1276 => ?_)
        · refine lv_aload_n hx hb dX5_settle_86 rfl (lv_at hl 1 rfl) ?_
          obtain ⟨j1277, hj1277⟩ := pG_3 (cy := cy) (N := N) (T := T) (I := I1272) (Q := Q1272) (J := J1272) (hC.kp hj1267).1 (hC.kp hj1267).2
          refine va_get (D := (dC, dI)) (ci := 3) (v := .int (I1272 (v (4 + j1267)) 5)) (C := RX3) (T := TX3) (N := 6) hx hb hts hi3 hown hK hP j1277 hj1277 rfl 5 (by decide) (hts (.fieldLink RX5 126 "TallyLogs$Producer" "left" "I") (by decide +kernel)) (fun _ h9 => h9) rfl dX5_settle_87 ?_
          refine lv_topi (fun x1278 ex1278 => ?_)
          refine vp_callSi (W.runS (As := [.int x1278]) (rest := []) ⟨hx, hb, hml, hown, hts⟩ (c_J6_bitCount_0f7a4 l x1278) (va_cwS 1 hts gX5_settle_J6_bitCount_0f7a4 rfl rfl rfl (by decide +kernel) ⟨Nat.le_of_ble_eq_true rfl, Nat.le_of_ble_eq_true rfl⟩) preEq rfl rfl hl.1 rfl (lv_room (Nat.le_of_ble_eq_true rfl)) dX5_settle_90 ⟨Nat.le_of_ble_eq_true rfl, Nat.le_of_ble_eq_true rfl⟩) (fun r1279 hr1279 => ?_)
          rw [hQz]
          refine W.widen (k := 4) (n := 32) (by omega) (by omega) ?_
          exact W.iret (v := r1279) hx hb hr (fun t ht hW => ⟨⟨r1279, (L, K, T, I1272, Q1272, J1272), rfl, ⟨⟨hC, hR, hX⟩, trivial⟩, by rw [ht]; exact hP, va_K.moved hW.alike hK, hD⟩, hS.F ht⟩) hS.2.2 dX5_settle_93
        · refine lv_aload_n hx hb dX5_settle_81 rfl (lv_at hl 1 rfl) ?_
          refine lv_iconst (v := 0) hx hb dX5_settle_82 (by decide) ?_
          obtain ⟨j1280, hj1280⟩ := pG_3 (cy := cy) (N := N) (T := T) (I := I1272) (Q := Q1272) (J := J1272) (hC.kp hj1267).1 (hC.kp hj1267).2
          have hDo := hD
          refine va_put (D := (dC, dI)) (ci := 3) (v := .int 0) (ty := .int) (C := RX3) (T := TX3) (N := 6) hx hb hts hi3 tyX3 tyX3_ok nmX3 hown hK hP hD hS j1280 hj1280 rfl 2 (by decide) (hts (.fieldLink RX5 78 "TallyLogs$Producer" "mode" "I") (by decide +kernel)) (fun _ h9 => h9) rfl (by decide +kernel) rfl rfl (Nat.le_of_ble_eq_true rfl) dX5_settle_83 (fun H locs hP hD hS => ?_)
          have hP := Eq.mp (congrArg (fun w => va_P (dC, dI) vwCl w H) (pP_3_2 (x := 0) hDo (hC.kp hj1267).1 (hC.kp hj1267).2 hj1280)) hP
          obtain ⟨I1281, eI1281⟩ : ∃ z, z = p2 I1272 (v (4 + j1267)) 2 0 := ⟨_, rfl⟩
          rw [← eI1281] at hP
          have hR : RS v I Q J I1281 Q1272 J1272 := by rw [eI1281]; exact hR.pi hC (by rw [(hC.kp hj1267).2]; decide)
          have hC : CT v L K N T I1281 Q1272 := by rw [eI1281]; exact hC.pi (by rw [(hC.kp hj1267).2]; decide)
          have hD : va_D A (va_pl L (pF cy K N T I1281 Q1272 J1272)) := pD hDo
          refine lv_aload_n hx hb dX5_settle_86 rfl (lv_at hl 1 rfl) ?_
          obtain ⟨j1282, hj1282⟩ := pG_3 (cy := cy) (N := N) (T := T) (I := I1281) (Q := Q1272) (J := J1272) (hC.kp hj1267).1 (hC.kp hj1267).2
          refine va_get (D := (dC, dI)) (ci := 3) (v := .int (I1281 (v (4 + j1267)) 5)) (C := RX3) (T := TX3) (N := 6) hx hb hts hi3 hown hK hP j1282 hj1282 rfl 5 (by decide) (hts (.fieldLink RX5 126 "TallyLogs$Producer" "left" "I") (by decide +kernel)) (fun _ h9 => h9) rfl dX5_settle_87 ?_
          refine lv_topi (fun x1283 ex1283 => ?_)
          refine vp_callSi (W.runS (As := [.int x1283]) (rest := []) ⟨hx, hb, hml, hown, hts⟩ (c_J6_bitCount_0f7a4 l x1283) (va_cwS 1 hts gX5_settle_J6_bitCount_0f7a4 rfl rfl rfl (by decide +kernel) ⟨Nat.le_of_ble_eq_true rfl, Nat.le_of_ble_eq_true rfl⟩) preEq rfl rfl hl.1 rfl (lv_room (Nat.le_of_ble_eq_true rfl)) dX5_settle_90 ⟨Nat.le_of_ble_eq_true rfl, Nat.le_of_ble_eq_true rfl⟩) (fun r1284 hr1284 => ?_)
          rw [hQz]
          refine W.widen (k := 4) (n := 32) (by omega) (by omega) ?_
          exact W.iret (v := r1284) hx hb hr (fun t ht hW => ⟨⟨r1284, (L, K, T, I1281, Q1272, J1272), rfl, ⟨⟨hC, hR, hX⟩, trivial⟩, by rw [ht]; exact hP, va_K.moved hW.alike hK, hD⟩, hS.F ht⟩) hS.2.2 dX5_settle_93
      have hU1271_3 : ∀ (Lz : List Nat) (Kz : Nat → Nat) (Tz : Nat → Nat → Nat) (Iz : Nat → Nat → Int32) (Qy : Nat → Nat → Option Nat) (Jz : Nat → Nat → Int32) (H : Heap) (locs : List Loc) (ls : Array Slot), CT v Lz Kz N Tz Iz Qy → RS v I Q J Iz Qy Jz → PX L K N T Lz Kz N Tz → va_P (dC, dI) vwCl (va_pl Lz (pF cy Kz N Tz Iz Qy Jz)) H → va_D A (va_pl Lz (pF cy Kz N Tz Iz Qy Jz)) → va_S A s.heap H locs → lv_has ls 4 [(3, .int 3), (2, .ref (v (4 + j1267))), (0, .ref (v 0)), (1, .int xk)] → W p l e (headSpec wsX5_settle ({ frames := 4, cells := 4, slots := 32, locals := 88 })).room s m ([.ref (v 0), .int xk] : List Value).toArray below meth c H locs 3 24 Qz (F0 m 25 ls []) := by
        intro L K T I1285 Q1285 J1285 H locs ls hC hR hXe hP hD hS hl
        have hX := hX.trans hXe
        have hXs := hXe
        refine lv_iload_n hx hb dX5_settle_25 rfl (lv_at hl 0 rfl) ?_
        refine lv_iconst (v := 4) hx hb dX5_settle_26 (by decide) ?_
        refine lv_icmp_ge (tgt := 74) hx hb dX5_settle_27 (by decide) (fun c1286 => ?_) (fun c1286 => ?_)
        · exact absurd c1286 (by decide)
        refine lv_aload_n hx hb dX5_settle_30 rfl (lv_at hl 1 rfl) ?_
        obtain ⟨j1287, hj1287⟩ := pG_3 (cy := cy) (N := N) (T := T) (I := I1285) (Q := Q1285) (J := J1285) (hC.kp hj1267).1 (hC.kp hj1267).2
        refine va_get (D := (dC, dI)) (ci := 3) (v := .int (I1285 (v (4 + j1267)) 5)) (C := RX3) (T := TX3) (N := 6) hx hb hts hi3 hown hK hP j1287 hj1287 rfl 5 (by decide) (hts (.fieldLink RX5 126 "TallyLogs$Producer" "left" "I") (by decide +kernel)) (fun _ h9 => h9) rfl dX5_settle_31 ?_
        refine lv_topi (fun x1288 ex1288 => ?_)
        refine lv_iload_n hx hb dX5_settle_34 rfl (lv_at hl 0 rfl) ?_
        refine vp_callSi (W.runS (As := [.int x1288, .int 3]) (rest := []) ⟨hx, hb, hml, hown, hts⟩ (c_X5_contains l x1288 3) (va_cwS 2 hts gX5_settle_X5_contains rfl rfl rfl (by decide +kernel) ⟨Nat.le_of_ble_eq_true rfl, Nat.le_of_ble_eq_true rfl⟩) preEq rfl rfl hl.1 rfl (lv_room (Nat.le_of_ble_eq_true rfl)) dX5_settle_35 ⟨Nat.le_of_ble_eq_true rfl, Nat.le_of_ble_eq_true rfl⟩) (fun r1289 hr1289 => ?_)
        refine lv_if_eq (tgt := 68) hx hb dX5_settle_38 (by decide) (fun c1290 => ?_) (fun c1290 => ?_)
        · refine lv_iinc (v := 4) (lv' := [(3, .int 4), (2, .ref (v (4 + j1267))), (0, .ref (v 0)), (1, .int xk)]) hx hb dX5_settle_68 hl (k := 0) rfl (by decide) (by decide) rfl (fun ls hl => ?_)
          refine lv_goto (tgt := 25) hx hb dX5_settle_71 (by decide) ?_
          refine W.widen (k := 4) (n := 32) (by omega) (by omega) ?_
          exact hU1271_4 _ _ _ _ _ _ _ _ _ hC hR hXs hP hD hS (lv_sub hl [0, 1, 2, 3] rfl)
        · refine lv_aload_n hx hb dX5_settle_41 rfl (lv_at hl 2 rfl) ?_
          obtain ⟨j1291, hj1291⟩ := pG_5 (cy := cy) (N := N) (T := T) (I := I1285) (Q := Q1285) (J := J1285) (hC.at 0 (by decide)) (hC.k 0 (by decide) rfl)
          refine va_get (D := (dC, dI)) (ci := 5) (v := .ref (T (v 0) 0)) (C := RX5) (T := TX5) (N := 6) hx hb hts hi5 hown hK hP j1291 hj1291 rfl 0 (by decide) (hts (.fieldLink RX5 11 "TallyLogs" "partitions" "[LTallyLogs$Partition;") (by decide +kernel)) (fun _ h9 => h9) rfl dX5_settle_42 ?_
          refine W.eq (g2 := F0 m 45 ls [.ref (v 1)]) (by rw [hC.1.2.2.1.1]) ?_
          refine lv_iload_n hx hb dX5_settle_45 rfl (lv_at hl 0 rfl) ?_
          obtain ⟨j1293, hj1293⟩ := pG_10 (cy := cy) (N := N) (T := T) (I := I1285) (Q := Q1285) (J := J1285) (hC.at 1 (by decide)) (hC.k 1 (by decide) rfl)
          refine va_aldq hx hb hK hP j1293 3 hj1293 rfl (by unfold vp_in; decide) dX5_settle_46 ?_
          cases hq1295 : Q1285 (v 1) (3 : Int32).toNatClampNeg with
          | none =>
            refine W.eq (g2 := F0 m 47 ls [.null]) rfl ?_
            refine lv_aload_n hx hb dX5_settle_47 rfl (lv_at hl 1 rfl) ?_
            have hFc := pfree hD hS hA
            refine va_calli (va_runS (As := [.null, .ref (v (4 + j1267))]) (rest := []) ⟨hx, hb, hml, hown, hts⟩ (c_X5_markEnd0 l dC dI cy v L K N T I1285 Q1285 J1285 H.size (v (4 + j1267)) hC) (va_cwS 2 hts gX5_settle_X5_markEnd rfl rfl rfl (by decide +kernel) ⟨Nat.le_of_ble_eq_true rfl, Nat.le_of_ble_eq_true rfl⟩) ⟨pw_blind, fun U hU hW => ⟨rfl, pw_pre hP hK hN hD hU hW⟩⟩ rfl rfl hl.1 rfl (lv_room (Nat.le_of_ble_eq_true rfl)) dX5_settle_48 ⟨Nat.le_of_ble_eq_true rfl, Nat.le_of_ble_eq_true rfl⟩) hS (fun q _ h => hFc q h) hFc (fun r1297 d9 t H1 locs ht hvm hw hB hz1 hk1 hS => ?_)
            obtain ⟨L, K, T, I1296, Q1296, J1296⟩ := d9
            obtain ⟨⟨hC, hR1, hXe⟩, hr1297⟩ := hw
            obtain ⟨hP, hK1, hD1⟩ := hB
            rw [ht] at hP
            have hD := hD1.weaken (fun _ _ _ h => hFc _ h)
            have hR := hR.trans hR1
            generalize H1 = H at hP hS ⊢
            have hP : va_P (dC, dI) vwCl (va_pl L (pF cy K N T I1296 Q1296 J1296)) H := hP
            have hD : va_D A (va_pl L (pF cy K N T I1296 Q1296 J1296)) := hD
            have hC : CT v L K N T I1296 Q1296 := hC
            have hR : RS v I Q J I1296 Q1296 J1296 := hR
            have hX := hX.trans hXe
            have hXs := hXs.trans hXe
            refine W.widen (k := 4) (n := 32) (by omega) (by omega) ?_
            refine lv_if_eq (tgt := 68) hx hb dX5_settle_51 (by decide) (fun c1298 => ?_) (fun c1298 => ?_)
            · refine lv_iinc (v := 4) (lv' := [(3, .int 4), (2, .ref (v (4 + j1267))), (0, .ref (v 0)), (1, .int xk)]) hx hb dX5_settle_68 hl (k := 0) rfl (by decide) (by decide) rfl (fun ls hl => ?_)
              refine lv_goto (tgt := 25) hx hb dX5_settle_71 (by decide) ?_
              refine W.widen (k := 4) (n := 32) (by omega) (by omega) ?_
              exact hU1271_4 _ _ _ _ _ _ _ _ _ hC hR hXs hP hD hS (lv_sub hl [0, 1, 2, 3] rfl)
            · refine lv_aload_n hx hb dX5_settle_54 rfl (lv_at hl 1 rfl) ?_
              refine lv_dup hx hb dX5_settle_55 rfl ?_
              obtain ⟨j1299, hj1299⟩ := pG_3 (cy := cy) (N := N) (T := T) (I := I1296) (Q := Q1296) (J := J1296) (hC.kp hj1267).1 (hC.kp hj1267).2
              refine va_get (D := (dC, dI)) (ci := 3) (v := .int (I1296 (v (4 + j1267)) 5)) (C := RX3) (T := TX3) (N := 6) hx hb hts hi3 hown hK hP j1299 hj1299 rfl 5 (by decide) (hts (.fieldLink RX5 126 "TallyLogs$Producer" "left" "I") (by decide +kernel)) (fun _ h9 => h9) rfl dX5_settle_56 ?_
              refine lv_topi (fun x1300 ex1300 => ?_)
              refine lv_iconst (v := 1) hx hb dX5_settle_59 (by decide) ?_
              refine lv_iload_n hx hb dX5_settle_60 rfl (lv_at hl 0 rfl) ?_
              refine lv_ishl hx hb dX5_settle_61 ?_
              refine lv_topi (fun v1301 ev1301 => ?_)
              obtain rfl : v1301 = (8 : Int32) := ev1301.trans (by decide)
              refine lv_iconst (v := (-1)) hx hb dX5_settle_62 (by decide) ?_
              refine lv_ixor hx hb dX5_settle_63 ?_
              refine lv_topi (fun v1302 ev1302 => ?_)
              obtain rfl : v1302 = ((-9) : Int32) := ev1302.trans (by decide)
              refine lv_iand hx hb dX5_settle_64 ?_
              refine lv_topi (fun v1303 ev1303 => ?_)
              obtain ⟨j1304, hj1304⟩ := pG_3 (cy := cy) (N := N) (T := T) (I := I1296) (Q := Q1296) (J := J1296) (hC.kp hj1267).1 (hC.kp hj1267).2
              have hDo := hD
              refine va_put (D := (dC, dI)) (ci := 3) (v := .int v1303) (ty := .int) (C := RX3) (T := TX3) (N := 6) hx hb hts hi3 tyX3 tyX3_ok nmX3 hown hK hP hD hS j1304 hj1304 rfl 5 (by decide) (hts (.fieldLink RX5 126 "TallyLogs$Producer" "left" "I") (by decide +kernel)) (fun _ h9 => h9) rfl (by decide +kernel) rfl rfl (Nat.le_of_ble_eq_true rfl) dX5_settle_65 (fun H locs hP hD hS => ?_)
              have hP := Eq.mp (congrArg (fun w => va_P (dC, dI) vwCl w H) (pP_3_5 (x := v1303) hDo (hC.kp hj1267).1 (hC.kp hj1267).2 hj1304)) hP
              obtain ⟨I1305, eI1305⟩ : ∃ z, z = p2 I1296 (v (4 + j1267)) 5 v1303 := ⟨_, rfl⟩
              rw [← eI1305] at hP
              have hR : RS v I Q J I1305 Q1296 J1296 := by rw [eI1305]; exact hR.pi hC (by rw [(hC.kp hj1267).2]; decide)
              have hC : CT v L K N T I1305 Q1296 := by rw [eI1305]; exact hC.pi (by rw [(hC.kp hj1267).2]; decide)
              have hD : va_D A (va_pl L (pF cy K N T I1305 Q1296 J1296)) := pD hDo
              refine lv_iinc (v := 4) (lv' := [(3, .int 4), (2, .ref (v (4 + j1267))), (0, .ref (v 0)), (1, .int xk)]) hx hb dX5_settle_68 hl (k := 0) rfl (by decide) (by decide) rfl (fun ls hl => ?_)
              refine lv_goto (tgt := 25) hx hb dX5_settle_71 (by decide) ?_
              refine W.widen (k := 4) (n := 32) (by omega) (by omega) ?_
              exact hU1271_4 _ _ _ _ _ _ _ _ _ hC hR hXs hP hD hS (lv_sub hl [0, 1, 2, 3] rfl)
          | some b1294 =>
            have hTb1294 := (hC.2.2.2.1 (3 : Int32).toNatClampNeg b1294 (vp_lt (by unfold vp_in; decide)) hq1295)
            refine W.eq (g2 := F0 m 47 ls [.ref b1294]) rfl ?_
            refine lv_aload_n hx hb dX5_settle_47 rfl (lv_at hl 1 rfl) ?_
            have hFc := pfree hD hS hA
            refine va_calli (va_runS (As := [.ref b1294, .ref (v (4 + j1267))]) (rest := []) ⟨hx, hb, hml, hown, hts⟩ (c_X5_markEnd l dC dI cy v L K N T I1285 Q1285 J1285 H.size b1294 (v (4 + j1267)) hC hTb1294.1 hTb1294.2 (hC.kp hj1267).1 (hC.kp hj1267).2) (va_cwS 2 hts gX5_settle_X5_markEnd rfl rfl rfl (by decide +kernel) ⟨Nat.le_of_ble_eq_true rfl, Nat.le_of_ble_eq_true rfl⟩) ⟨pw_blind, fun U hU hW => ⟨rfl, pw_pre hP hK hN hD hU hW⟩⟩ rfl rfl hl.1 rfl (lv_room (Nat.le_of_ble_eq_true rfl)) dX5_settle_48 ⟨Nat.le_of_ble_eq_true rfl, Nat.le_of_ble_eq_true rfl⟩) hS (fun q _ h => hFc q h) hFc (fun r1307 d9 t H1 locs ht hvm hw hB hz1 hk1 hS => ?_)
            obtain ⟨L, K, T, I1306, Q1306, J1306⟩ := d9
            obtain ⟨⟨hC, hR1, hXe⟩, hr1307⟩ := hw
            obtain ⟨hP, hK1, hD1⟩ := hB
            rw [ht] at hP
            have hD := hD1.weaken (fun _ _ _ h => hFc _ h)
            have hR := hR.trans hR1
            generalize H1 = H at hP hS ⊢
            have hP : va_P (dC, dI) vwCl (va_pl L (pF cy K N T I1306 Q1306 J1306)) H := hP
            have hD : va_D A (va_pl L (pF cy K N T I1306 Q1306 J1306)) := hD
            have hC : CT v L K N T I1306 Q1306 := hC
            have hR : RS v I Q J I1306 Q1306 J1306 := hR
            have hX := hX.trans hXe
            have hXs := hXs.trans hXe
            have hLz1308 : b1294 ∈ L := (hXe _ hTb1294.1).1
            have hkz1308 : K b1294 = 2 := (hXe _ hTb1294.1).2.1.trans hTb1294.2
            refine W.widen (k := 4) (n := 32) (by omega) (by omega) ?_
            refine lv_if_eq (tgt := 68) hx hb dX5_settle_51 (by decide) (fun c1309 => ?_) (fun c1309 => ?_)
            · refine lv_iinc (v := 4) (lv' := [(3, .int 4), (2, .ref (v (4 + j1267))), (0, .ref (v 0)), (1, .int xk)]) hx hb dX5_settle_68 hl (k := 0) rfl (by decide) (by decide) rfl (fun ls hl => ?_)
              refine lv_goto (tgt := 25) hx hb dX5_settle_71 (by decide) ?_
              refine W.widen (k := 4) (n := 32) (by omega) (by omega) ?_
              exact hU1271_4 _ _ _ _ _ _ _ _ _ hC hR hXs hP hD hS (lv_sub hl [0, 1, 2, 3] rfl)
            · refine lv_aload_n hx hb dX5_settle_54 rfl (lv_at hl 1 rfl) ?_
              refine lv_dup hx hb dX5_settle_55 rfl ?_
              obtain ⟨j1310, hj1310⟩ := pG_3 (cy := cy) (N := N) (T := T) (I := I1306) (Q := Q1306) (J := J1306) (hC.kp hj1267).1 (hC.kp hj1267).2
              refine va_get (D := (dC, dI)) (ci := 3) (v := .int (I1306 (v (4 + j1267)) 5)) (C := RX3) (T := TX3) (N := 6) hx hb hts hi3 hown hK hP j1310 hj1310 rfl 5 (by decide) (hts (.fieldLink RX5 126 "TallyLogs$Producer" "left" "I") (by decide +kernel)) (fun _ h9 => h9) rfl dX5_settle_56 ?_
              refine lv_topi (fun x1311 ex1311 => ?_)
              refine lv_iconst (v := 1) hx hb dX5_settle_59 (by decide) ?_
              refine lv_iload_n hx hb dX5_settle_60 rfl (lv_at hl 0 rfl) ?_
              refine lv_ishl hx hb dX5_settle_61 ?_
              refine lv_topi (fun v1312 ev1312 => ?_)
              obtain rfl : v1312 = (8 : Int32) := ev1312.trans (by decide)
              refine lv_iconst (v := (-1)) hx hb dX5_settle_62 (by decide) ?_
              refine lv_ixor hx hb dX5_settle_63 ?_
              refine lv_topi (fun v1313 ev1313 => ?_)
              obtain rfl : v1313 = ((-9) : Int32) := ev1313.trans (by decide)
              refine lv_iand hx hb dX5_settle_64 ?_
              refine lv_topi (fun v1314 ev1314 => ?_)
              obtain ⟨j1315, hj1315⟩ := pG_3 (cy := cy) (N := N) (T := T) (I := I1306) (Q := Q1306) (J := J1306) (hC.kp hj1267).1 (hC.kp hj1267).2
              have hDo := hD
              refine va_put (D := (dC, dI)) (ci := 3) (v := .int v1314) (ty := .int) (C := RX3) (T := TX3) (N := 6) hx hb hts hi3 tyX3 tyX3_ok nmX3 hown hK hP hD hS j1315 hj1315 rfl 5 (by decide) (hts (.fieldLink RX5 126 "TallyLogs$Producer" "left" "I") (by decide +kernel)) (fun _ h9 => h9) rfl (by decide +kernel) rfl rfl (Nat.le_of_ble_eq_true rfl) dX5_settle_65 (fun H locs hP hD hS => ?_)
              have hP := Eq.mp (congrArg (fun w => va_P (dC, dI) vwCl w H) (pP_3_5 (x := v1314) hDo (hC.kp hj1267).1 (hC.kp hj1267).2 hj1315)) hP
              obtain ⟨I1316, eI1316⟩ : ∃ z, z = p2 I1306 (v (4 + j1267)) 5 v1314 := ⟨_, rfl⟩
              rw [← eI1316] at hP
              have hR : RS v I Q J I1316 Q1306 J1306 := by rw [eI1316]; exact hR.pi hC (by rw [(hC.kp hj1267).2]; decide)
              have hC : CT v L K N T I1316 Q1306 := by rw [eI1316]; exact hC.pi (by rw [(hC.kp hj1267).2]; decide)
              have hD : va_D A (va_pl L (pF cy K N T I1316 Q1306 J1306)) := pD hDo
              refine lv_iinc (v := 4) (lv' := [(3, .int 4), (2, .ref (v (4 + j1267))), (0, .ref (v 0)), (1, .int xk)]) hx hb dX5_settle_68 hl (k := 0) rfl (by decide) (by decide) rfl (fun ls hl => ?_)
              refine lv_goto (tgt := 25) hx hb dX5_settle_71 (by decide) ?_
              refine W.widen (k := 4) (n := 32) (by omega) (by omega) ?_
              exact hU1271_4 _ _ _ _ _ _ _ _ _ hC hR hXs hP hD hS (lv_sub hl [0, 1, 2, 3] rfl)
      have hU1271_2 : ∀ (Lz : List Nat) (Kz : Nat → Nat) (Tz : Nat → Nat → Nat) (Iz : Nat → Nat → Int32) (Qy : Nat → Nat → Option Nat) (Jz : Nat → Nat → Int32) (H : Heap) (locs : List Loc) (ls : Array Slot), CT v Lz Kz N Tz Iz Qy → RS v I Q J Iz Qy Jz → PX L K N T Lz Kz N Tz → va_P (dC, dI) vwCl (va_pl Lz (pF cy Kz N Tz Iz Qy Jz)) H → va_D A (va_pl Lz (pF cy Kz N Tz Iz Qy Jz)) → va_S A s.heap H locs → lv_has ls 4 [(3, .int 2), (2, .ref (v (4 + j1267))), (0, .ref (v 0)), (1, .int xk)] → W p l e (headSpec wsX5_settle ({ frames := 4, cells := 4, slots := 32, locals := 88 })).room s m ([.ref (v 0), .int xk] : List Value).toArray below meth c H locs 2 16 Qz (F0 m 25 ls []) := by
        intro L K T I1317 Q1317 J1317 H locs ls hC hR hXe hP hD hS hl
        have hX := hX.trans hXe
        have hXs := hXe
        refine lv_iload_n hx hb dX5_settle_25 rfl (lv_at hl 0 rfl) ?_
        refine lv_iconst (v := 4) hx hb dX5_settle_26 (by decide) ?_
        refine lv_icmp_ge (tgt := 74) hx hb dX5_settle_27 (by decide) (fun c1318 => ?_) (fun c1318 => ?_)
        · exact absurd c1318 (by decide)
        refine lv_aload_n hx hb dX5_settle_30 rfl (lv_at hl 1 rfl) ?_
        obtain ⟨j1319, hj1319⟩ := pG_3 (cy := cy) (N := N) (T := T) (I := I1317) (Q := Q1317) (J := J1317) (hC.kp hj1267).1 (hC.kp hj1267).2
        refine va_get (D := (dC, dI)) (ci := 3) (v := .int (I1317 (v (4 + j1267)) 5)) (C := RX3) (T := TX3) (N := 6) hx hb hts hi3 hown hK hP j1319 hj1319 rfl 5 (by decide) (hts (.fieldLink RX5 126 "TallyLogs$Producer" "left" "I") (by decide +kernel)) (fun _ h9 => h9) rfl dX5_settle_31 ?_
        refine lv_topi (fun x1320 ex1320 => ?_)
        refine lv_iload_n hx hb dX5_settle_34 rfl (lv_at hl 0 rfl) ?_
        refine vp_callSi (W.runS (As := [.int x1320, .int 2]) (rest := []) ⟨hx, hb, hml, hown, hts⟩ (c_X5_contains l x1320 2) (va_cwS 2 hts gX5_settle_X5_contains rfl rfl rfl (by decide +kernel) ⟨Nat.le_of_ble_eq_true rfl, Nat.le_of_ble_eq_true rfl⟩) preEq rfl rfl hl.1 rfl (lv_room (Nat.le_of_ble_eq_true rfl)) dX5_settle_35 ⟨Nat.le_of_ble_eq_true rfl, Nat.le_of_ble_eq_true rfl⟩) (fun r1321 hr1321 => ?_)
        refine lv_if_eq (tgt := 68) hx hb dX5_settle_38 (by decide) (fun c1322 => ?_) (fun c1322 => ?_)
        · refine lv_iinc (v := 3) (lv' := [(3, .int 3), (2, .ref (v (4 + j1267))), (0, .ref (v 0)), (1, .int xk)]) hx hb dX5_settle_68 hl (k := 0) rfl (by decide) (by decide) rfl (fun ls hl => ?_)
          refine lv_goto (tgt := 25) hx hb dX5_settle_71 (by decide) ?_
          refine W.widen (k := 3) (n := 24) (by omega) (by omega) ?_
          exact hU1271_3 _ _ _ _ _ _ _ _ _ hC hR hXs hP hD hS (lv_sub hl [0, 1, 2, 3] rfl)
        · refine lv_aload_n hx hb dX5_settle_41 rfl (lv_at hl 2 rfl) ?_
          obtain ⟨j1323, hj1323⟩ := pG_5 (cy := cy) (N := N) (T := T) (I := I1317) (Q := Q1317) (J := J1317) (hC.at 0 (by decide)) (hC.k 0 (by decide) rfl)
          refine va_get (D := (dC, dI)) (ci := 5) (v := .ref (T (v 0) 0)) (C := RX5) (T := TX5) (N := 6) hx hb hts hi5 hown hK hP j1323 hj1323 rfl 0 (by decide) (hts (.fieldLink RX5 11 "TallyLogs" "partitions" "[LTallyLogs$Partition;") (by decide +kernel)) (fun _ h9 => h9) rfl dX5_settle_42 ?_
          refine W.eq (g2 := F0 m 45 ls [.ref (v 1)]) (by rw [hC.1.2.2.1.1]) ?_
          refine lv_iload_n hx hb dX5_settle_45 rfl (lv_at hl 0 rfl) ?_
          obtain ⟨j1325, hj1325⟩ := pG_10 (cy := cy) (N := N) (T := T) (I := I1317) (Q := Q1317) (J := J1317) (hC.at 1 (by decide)) (hC.k 1 (by decide) rfl)
          refine va_aldq hx hb hK hP j1325 3 hj1325 rfl (by unfold vp_in; decide) dX5_settle_46 ?_
          cases hq1327 : Q1317 (v 1) (2 : Int32).toNatClampNeg with
          | none =>
            refine W.eq (g2 := F0 m 47 ls [.null]) rfl ?_
            refine lv_aload_n hx hb dX5_settle_47 rfl (lv_at hl 1 rfl) ?_
            have hFc := pfree hD hS hA
            refine va_calli (va_runS (As := [.null, .ref (v (4 + j1267))]) (rest := []) ⟨hx, hb, hml, hown, hts⟩ (c_X5_markEnd0 l dC dI cy v L K N T I1317 Q1317 J1317 H.size (v (4 + j1267)) hC) (va_cwS 2 hts gX5_settle_X5_markEnd rfl rfl rfl (by decide +kernel) ⟨Nat.le_of_ble_eq_true rfl, Nat.le_of_ble_eq_true rfl⟩) ⟨pw_blind, fun U hU hW => ⟨rfl, pw_pre hP hK hN hD hU hW⟩⟩ rfl rfl hl.1 rfl (lv_room (Nat.le_of_ble_eq_true rfl)) dX5_settle_48 ⟨Nat.le_of_ble_eq_true rfl, Nat.le_of_ble_eq_true rfl⟩) hS (fun q _ h => hFc q h) hFc (fun r1329 d9 t H1 locs ht hvm hw hB hz1 hk1 hS => ?_)
            obtain ⟨L, K, T, I1328, Q1328, J1328⟩ := d9
            obtain ⟨⟨hC, hR1, hXe⟩, hr1329⟩ := hw
            obtain ⟨hP, hK1, hD1⟩ := hB
            rw [ht] at hP
            have hD := hD1.weaken (fun _ _ _ h => hFc _ h)
            have hR := hR.trans hR1
            generalize H1 = H at hP hS ⊢
            have hP : va_P (dC, dI) vwCl (va_pl L (pF cy K N T I1328 Q1328 J1328)) H := hP
            have hD : va_D A (va_pl L (pF cy K N T I1328 Q1328 J1328)) := hD
            have hC : CT v L K N T I1328 Q1328 := hC
            have hR : RS v I Q J I1328 Q1328 J1328 := hR
            have hX := hX.trans hXe
            have hXs := hXs.trans hXe
            refine W.widen (k := 3) (n := 24) (by omega) (by omega) ?_
            refine lv_if_eq (tgt := 68) hx hb dX5_settle_51 (by decide) (fun c1330 => ?_) (fun c1330 => ?_)
            · refine lv_iinc (v := 3) (lv' := [(3, .int 3), (2, .ref (v (4 + j1267))), (0, .ref (v 0)), (1, .int xk)]) hx hb dX5_settle_68 hl (k := 0) rfl (by decide) (by decide) rfl (fun ls hl => ?_)
              refine lv_goto (tgt := 25) hx hb dX5_settle_71 (by decide) ?_
              refine W.widen (k := 3) (n := 24) (by omega) (by omega) ?_
              exact hU1271_3 _ _ _ _ _ _ _ _ _ hC hR hXs hP hD hS (lv_sub hl [0, 1, 2, 3] rfl)
            · refine lv_aload_n hx hb dX5_settle_54 rfl (lv_at hl 1 rfl) ?_
              refine lv_dup hx hb dX5_settle_55 rfl ?_
              obtain ⟨j1331, hj1331⟩ := pG_3 (cy := cy) (N := N) (T := T) (I := I1328) (Q := Q1328) (J := J1328) (hC.kp hj1267).1 (hC.kp hj1267).2
              refine va_get (D := (dC, dI)) (ci := 3) (v := .int (I1328 (v (4 + j1267)) 5)) (C := RX3) (T := TX3) (N := 6) hx hb hts hi3 hown hK hP j1331 hj1331 rfl 5 (by decide) (hts (.fieldLink RX5 126 "TallyLogs$Producer" "left" "I") (by decide +kernel)) (fun _ h9 => h9) rfl dX5_settle_56 ?_
              refine lv_topi (fun x1332 ex1332 => ?_)
              refine lv_iconst (v := 1) hx hb dX5_settle_59 (by decide) ?_
              refine lv_iload_n hx hb dX5_settle_60 rfl (lv_at hl 0 rfl) ?_
              refine lv_ishl hx hb dX5_settle_61 ?_
              refine lv_topi (fun v1333 ev1333 => ?_)
              obtain rfl : v1333 = (4 : Int32) := ev1333.trans (by decide)
              refine lv_iconst (v := (-1)) hx hb dX5_settle_62 (by decide) ?_
              refine lv_ixor hx hb dX5_settle_63 ?_
              refine lv_topi (fun v1334 ev1334 => ?_)
              obtain rfl : v1334 = ((-5) : Int32) := ev1334.trans (by decide)
              refine lv_iand hx hb dX5_settle_64 ?_
              refine lv_topi (fun v1335 ev1335 => ?_)
              obtain ⟨j1336, hj1336⟩ := pG_3 (cy := cy) (N := N) (T := T) (I := I1328) (Q := Q1328) (J := J1328) (hC.kp hj1267).1 (hC.kp hj1267).2
              have hDo := hD
              refine va_put (D := (dC, dI)) (ci := 3) (v := .int v1335) (ty := .int) (C := RX3) (T := TX3) (N := 6) hx hb hts hi3 tyX3 tyX3_ok nmX3 hown hK hP hD hS j1336 hj1336 rfl 5 (by decide) (hts (.fieldLink RX5 126 "TallyLogs$Producer" "left" "I") (by decide +kernel)) (fun _ h9 => h9) rfl (by decide +kernel) rfl rfl (Nat.le_of_ble_eq_true rfl) dX5_settle_65 (fun H locs hP hD hS => ?_)
              have hP := Eq.mp (congrArg (fun w => va_P (dC, dI) vwCl w H) (pP_3_5 (x := v1335) hDo (hC.kp hj1267).1 (hC.kp hj1267).2 hj1336)) hP
              obtain ⟨I1337, eI1337⟩ : ∃ z, z = p2 I1328 (v (4 + j1267)) 5 v1335 := ⟨_, rfl⟩
              rw [← eI1337] at hP
              have hR : RS v I Q J I1337 Q1328 J1328 := by rw [eI1337]; exact hR.pi hC (by rw [(hC.kp hj1267).2]; decide)
              have hC : CT v L K N T I1337 Q1328 := by rw [eI1337]; exact hC.pi (by rw [(hC.kp hj1267).2]; decide)
              have hD : va_D A (va_pl L (pF cy K N T I1337 Q1328 J1328)) := pD hDo
              refine lv_iinc (v := 3) (lv' := [(3, .int 3), (2, .ref (v (4 + j1267))), (0, .ref (v 0)), (1, .int xk)]) hx hb dX5_settle_68 hl (k := 0) rfl (by decide) (by decide) rfl (fun ls hl => ?_)
              refine lv_goto (tgt := 25) hx hb dX5_settle_71 (by decide) ?_
              refine W.widen (k := 3) (n := 24) (by omega) (by omega) ?_
              exact hU1271_3 _ _ _ _ _ _ _ _ _ hC hR hXs hP hD hS (lv_sub hl [0, 1, 2, 3] rfl)
          | some b1326 =>
            have hTb1326 := (hC.2.2.2.1 (2 : Int32).toNatClampNeg b1326 (vp_lt (by unfold vp_in; decide)) hq1327)
            refine W.eq (g2 := F0 m 47 ls [.ref b1326]) rfl ?_
            refine lv_aload_n hx hb dX5_settle_47 rfl (lv_at hl 1 rfl) ?_
            have hFc := pfree hD hS hA
            refine va_calli (va_runS (As := [.ref b1326, .ref (v (4 + j1267))]) (rest := []) ⟨hx, hb, hml, hown, hts⟩ (c_X5_markEnd l dC dI cy v L K N T I1317 Q1317 J1317 H.size b1326 (v (4 + j1267)) hC hTb1326.1 hTb1326.2 (hC.kp hj1267).1 (hC.kp hj1267).2) (va_cwS 2 hts gX5_settle_X5_markEnd rfl rfl rfl (by decide +kernel) ⟨Nat.le_of_ble_eq_true rfl, Nat.le_of_ble_eq_true rfl⟩) ⟨pw_blind, fun U hU hW => ⟨rfl, pw_pre hP hK hN hD hU hW⟩⟩ rfl rfl hl.1 rfl (lv_room (Nat.le_of_ble_eq_true rfl)) dX5_settle_48 ⟨Nat.le_of_ble_eq_true rfl, Nat.le_of_ble_eq_true rfl⟩) hS (fun q _ h => hFc q h) hFc (fun r1339 d9 t H1 locs ht hvm hw hB hz1 hk1 hS => ?_)
            obtain ⟨L, K, T, I1338, Q1338, J1338⟩ := d9
            obtain ⟨⟨hC, hR1, hXe⟩, hr1339⟩ := hw
            obtain ⟨hP, hK1, hD1⟩ := hB
            rw [ht] at hP
            have hD := hD1.weaken (fun _ _ _ h => hFc _ h)
            have hR := hR.trans hR1
            generalize H1 = H at hP hS ⊢
            have hP : va_P (dC, dI) vwCl (va_pl L (pF cy K N T I1338 Q1338 J1338)) H := hP
            have hD : va_D A (va_pl L (pF cy K N T I1338 Q1338 J1338)) := hD
            have hC : CT v L K N T I1338 Q1338 := hC
            have hR : RS v I Q J I1338 Q1338 J1338 := hR
            have hX := hX.trans hXe
            have hXs := hXs.trans hXe
            have hLz1340 : b1326 ∈ L := (hXe _ hTb1326.1).1
            have hkz1340 : K b1326 = 2 := (hXe _ hTb1326.1).2.1.trans hTb1326.2
            refine W.widen (k := 3) (n := 24) (by omega) (by omega) ?_
            refine lv_if_eq (tgt := 68) hx hb dX5_settle_51 (by decide) (fun c1341 => ?_) (fun c1341 => ?_)
            · refine lv_iinc (v := 3) (lv' := [(3, .int 3), (2, .ref (v (4 + j1267))), (0, .ref (v 0)), (1, .int xk)]) hx hb dX5_settle_68 hl (k := 0) rfl (by decide) (by decide) rfl (fun ls hl => ?_)
              refine lv_goto (tgt := 25) hx hb dX5_settle_71 (by decide) ?_
              refine W.widen (k := 3) (n := 24) (by omega) (by omega) ?_
              exact hU1271_3 _ _ _ _ _ _ _ _ _ hC hR hXs hP hD hS (lv_sub hl [0, 1, 2, 3] rfl)
            · refine lv_aload_n hx hb dX5_settle_54 rfl (lv_at hl 1 rfl) ?_
              refine lv_dup hx hb dX5_settle_55 rfl ?_
              obtain ⟨j1342, hj1342⟩ := pG_3 (cy := cy) (N := N) (T := T) (I := I1338) (Q := Q1338) (J := J1338) (hC.kp hj1267).1 (hC.kp hj1267).2
              refine va_get (D := (dC, dI)) (ci := 3) (v := .int (I1338 (v (4 + j1267)) 5)) (C := RX3) (T := TX3) (N := 6) hx hb hts hi3 hown hK hP j1342 hj1342 rfl 5 (by decide) (hts (.fieldLink RX5 126 "TallyLogs$Producer" "left" "I") (by decide +kernel)) (fun _ h9 => h9) rfl dX5_settle_56 ?_
              refine lv_topi (fun x1343 ex1343 => ?_)
              refine lv_iconst (v := 1) hx hb dX5_settle_59 (by decide) ?_
              refine lv_iload_n hx hb dX5_settle_60 rfl (lv_at hl 0 rfl) ?_
              refine lv_ishl hx hb dX5_settle_61 ?_
              refine lv_topi (fun v1344 ev1344 => ?_)
              obtain rfl : v1344 = (4 : Int32) := ev1344.trans (by decide)
              refine lv_iconst (v := (-1)) hx hb dX5_settle_62 (by decide) ?_
              refine lv_ixor hx hb dX5_settle_63 ?_
              refine lv_topi (fun v1345 ev1345 => ?_)
              obtain rfl : v1345 = ((-5) : Int32) := ev1345.trans (by decide)
              refine lv_iand hx hb dX5_settle_64 ?_
              refine lv_topi (fun v1346 ev1346 => ?_)
              obtain ⟨j1347, hj1347⟩ := pG_3 (cy := cy) (N := N) (T := T) (I := I1338) (Q := Q1338) (J := J1338) (hC.kp hj1267).1 (hC.kp hj1267).2
              have hDo := hD
              refine va_put (D := (dC, dI)) (ci := 3) (v := .int v1346) (ty := .int) (C := RX3) (T := TX3) (N := 6) hx hb hts hi3 tyX3 tyX3_ok nmX3 hown hK hP hD hS j1347 hj1347 rfl 5 (by decide) (hts (.fieldLink RX5 126 "TallyLogs$Producer" "left" "I") (by decide +kernel)) (fun _ h9 => h9) rfl (by decide +kernel) rfl rfl (Nat.le_of_ble_eq_true rfl) dX5_settle_65 (fun H locs hP hD hS => ?_)
              have hP := Eq.mp (congrArg (fun w => va_P (dC, dI) vwCl w H) (pP_3_5 (x := v1346) hDo (hC.kp hj1267).1 (hC.kp hj1267).2 hj1347)) hP
              obtain ⟨I1348, eI1348⟩ : ∃ z, z = p2 I1338 (v (4 + j1267)) 5 v1346 := ⟨_, rfl⟩
              rw [← eI1348] at hP
              have hR : RS v I Q J I1348 Q1338 J1338 := by rw [eI1348]; exact hR.pi hC (by rw [(hC.kp hj1267).2]; decide)
              have hC : CT v L K N T I1348 Q1338 := by rw [eI1348]; exact hC.pi (by rw [(hC.kp hj1267).2]; decide)
              have hD : va_D A (va_pl L (pF cy K N T I1348 Q1338 J1338)) := pD hDo
              refine lv_iinc (v := 3) (lv' := [(3, .int 3), (2, .ref (v (4 + j1267))), (0, .ref (v 0)), (1, .int xk)]) hx hb dX5_settle_68 hl (k := 0) rfl (by decide) (by decide) rfl (fun ls hl => ?_)
              refine lv_goto (tgt := 25) hx hb dX5_settle_71 (by decide) ?_
              refine W.widen (k := 3) (n := 24) (by omega) (by omega) ?_
              exact hU1271_3 _ _ _ _ _ _ _ _ _ hC hR hXs hP hD hS (lv_sub hl [0, 1, 2, 3] rfl)
      have hU1271_1 : ∀ (Lz : List Nat) (Kz : Nat → Nat) (Tz : Nat → Nat → Nat) (Iz : Nat → Nat → Int32) (Qy : Nat → Nat → Option Nat) (Jz : Nat → Nat → Int32) (H : Heap) (locs : List Loc) (ls : Array Slot), CT v Lz Kz N Tz Iz Qy → RS v I Q J Iz Qy Jz → PX L K N T Lz Kz N Tz → va_P (dC, dI) vwCl (va_pl Lz (pF cy Kz N Tz Iz Qy Jz)) H → va_D A (va_pl Lz (pF cy Kz N Tz Iz Qy Jz)) → va_S A s.heap H locs → lv_has ls 4 [(3, .int 1), (2, .ref (v (4 + j1267))), (0, .ref (v 0)), (1, .int xk)] → W p l e (headSpec wsX5_settle ({ frames := 4, cells := 4, slots := 32, locals := 88 })).room s m ([.ref (v 0), .int xk] : List Value).toArray below meth c H locs 1 8 Qz (F0 m 25 ls []) := by
        intro L K T I1349 Q1349 J1349 H locs ls hC hR hXe hP hD hS hl
        have hX := hX.trans hXe
        have hXs := hXe
        refine lv_iload_n hx hb dX5_settle_25 rfl (lv_at hl 0 rfl) ?_
        refine lv_iconst (v := 4) hx hb dX5_settle_26 (by decide) ?_
        refine lv_icmp_ge (tgt := 74) hx hb dX5_settle_27 (by decide) (fun c1350 => ?_) (fun c1350 => ?_)
        · exact absurd c1350 (by decide)
        refine lv_aload_n hx hb dX5_settle_30 rfl (lv_at hl 1 rfl) ?_
        obtain ⟨j1351, hj1351⟩ := pG_3 (cy := cy) (N := N) (T := T) (I := I1349) (Q := Q1349) (J := J1349) (hC.kp hj1267).1 (hC.kp hj1267).2
        refine va_get (D := (dC, dI)) (ci := 3) (v := .int (I1349 (v (4 + j1267)) 5)) (C := RX3) (T := TX3) (N := 6) hx hb hts hi3 hown hK hP j1351 hj1351 rfl 5 (by decide) (hts (.fieldLink RX5 126 "TallyLogs$Producer" "left" "I") (by decide +kernel)) (fun _ h9 => h9) rfl dX5_settle_31 ?_
        refine lv_topi (fun x1352 ex1352 => ?_)
        refine lv_iload_n hx hb dX5_settle_34 rfl (lv_at hl 0 rfl) ?_
        refine vp_callSi (W.runS (As := [.int x1352, .int 1]) (rest := []) ⟨hx, hb, hml, hown, hts⟩ (c_X5_contains l x1352 1) (va_cwS 2 hts gX5_settle_X5_contains rfl rfl rfl (by decide +kernel) ⟨Nat.le_of_ble_eq_true rfl, Nat.le_of_ble_eq_true rfl⟩) preEq rfl rfl hl.1 rfl (lv_room (Nat.le_of_ble_eq_true rfl)) dX5_settle_35 ⟨Nat.le_of_ble_eq_true rfl, Nat.le_of_ble_eq_true rfl⟩) (fun r1353 hr1353 => ?_)
        refine lv_if_eq (tgt := 68) hx hb dX5_settle_38 (by decide) (fun c1354 => ?_) (fun c1354 => ?_)
        · refine lv_iinc (v := 2) (lv' := [(3, .int 2), (2, .ref (v (4 + j1267))), (0, .ref (v 0)), (1, .int xk)]) hx hb dX5_settle_68 hl (k := 0) rfl (by decide) (by decide) rfl (fun ls hl => ?_)
          refine lv_goto (tgt := 25) hx hb dX5_settle_71 (by decide) ?_
          refine W.widen (k := 2) (n := 16) (by omega) (by omega) ?_
          exact hU1271_2 _ _ _ _ _ _ _ _ _ hC hR hXs hP hD hS (lv_sub hl [0, 1, 2, 3] rfl)
        · refine lv_aload_n hx hb dX5_settle_41 rfl (lv_at hl 2 rfl) ?_
          obtain ⟨j1355, hj1355⟩ := pG_5 (cy := cy) (N := N) (T := T) (I := I1349) (Q := Q1349) (J := J1349) (hC.at 0 (by decide)) (hC.k 0 (by decide) rfl)
          refine va_get (D := (dC, dI)) (ci := 5) (v := .ref (T (v 0) 0)) (C := RX5) (T := TX5) (N := 6) hx hb hts hi5 hown hK hP j1355 hj1355 rfl 0 (by decide) (hts (.fieldLink RX5 11 "TallyLogs" "partitions" "[LTallyLogs$Partition;") (by decide +kernel)) (fun _ h9 => h9) rfl dX5_settle_42 ?_
          refine W.eq (g2 := F0 m 45 ls [.ref (v 1)]) (by rw [hC.1.2.2.1.1]) ?_
          refine lv_iload_n hx hb dX5_settle_45 rfl (lv_at hl 0 rfl) ?_
          obtain ⟨j1357, hj1357⟩ := pG_10 (cy := cy) (N := N) (T := T) (I := I1349) (Q := Q1349) (J := J1349) (hC.at 1 (by decide)) (hC.k 1 (by decide) rfl)
          refine va_aldq hx hb hK hP j1357 3 hj1357 rfl (by unfold vp_in; decide) dX5_settle_46 ?_
          cases hq1359 : Q1349 (v 1) (1 : Int32).toNatClampNeg with
          | none =>
            refine W.eq (g2 := F0 m 47 ls [.null]) rfl ?_
            refine lv_aload_n hx hb dX5_settle_47 rfl (lv_at hl 1 rfl) ?_
            have hFc := pfree hD hS hA
            refine va_calli (va_runS (As := [.null, .ref (v (4 + j1267))]) (rest := []) ⟨hx, hb, hml, hown, hts⟩ (c_X5_markEnd0 l dC dI cy v L K N T I1349 Q1349 J1349 H.size (v (4 + j1267)) hC) (va_cwS 2 hts gX5_settle_X5_markEnd rfl rfl rfl (by decide +kernel) ⟨Nat.le_of_ble_eq_true rfl, Nat.le_of_ble_eq_true rfl⟩) ⟨pw_blind, fun U hU hW => ⟨rfl, pw_pre hP hK hN hD hU hW⟩⟩ rfl rfl hl.1 rfl (lv_room (Nat.le_of_ble_eq_true rfl)) dX5_settle_48 ⟨Nat.le_of_ble_eq_true rfl, Nat.le_of_ble_eq_true rfl⟩) hS (fun q _ h => hFc q h) hFc (fun r1361 d9 t H1 locs ht hvm hw hB hz1 hk1 hS => ?_)
            obtain ⟨L, K, T, I1360, Q1360, J1360⟩ := d9
            obtain ⟨⟨hC, hR1, hXe⟩, hr1361⟩ := hw
            obtain ⟨hP, hK1, hD1⟩ := hB
            rw [ht] at hP
            have hD := hD1.weaken (fun _ _ _ h => hFc _ h)
            have hR := hR.trans hR1
            generalize H1 = H at hP hS ⊢
            have hP : va_P (dC, dI) vwCl (va_pl L (pF cy K N T I1360 Q1360 J1360)) H := hP
            have hD : va_D A (va_pl L (pF cy K N T I1360 Q1360 J1360)) := hD
            have hC : CT v L K N T I1360 Q1360 := hC
            have hR : RS v I Q J I1360 Q1360 J1360 := hR
            have hX := hX.trans hXe
            have hXs := hXs.trans hXe
            refine W.widen (k := 2) (n := 16) (by omega) (by omega) ?_
            refine lv_if_eq (tgt := 68) hx hb dX5_settle_51 (by decide) (fun c1362 => ?_) (fun c1362 => ?_)
            · refine lv_iinc (v := 2) (lv' := [(3, .int 2), (2, .ref (v (4 + j1267))), (0, .ref (v 0)), (1, .int xk)]) hx hb dX5_settle_68 hl (k := 0) rfl (by decide) (by decide) rfl (fun ls hl => ?_)
              refine lv_goto (tgt := 25) hx hb dX5_settle_71 (by decide) ?_
              refine W.widen (k := 2) (n := 16) (by omega) (by omega) ?_
              exact hU1271_2 _ _ _ _ _ _ _ _ _ hC hR hXs hP hD hS (lv_sub hl [0, 1, 2, 3] rfl)
            · refine lv_aload_n hx hb dX5_settle_54 rfl (lv_at hl 1 rfl) ?_
              refine lv_dup hx hb dX5_settle_55 rfl ?_
              obtain ⟨j1363, hj1363⟩ := pG_3 (cy := cy) (N := N) (T := T) (I := I1360) (Q := Q1360) (J := J1360) (hC.kp hj1267).1 (hC.kp hj1267).2
              refine va_get (D := (dC, dI)) (ci := 3) (v := .int (I1360 (v (4 + j1267)) 5)) (C := RX3) (T := TX3) (N := 6) hx hb hts hi3 hown hK hP j1363 hj1363 rfl 5 (by decide) (hts (.fieldLink RX5 126 "TallyLogs$Producer" "left" "I") (by decide +kernel)) (fun _ h9 => h9) rfl dX5_settle_56 ?_
              refine lv_topi (fun x1364 ex1364 => ?_)
              refine lv_iconst (v := 1) hx hb dX5_settle_59 (by decide) ?_
              refine lv_iload_n hx hb dX5_settle_60 rfl (lv_at hl 0 rfl) ?_
              refine lv_ishl hx hb dX5_settle_61 ?_
              refine lv_topi (fun v1365 ev1365 => ?_)
              obtain rfl : v1365 = (2 : Int32) := ev1365.trans (by decide)
              refine lv_iconst (v := (-1)) hx hb dX5_settle_62 (by decide) ?_
              refine lv_ixor hx hb dX5_settle_63 ?_
              refine lv_topi (fun v1366 ev1366 => ?_)
              obtain rfl : v1366 = ((-3) : Int32) := ev1366.trans (by decide)
              refine lv_iand hx hb dX5_settle_64 ?_
              refine lv_topi (fun v1367 ev1367 => ?_)
              obtain ⟨j1368, hj1368⟩ := pG_3 (cy := cy) (N := N) (T := T) (I := I1360) (Q := Q1360) (J := J1360) (hC.kp hj1267).1 (hC.kp hj1267).2
              have hDo := hD
              refine va_put (D := (dC, dI)) (ci := 3) (v := .int v1367) (ty := .int) (C := RX3) (T := TX3) (N := 6) hx hb hts hi3 tyX3 tyX3_ok nmX3 hown hK hP hD hS j1368 hj1368 rfl 5 (by decide) (hts (.fieldLink RX5 126 "TallyLogs$Producer" "left" "I") (by decide +kernel)) (fun _ h9 => h9) rfl (by decide +kernel) rfl rfl (Nat.le_of_ble_eq_true rfl) dX5_settle_65 (fun H locs hP hD hS => ?_)
              have hP := Eq.mp (congrArg (fun w => va_P (dC, dI) vwCl w H) (pP_3_5 (x := v1367) hDo (hC.kp hj1267).1 (hC.kp hj1267).2 hj1368)) hP
              obtain ⟨I1369, eI1369⟩ : ∃ z, z = p2 I1360 (v (4 + j1267)) 5 v1367 := ⟨_, rfl⟩
              rw [← eI1369] at hP
              have hR : RS v I Q J I1369 Q1360 J1360 := by rw [eI1369]; exact hR.pi hC (by rw [(hC.kp hj1267).2]; decide)
              have hC : CT v L K N T I1369 Q1360 := by rw [eI1369]; exact hC.pi (by rw [(hC.kp hj1267).2]; decide)
              have hD : va_D A (va_pl L (pF cy K N T I1369 Q1360 J1360)) := pD hDo
              refine lv_iinc (v := 2) (lv' := [(3, .int 2), (2, .ref (v (4 + j1267))), (0, .ref (v 0)), (1, .int xk)]) hx hb dX5_settle_68 hl (k := 0) rfl (by decide) (by decide) rfl (fun ls hl => ?_)
              refine lv_goto (tgt := 25) hx hb dX5_settle_71 (by decide) ?_
              refine W.widen (k := 2) (n := 16) (by omega) (by omega) ?_
              exact hU1271_2 _ _ _ _ _ _ _ _ _ hC hR hXs hP hD hS (lv_sub hl [0, 1, 2, 3] rfl)
          | some b1358 =>
            have hTb1358 := (hC.2.2.2.1 (1 : Int32).toNatClampNeg b1358 (vp_lt (by unfold vp_in; decide)) hq1359)
            refine W.eq (g2 := F0 m 47 ls [.ref b1358]) rfl ?_
            refine lv_aload_n hx hb dX5_settle_47 rfl (lv_at hl 1 rfl) ?_
            have hFc := pfree hD hS hA
            refine va_calli (va_runS (As := [.ref b1358, .ref (v (4 + j1267))]) (rest := []) ⟨hx, hb, hml, hown, hts⟩ (c_X5_markEnd l dC dI cy v L K N T I1349 Q1349 J1349 H.size b1358 (v (4 + j1267)) hC hTb1358.1 hTb1358.2 (hC.kp hj1267).1 (hC.kp hj1267).2) (va_cwS 2 hts gX5_settle_X5_markEnd rfl rfl rfl (by decide +kernel) ⟨Nat.le_of_ble_eq_true rfl, Nat.le_of_ble_eq_true rfl⟩) ⟨pw_blind, fun U hU hW => ⟨rfl, pw_pre hP hK hN hD hU hW⟩⟩ rfl rfl hl.1 rfl (lv_room (Nat.le_of_ble_eq_true rfl)) dX5_settle_48 ⟨Nat.le_of_ble_eq_true rfl, Nat.le_of_ble_eq_true rfl⟩) hS (fun q _ h => hFc q h) hFc (fun r1371 d9 t H1 locs ht hvm hw hB hz1 hk1 hS => ?_)
            obtain ⟨L, K, T, I1370, Q1370, J1370⟩ := d9
            obtain ⟨⟨hC, hR1, hXe⟩, hr1371⟩ := hw
            obtain ⟨hP, hK1, hD1⟩ := hB
            rw [ht] at hP
            have hD := hD1.weaken (fun _ _ _ h => hFc _ h)
            have hR := hR.trans hR1
            generalize H1 = H at hP hS ⊢
            have hP : va_P (dC, dI) vwCl (va_pl L (pF cy K N T I1370 Q1370 J1370)) H := hP
            have hD : va_D A (va_pl L (pF cy K N T I1370 Q1370 J1370)) := hD
            have hC : CT v L K N T I1370 Q1370 := hC
            have hR : RS v I Q J I1370 Q1370 J1370 := hR
            have hX := hX.trans hXe
            have hXs := hXs.trans hXe
            have hLz1372 : b1358 ∈ L := (hXe _ hTb1358.1).1
            have hkz1372 : K b1358 = 2 := (hXe _ hTb1358.1).2.1.trans hTb1358.2
            refine W.widen (k := 2) (n := 16) (by omega) (by omega) ?_
            refine lv_if_eq (tgt := 68) hx hb dX5_settle_51 (by decide) (fun c1373 => ?_) (fun c1373 => ?_)
            · refine lv_iinc (v := 2) (lv' := [(3, .int 2), (2, .ref (v (4 + j1267))), (0, .ref (v 0)), (1, .int xk)]) hx hb dX5_settle_68 hl (k := 0) rfl (by decide) (by decide) rfl (fun ls hl => ?_)
              refine lv_goto (tgt := 25) hx hb dX5_settle_71 (by decide) ?_
              refine W.widen (k := 2) (n := 16) (by omega) (by omega) ?_
              exact hU1271_2 _ _ _ _ _ _ _ _ _ hC hR hXs hP hD hS (lv_sub hl [0, 1, 2, 3] rfl)
            · refine lv_aload_n hx hb dX5_settle_54 rfl (lv_at hl 1 rfl) ?_
              refine lv_dup hx hb dX5_settle_55 rfl ?_
              obtain ⟨j1374, hj1374⟩ := pG_3 (cy := cy) (N := N) (T := T) (I := I1370) (Q := Q1370) (J := J1370) (hC.kp hj1267).1 (hC.kp hj1267).2
              refine va_get (D := (dC, dI)) (ci := 3) (v := .int (I1370 (v (4 + j1267)) 5)) (C := RX3) (T := TX3) (N := 6) hx hb hts hi3 hown hK hP j1374 hj1374 rfl 5 (by decide) (hts (.fieldLink RX5 126 "TallyLogs$Producer" "left" "I") (by decide +kernel)) (fun _ h9 => h9) rfl dX5_settle_56 ?_
              refine lv_topi (fun x1375 ex1375 => ?_)
              refine lv_iconst (v := 1) hx hb dX5_settle_59 (by decide) ?_
              refine lv_iload_n hx hb dX5_settle_60 rfl (lv_at hl 0 rfl) ?_
              refine lv_ishl hx hb dX5_settle_61 ?_
              refine lv_topi (fun v1376 ev1376 => ?_)
              obtain rfl : v1376 = (2 : Int32) := ev1376.trans (by decide)
              refine lv_iconst (v := (-1)) hx hb dX5_settle_62 (by decide) ?_
              refine lv_ixor hx hb dX5_settle_63 ?_
              refine lv_topi (fun v1377 ev1377 => ?_)
              obtain rfl : v1377 = ((-3) : Int32) := ev1377.trans (by decide)
              refine lv_iand hx hb dX5_settle_64 ?_
              refine lv_topi (fun v1378 ev1378 => ?_)
              obtain ⟨j1379, hj1379⟩ := pG_3 (cy := cy) (N := N) (T := T) (I := I1370) (Q := Q1370) (J := J1370) (hC.kp hj1267).1 (hC.kp hj1267).2
              have hDo := hD
              refine va_put (D := (dC, dI)) (ci := 3) (v := .int v1378) (ty := .int) (C := RX3) (T := TX3) (N := 6) hx hb hts hi3 tyX3 tyX3_ok nmX3 hown hK hP hD hS j1379 hj1379 rfl 5 (by decide) (hts (.fieldLink RX5 126 "TallyLogs$Producer" "left" "I") (by decide +kernel)) (fun _ h9 => h9) rfl (by decide +kernel) rfl rfl (Nat.le_of_ble_eq_true rfl) dX5_settle_65 (fun H locs hP hD hS => ?_)
              have hP := Eq.mp (congrArg (fun w => va_P (dC, dI) vwCl w H) (pP_3_5 (x := v1378) hDo (hC.kp hj1267).1 (hC.kp hj1267).2 hj1379)) hP
              obtain ⟨I1380, eI1380⟩ : ∃ z, z = p2 I1370 (v (4 + j1267)) 5 v1378 := ⟨_, rfl⟩
              rw [← eI1380] at hP
              have hR : RS v I Q J I1380 Q1370 J1370 := by rw [eI1380]; exact hR.pi hC (by rw [(hC.kp hj1267).2]; decide)
              have hC : CT v L K N T I1380 Q1370 := by rw [eI1380]; exact hC.pi (by rw [(hC.kp hj1267).2]; decide)
              have hD : va_D A (va_pl L (pF cy K N T I1380 Q1370 J1370)) := pD hDo
              refine lv_iinc (v := 2) (lv' := [(3, .int 2), (2, .ref (v (4 + j1267))), (0, .ref (v 0)), (1, .int xk)]) hx hb dX5_settle_68 hl (k := 0) rfl (by decide) (by decide) rfl (fun ls hl => ?_)
              refine lv_goto (tgt := 25) hx hb dX5_settle_71 (by decide) ?_
              refine W.widen (k := 2) (n := 16) (by omega) (by omega) ?_
              exact hU1271_2 _ _ _ _ _ _ _ _ _ hC hR hXs hP hD hS (lv_sub hl [0, 1, 2, 3] rfl)
      have hU1271_0 : ∀ (Lz : List Nat) (Kz : Nat → Nat) (Tz : Nat → Nat → Nat) (Iz : Nat → Nat → Int32) (Qy : Nat → Nat → Option Nat) (Jz : Nat → Nat → Int32) (H : Heap) (locs : List Loc) (ls : Array Slot), CT v Lz Kz N Tz Iz Qy → RS v I Q J Iz Qy Jz → PX L K N T Lz Kz N Tz → va_P (dC, dI) vwCl (va_pl Lz (pF cy Kz N Tz Iz Qy Jz)) H → va_D A (va_pl Lz (pF cy Kz N Tz Iz Qy Jz)) → va_S A s.heap H locs → lv_has ls 4 [(3, .int 0), (2, .ref (v (4 + j1267))), (0, .ref (v 0)), (1, .int xk)] → W p l e (headSpec wsX5_settle ({ frames := 4, cells := 4, slots := 32, locals := 88 })).room s m ([.ref (v 0), .int xk] : List Value).toArray below meth c H locs 0 0 Qz (F0 m 25 ls []) := by
        intro L K T I1381 Q1381 J1381 H locs ls hC hR hXe hP hD hS hl
        have hX := hX.trans hXe
        have hXs := hXe
        refine lv_iload_n hx hb dX5_settle_25 rfl (lv_at hl 0 rfl) ?_
        refine lv_iconst (v := 4) hx hb dX5_settle_26 (by decide) ?_
        refine lv_icmp_ge (tgt := 74) hx hb dX5_settle_27 (by decide) (fun c1382 => ?_) (fun c1382 => ?_)
        · exact absurd c1382 (by decide)
        refine lv_aload_n hx hb dX5_settle_30 rfl (lv_at hl 1 rfl) ?_
        obtain ⟨j1383, hj1383⟩ := pG_3 (cy := cy) (N := N) (T := T) (I := I1381) (Q := Q1381) (J := J1381) (hC.kp hj1267).1 (hC.kp hj1267).2
        refine va_get (D := (dC, dI)) (ci := 3) (v := .int (I1381 (v (4 + j1267)) 5)) (C := RX3) (T := TX3) (N := 6) hx hb hts hi3 hown hK hP j1383 hj1383 rfl 5 (by decide) (hts (.fieldLink RX5 126 "TallyLogs$Producer" "left" "I") (by decide +kernel)) (fun _ h9 => h9) rfl dX5_settle_31 ?_
        refine lv_topi (fun x1384 ex1384 => ?_)
        refine lv_iload_n hx hb dX5_settle_34 rfl (lv_at hl 0 rfl) ?_
        refine vp_callSi (W.runS (As := [.int x1384, .int 0]) (rest := []) ⟨hx, hb, hml, hown, hts⟩ (c_X5_contains l x1384 0) (va_cwS 2 hts gX5_settle_X5_contains rfl rfl rfl (by decide +kernel) ⟨Nat.le_of_ble_eq_true rfl, Nat.le_of_ble_eq_true rfl⟩) preEq rfl rfl hl.1 rfl (lv_room (Nat.le_of_ble_eq_true rfl)) dX5_settle_35 ⟨Nat.le_of_ble_eq_true rfl, Nat.le_of_ble_eq_true rfl⟩) (fun r1385 hr1385 => ?_)
        refine lv_if_eq (tgt := 68) hx hb dX5_settle_38 (by decide) (fun c1386 => ?_) (fun c1386 => ?_)
        · refine lv_iinc (v := 1) (lv' := [(3, .int 1), (2, .ref (v (4 + j1267))), (0, .ref (v 0)), (1, .int xk)]) hx hb dX5_settle_68 hl (k := 0) rfl (by decide) (by decide) rfl (fun ls hl => ?_)
          refine lv_goto (tgt := 25) hx hb dX5_settle_71 (by decide) ?_
          refine W.widen (k := 1) (n := 8) (by omega) (by omega) ?_
          exact hU1271_1 _ _ _ _ _ _ _ _ _ hC hR hXs hP hD hS (lv_sub hl [0, 1, 2, 3] rfl)
        · refine lv_aload_n hx hb dX5_settle_41 rfl (lv_at hl 2 rfl) ?_
          obtain ⟨j1387, hj1387⟩ := pG_5 (cy := cy) (N := N) (T := T) (I := I1381) (Q := Q1381) (J := J1381) (hC.at 0 (by decide)) (hC.k 0 (by decide) rfl)
          refine va_get (D := (dC, dI)) (ci := 5) (v := .ref (T (v 0) 0)) (C := RX5) (T := TX5) (N := 6) hx hb hts hi5 hown hK hP j1387 hj1387 rfl 0 (by decide) (hts (.fieldLink RX5 11 "TallyLogs" "partitions" "[LTallyLogs$Partition;") (by decide +kernel)) (fun _ h9 => h9) rfl dX5_settle_42 ?_
          refine W.eq (g2 := F0 m 45 ls [.ref (v 1)]) (by rw [hC.1.2.2.1.1]) ?_
          refine lv_iload_n hx hb dX5_settle_45 rfl (lv_at hl 0 rfl) ?_
          obtain ⟨j1389, hj1389⟩ := pG_10 (cy := cy) (N := N) (T := T) (I := I1381) (Q := Q1381) (J := J1381) (hC.at 1 (by decide)) (hC.k 1 (by decide) rfl)
          refine va_aldq hx hb hK hP j1389 3 hj1389 rfl (by unfold vp_in; decide) dX5_settle_46 ?_
          cases hq1391 : Q1381 (v 1) (0 : Int32).toNatClampNeg with
          | none =>
            refine W.eq (g2 := F0 m 47 ls [.null]) rfl ?_
            refine lv_aload_n hx hb dX5_settle_47 rfl (lv_at hl 1 rfl) ?_
            have hFc := pfree hD hS hA
            refine va_calli (va_runS (As := [.null, .ref (v (4 + j1267))]) (rest := []) ⟨hx, hb, hml, hown, hts⟩ (c_X5_markEnd0 l dC dI cy v L K N T I1381 Q1381 J1381 H.size (v (4 + j1267)) hC) (va_cwS 2 hts gX5_settle_X5_markEnd rfl rfl rfl (by decide +kernel) ⟨Nat.le_of_ble_eq_true rfl, Nat.le_of_ble_eq_true rfl⟩) ⟨pw_blind, fun U hU hW => ⟨rfl, pw_pre hP hK hN hD hU hW⟩⟩ rfl rfl hl.1 rfl (lv_room (Nat.le_of_ble_eq_true rfl)) dX5_settle_48 ⟨Nat.le_of_ble_eq_true rfl, Nat.le_of_ble_eq_true rfl⟩) hS (fun q _ h => hFc q h) hFc (fun r1393 d9 t H1 locs ht hvm hw hB hz1 hk1 hS => ?_)
            obtain ⟨L, K, T, I1392, Q1392, J1392⟩ := d9
            obtain ⟨⟨hC, hR1, hXe⟩, hr1393⟩ := hw
            obtain ⟨hP, hK1, hD1⟩ := hB
            rw [ht] at hP
            have hD := hD1.weaken (fun _ _ _ h => hFc _ h)
            have hR := hR.trans hR1
            generalize H1 = H at hP hS ⊢
            have hP : va_P (dC, dI) vwCl (va_pl L (pF cy K N T I1392 Q1392 J1392)) H := hP
            have hD : va_D A (va_pl L (pF cy K N T I1392 Q1392 J1392)) := hD
            have hC : CT v L K N T I1392 Q1392 := hC
            have hR : RS v I Q J I1392 Q1392 J1392 := hR
            have hX := hX.trans hXe
            have hXs := hXs.trans hXe
            refine W.widen (k := 1) (n := 8) (by omega) (by omega) ?_
            refine lv_if_eq (tgt := 68) hx hb dX5_settle_51 (by decide) (fun c1394 => ?_) (fun c1394 => ?_)
            · refine lv_iinc (v := 1) (lv' := [(3, .int 1), (2, .ref (v (4 + j1267))), (0, .ref (v 0)), (1, .int xk)]) hx hb dX5_settle_68 hl (k := 0) rfl (by decide) (by decide) rfl (fun ls hl => ?_)
              refine lv_goto (tgt := 25) hx hb dX5_settle_71 (by decide) ?_
              refine W.widen (k := 1) (n := 8) (by omega) (by omega) ?_
              exact hU1271_1 _ _ _ _ _ _ _ _ _ hC hR hXs hP hD hS (lv_sub hl [0, 1, 2, 3] rfl)
            · refine lv_aload_n hx hb dX5_settle_54 rfl (lv_at hl 1 rfl) ?_
              refine lv_dup hx hb dX5_settle_55 rfl ?_
              obtain ⟨j1395, hj1395⟩ := pG_3 (cy := cy) (N := N) (T := T) (I := I1392) (Q := Q1392) (J := J1392) (hC.kp hj1267).1 (hC.kp hj1267).2
              refine va_get (D := (dC, dI)) (ci := 3) (v := .int (I1392 (v (4 + j1267)) 5)) (C := RX3) (T := TX3) (N := 6) hx hb hts hi3 hown hK hP j1395 hj1395 rfl 5 (by decide) (hts (.fieldLink RX5 126 "TallyLogs$Producer" "left" "I") (by decide +kernel)) (fun _ h9 => h9) rfl dX5_settle_56 ?_
              refine lv_topi (fun x1396 ex1396 => ?_)
              refine lv_iconst (v := 1) hx hb dX5_settle_59 (by decide) ?_
              refine lv_iload_n hx hb dX5_settle_60 rfl (lv_at hl 0 rfl) ?_
              refine lv_ishl hx hb dX5_settle_61 ?_
              refine lv_topi (fun v1397 ev1397 => ?_)
              obtain rfl : v1397 = (1 : Int32) := ev1397.trans (by decide)
              refine lv_iconst (v := (-1)) hx hb dX5_settle_62 (by decide) ?_
              refine lv_ixor hx hb dX5_settle_63 ?_
              refine lv_topi (fun v1398 ev1398 => ?_)
              obtain rfl : v1398 = ((-2) : Int32) := ev1398.trans (by decide)
              refine lv_iand hx hb dX5_settle_64 ?_
              refine lv_topi (fun v1399 ev1399 => ?_)
              obtain ⟨j1400, hj1400⟩ := pG_3 (cy := cy) (N := N) (T := T) (I := I1392) (Q := Q1392) (J := J1392) (hC.kp hj1267).1 (hC.kp hj1267).2
              have hDo := hD
              refine va_put (D := (dC, dI)) (ci := 3) (v := .int v1399) (ty := .int) (C := RX3) (T := TX3) (N := 6) hx hb hts hi3 tyX3 tyX3_ok nmX3 hown hK hP hD hS j1400 hj1400 rfl 5 (by decide) (hts (.fieldLink RX5 126 "TallyLogs$Producer" "left" "I") (by decide +kernel)) (fun _ h9 => h9) rfl (by decide +kernel) rfl rfl (Nat.le_of_ble_eq_true rfl) dX5_settle_65 (fun H locs hP hD hS => ?_)
              have hP := Eq.mp (congrArg (fun w => va_P (dC, dI) vwCl w H) (pP_3_5 (x := v1399) hDo (hC.kp hj1267).1 (hC.kp hj1267).2 hj1400)) hP
              obtain ⟨I1401, eI1401⟩ : ∃ z, z = p2 I1392 (v (4 + j1267)) 5 v1399 := ⟨_, rfl⟩
              rw [← eI1401] at hP
              have hR : RS v I Q J I1401 Q1392 J1392 := by rw [eI1401]; exact hR.pi hC (by rw [(hC.kp hj1267).2]; decide)
              have hC : CT v L K N T I1401 Q1392 := by rw [eI1401]; exact hC.pi (by rw [(hC.kp hj1267).2]; decide)
              have hD : va_D A (va_pl L (pF cy K N T I1401 Q1392 J1392)) := pD hDo
              refine lv_iinc (v := 1) (lv' := [(3, .int 1), (2, .ref (v (4 + j1267))), (0, .ref (v 0)), (1, .int xk)]) hx hb dX5_settle_68 hl (k := 0) rfl (by decide) (by decide) rfl (fun ls hl => ?_)
              refine lv_goto (tgt := 25) hx hb dX5_settle_71 (by decide) ?_
              refine W.widen (k := 1) (n := 8) (by omega) (by omega) ?_
              exact hU1271_1 _ _ _ _ _ _ _ _ _ hC hR hXs hP hD hS (lv_sub hl [0, 1, 2, 3] rfl)
          | some b1390 =>
            have hTb1390 := (hC.2.2.2.1 (0 : Int32).toNatClampNeg b1390 (vp_lt (by unfold vp_in; decide)) hq1391)
            refine W.eq (g2 := F0 m 47 ls [.ref b1390]) rfl ?_
            refine lv_aload_n hx hb dX5_settle_47 rfl (lv_at hl 1 rfl) ?_
            have hFc := pfree hD hS hA
            refine va_calli (va_runS (As := [.ref b1390, .ref (v (4 + j1267))]) (rest := []) ⟨hx, hb, hml, hown, hts⟩ (c_X5_markEnd l dC dI cy v L K N T I1381 Q1381 J1381 H.size b1390 (v (4 + j1267)) hC hTb1390.1 hTb1390.2 (hC.kp hj1267).1 (hC.kp hj1267).2) (va_cwS 2 hts gX5_settle_X5_markEnd rfl rfl rfl (by decide +kernel) ⟨Nat.le_of_ble_eq_true rfl, Nat.le_of_ble_eq_true rfl⟩) ⟨pw_blind, fun U hU hW => ⟨rfl, pw_pre hP hK hN hD hU hW⟩⟩ rfl rfl hl.1 rfl (lv_room (Nat.le_of_ble_eq_true rfl)) dX5_settle_48 ⟨Nat.le_of_ble_eq_true rfl, Nat.le_of_ble_eq_true rfl⟩) hS (fun q _ h => hFc q h) hFc (fun r1403 d9 t H1 locs ht hvm hw hB hz1 hk1 hS => ?_)
            obtain ⟨L, K, T, I1402, Q1402, J1402⟩ := d9
            obtain ⟨⟨hC, hR1, hXe⟩, hr1403⟩ := hw
            obtain ⟨hP, hK1, hD1⟩ := hB
            rw [ht] at hP
            have hD := hD1.weaken (fun _ _ _ h => hFc _ h)
            have hR := hR.trans hR1
            generalize H1 = H at hP hS ⊢
            have hP : va_P (dC, dI) vwCl (va_pl L (pF cy K N T I1402 Q1402 J1402)) H := hP
            have hD : va_D A (va_pl L (pF cy K N T I1402 Q1402 J1402)) := hD
            have hC : CT v L K N T I1402 Q1402 := hC
            have hR : RS v I Q J I1402 Q1402 J1402 := hR
            have hX := hX.trans hXe
            have hXs := hXs.trans hXe
            have hLz1404 : b1390 ∈ L := (hXe _ hTb1390.1).1
            have hkz1404 : K b1390 = 2 := (hXe _ hTb1390.1).2.1.trans hTb1390.2
            refine W.widen (k := 1) (n := 8) (by omega) (by omega) ?_
            refine lv_if_eq (tgt := 68) hx hb dX5_settle_51 (by decide) (fun c1405 => ?_) (fun c1405 => ?_)
            · refine lv_iinc (v := 1) (lv' := [(3, .int 1), (2, .ref (v (4 + j1267))), (0, .ref (v 0)), (1, .int xk)]) hx hb dX5_settle_68 hl (k := 0) rfl (by decide) (by decide) rfl (fun ls hl => ?_)
              refine lv_goto (tgt := 25) hx hb dX5_settle_71 (by decide) ?_
              refine W.widen (k := 1) (n := 8) (by omega) (by omega) ?_
              exact hU1271_1 _ _ _ _ _ _ _ _ _ hC hR hXs hP hD hS (lv_sub hl [0, 1, 2, 3] rfl)
            · refine lv_aload_n hx hb dX5_settle_54 rfl (lv_at hl 1 rfl) ?_
              refine lv_dup hx hb dX5_settle_55 rfl ?_
              obtain ⟨j1406, hj1406⟩ := pG_3 (cy := cy) (N := N) (T := T) (I := I1402) (Q := Q1402) (J := J1402) (hC.kp hj1267).1 (hC.kp hj1267).2
              refine va_get (D := (dC, dI)) (ci := 3) (v := .int (I1402 (v (4 + j1267)) 5)) (C := RX3) (T := TX3) (N := 6) hx hb hts hi3 hown hK hP j1406 hj1406 rfl 5 (by decide) (hts (.fieldLink RX5 126 "TallyLogs$Producer" "left" "I") (by decide +kernel)) (fun _ h9 => h9) rfl dX5_settle_56 ?_
              refine lv_topi (fun x1407 ex1407 => ?_)
              refine lv_iconst (v := 1) hx hb dX5_settle_59 (by decide) ?_
              refine lv_iload_n hx hb dX5_settle_60 rfl (lv_at hl 0 rfl) ?_
              refine lv_ishl hx hb dX5_settle_61 ?_
              refine lv_topi (fun v1408 ev1408 => ?_)
              obtain rfl : v1408 = (1 : Int32) := ev1408.trans (by decide)
              refine lv_iconst (v := (-1)) hx hb dX5_settle_62 (by decide) ?_
              refine lv_ixor hx hb dX5_settle_63 ?_
              refine lv_topi (fun v1409 ev1409 => ?_)
              obtain rfl : v1409 = ((-2) : Int32) := ev1409.trans (by decide)
              refine lv_iand hx hb dX5_settle_64 ?_
              refine lv_topi (fun v1410 ev1410 => ?_)
              obtain ⟨j1411, hj1411⟩ := pG_3 (cy := cy) (N := N) (T := T) (I := I1402) (Q := Q1402) (J := J1402) (hC.kp hj1267).1 (hC.kp hj1267).2
              have hDo := hD
              refine va_put (D := (dC, dI)) (ci := 3) (v := .int v1410) (ty := .int) (C := RX3) (T := TX3) (N := 6) hx hb hts hi3 tyX3 tyX3_ok nmX3 hown hK hP hD hS j1411 hj1411 rfl 5 (by decide) (hts (.fieldLink RX5 126 "TallyLogs$Producer" "left" "I") (by decide +kernel)) (fun _ h9 => h9) rfl (by decide +kernel) rfl rfl (Nat.le_of_ble_eq_true rfl) dX5_settle_65 (fun H locs hP hD hS => ?_)
              have hP := Eq.mp (congrArg (fun w => va_P (dC, dI) vwCl w H) (pP_3_5 (x := v1410) hDo (hC.kp hj1267).1 (hC.kp hj1267).2 hj1411)) hP
              obtain ⟨I1412, eI1412⟩ : ∃ z, z = p2 I1402 (v (4 + j1267)) 5 v1410 := ⟨_, rfl⟩
              rw [← eI1412] at hP
              have hR : RS v I Q J I1412 Q1402 J1402 := by rw [eI1412]; exact hR.pi hC (by rw [(hC.kp hj1267).2]; decide)
              have hC : CT v L K N T I1412 Q1402 := by rw [eI1412]; exact hC.pi (by rw [(hC.kp hj1267).2]; decide)
              have hD : va_D A (va_pl L (pF cy K N T I1412 Q1402 J1402)) := pD hDo
              refine lv_iinc (v := 1) (lv' := [(3, .int 1), (2, .ref (v (4 + j1267))), (0, .ref (v 0)), (1, .int xk)]) hx hb dX5_settle_68 hl (k := 0) rfl (by decide) (by decide) rfl (fun ls hl => ?_)
              refine lv_goto (tgt := 25) hx hb dX5_settle_71 (by decide) ?_
              refine W.widen (k := 1) (n := 8) (by omega) (by omega) ?_
              exact hU1271_1 _ _ _ _ _ _ _ _ _ hC hR hXs hP hD hS (lv_sub hl [0, 1, 2, 3] rfl)
      refine W.widen (k := 0) (n := 0) (by omega) (by omega) ?_
      exact hU1271_0 _ _ _ _ _ _ _ _ _ hC hR PX.rf hP hD hS (lv_sub hl [0, 1, 2, 3] rfl)
    · refine lv_bipush (v := (-2)) hx hb dX5_settle_20 (by decide) ?_
      refine W.widen (k := 4) (n := 32) (by omega) (by omega) ?_
      exact W.iret (v := (-2)) hx hb hr (fun t ht hW => ⟨⟨(-2), (L, K, T, I, Q, J), rfl, ⟨⟨hC, hR, hX⟩, trivial⟩, by rw [ht]; exact hP, va_K.moved hW.alike hK, hD⟩, hS.F ht⟩) hS.2.2 dX5_settle_22
