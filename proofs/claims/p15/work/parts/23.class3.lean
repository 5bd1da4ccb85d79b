set_option maxHeartbeats 4000000 in
set_option maxRecDepth 100000 in
/-- flush -/
theorem c_X5_flush (l : Launch) (dC : Nat → ClassId) (dI : Nat → Nat → Nat) (cy : Nat → ClassId) (v : Nat → Nat) (L : List Nat) (K N : Nat → Nat) (T : Nat → Nat → Nat) (I : Nat → Nat → Int32) (Q : Nat → Nat → Option Nat) (J : Nat → Nat → Int32) (sz : Nat) (xn : Int32) (xp : Int32) (hC : CT v L K N T I Q) : Met l yX5_flush wsX5_flush ({ frames := 2, cells := 0, slots := 0, locals := 44 }) (va_Pc [.ref (v 0), .int xn, .int xp] (pW dC dI cy L (pF cy K N T I Q J) sz)) (va_Qi (fun (r : Int32) (d : (Nat → Nat → Int32) × (Nat → Nat → Option Nat) × (Nat → Nat → Int32)) => (CT v L K N T d.1 d.2.1 ∧ RS v I Q J d.1 d.2.1 d.2.2) ∧ True) (fun (d : (Nat → Nat → Int32) × (Nat → Nat → Option Nat) × (Nat → Nat → Int32)) t => va_P (dC, dI) vwCl (va_pl L (pF cy K N T d.1 d.2.1 d.2.2)) t.heap ∧ va_K (dC, dI) vwCl (pTy cy) t ∧ va_D (va_A (va_pl L (pF cy K N T I Q J)) sz) (va_pl L (pF cy K N T d.1 d.2.1 d.2.2))) (va_A (va_pl L (pF cy K N T I Q J)) sz)) 0 0 (va_A (va_pl L (pF cy K N T I Q J)) sz) := by
  refine Met.ofW (cc := cX5_flush) (maxL := 5) (ret := (some .int)) (by decide) rfl ?_
  intro p e s m args below meth c s₁ B hml hv
  obtain ⟨rfl, hsz, ⟨hP, hK, hN⟩, hD0⟩ := hv
  have hx := B.exec
  have hb := B.bytes
  have hr := B.returns
  have hts := atoms_spec (ws := wsX5_flush) B.pre
  have hown : s.vm.findClass RX5 = some m.cls := findClass_of_methodNamed B.named
  have hlocks := B.notSynchronized
  have hi5 : ∀ w ∈ wsX50, w ∈ wsX5_flush := by decide +kernel
  have hi4 : ∀ w ∈ wsX40, w ∈ wsX5_flush := by decide +kernel
  have hl := lv_entry ([.ref (v 0), .int xn, .int xp]) (n := 5) (Nat.le_of_ble_eq_true rfl)
  rw [lg_entry_eq]
  generalize (lg_sl ([.ref (v 0), .int xn, .int xp]) ++ List.replicate (5 - (lg_sl ([.ref (v 0), .int xn, .int xp])).length) Slot.unset).toArray = ls at hl ⊢
  have hl : lv_has ls 5 [(0, .ref (v 0)), (1, .int xn), (2, .int xp)] := hl
  subst hsz
  have hD := hD0.self (sz := s.heap.size)
  generalize hAe : va_A (va_pl L (pF cy K N T I Q J)) s.heap.size = A at hD ⊢
  have hA : ∀ q : Nat, s.heap.size ≤ q → A q := fun q h => by rw [← hAe]; exact Or.inr h
  have hS : va_S A s.heap s.heap [] := va_S.rf
  have hR : RS v I Q J I Q J := RS.rf
  have hn28 := hN.1
  have hn30 := hN.2.1
  have hn37 := hN.2.2.1
  refine lv_aload_n hx hb dX5_flush_0 rfl (lv_at hl 0 rfl) ?_
  refine lv_iload_n hx hb dX5_flush_1 rfl (lv_at hl 1 rfl) ?_
  refine lv_iload_n hx hb dX5_flush_2 rfl (lv_at hl 2 rfl) ?_
  obtain ⟨j622, hj622⟩ := pG_5 (cy := cy) (N := N) (T := T) (I := I) (Q := Q) (J := J) (hC.at 0 (by decide)) (hC.k 0 (by decide) rfl)
  refine va_csq (W.runV (As := [.int xn, .int xp]) (rest := []) ⟨hx, hb, hml, hown, hts⟩ (c_X5_replicaOf l dC dI cy v L K N T I Q J  xn xp hC) (cwV 2 hts gX5_flush_X5_replicaOf rfl rfl rfl (by decide +kernel) ⟨Nat.le_of_ble_eq_true rfl, Nat.le_of_ble_eq_true rfl⟩) ⟨pb_blind, va_recv hK hP (ci := 5) (q0 := j622) rfl hj622, fun U hU hW => ⟨rfl, pb_pre hP hK hN hU hW⟩⟩ rfl rfl hl.1 rfl (lv_room (Nat.le_of_ble_eq_true rfl)) dX5_flush_3 ⟨Nat.le_of_ble_eq_true rfl, Nat.le_of_ble_eq_true rfl⟩) (fun r621 hr621 => ?_)
  cases r621 with
  | none =>
    refine W.eq (g2 := F0 m 6 ls [.null]) rfl ?_
    refine lv_astore_nN (lv' := [(3, .null), (0, .ref (v 0)), (1, .int xn), (2, .int xp)]) hx hb dX5_flush_6 rfl hl (by decide) rfl (fun ls hl => ?_)
    refine lv_aload_nN hx hb dX5_flush_7 rfl (lv_at hl 0 rfl) ?_
    refine lv_ifnullN (tgt := 22) hx hb dX5_flush_8 (by decide) ?_
    refine lv_iconst (v := (-1)) hx hb dX5_flush_22 (by decide) ?_
    exact W.iret (v := (-1)) hx hb hr (fun t ht hW => ⟨⟨(-1), (I, Q, J), rfl, ⟨⟨hC, hR⟩, trivial⟩, by rw [ht]; exact hP, va_K.moved hW.alike hK, hD⟩, hS.F ht⟩) hS.2.2 dX5_flush_23
  | some b623 =>
    have hTb623 := hr621 b623 rfl
    refine W.eq (g2 := F0 m 6 ls [.ref b623]) rfl ?_
    refine lv_astore_n (lv' := [(3, .ref b623), (0, .ref (v 0)), (1, .int xn), (2, .int xp)]) hx hb dX5_flush_6 rfl hl (by decide) rfl (fun ls hl => ?_)
    refine lv_aload_n hx hb dX5_flush_7 rfl (lv_at hl 0 rfl) ?_
    refine lv_ifnull hx hb dX5_flush_8 ?_
    refine lv_aload_n hx hb dX5_flush_11 rfl (lv_at hl 1 rfl) ?_
    obtain ⟨j624, hj624⟩ := pG_5 (cy := cy) (N := N) (T := T) (I := I) (Q := Q) (J := J) (hC.at 0 (by decide)) (hC.k 0 (by decide) rfl)
    refine va_get (D := (dC, dI)) (ci := 5) (v := .int (I (v 0) 3)) (C := RX5) (T := TX5) (N := 6) hx hb hts hi5 hown hK hP j624 hj624 rfl 3 (by decide) (hts (.fieldLink RX5 27 "TallyLogs" "up" "I") (by decide +kernel)) (fun _ h9 => h9) rfl dX5_flush_12 ?_
    refine lv_topi (fun x625 ex625 => ?_)
    refine lv_iload_n hx hb dX5_flush_15 rfl (lv_at hl 2 rfl) ?_
    refine vp_callSi (W.runS (As := [.int x625, .int xn]) (rest := []) ⟨hx, hb, hml, hown, hts⟩ (c_X5_contains l x625 xn) (va_cwS 2 hts gX5_flush_X5_contains rfl rfl rfl (by decide +kernel) ⟨Nat.le_of_ble_eq_true rfl, Nat.le_of_ble_eq_true rfl⟩) preEq rfl rfl hl.1 rfl (lv_room (Nat.le_of_ble_eq_true rfl)) dX5_flush_16 ⟨Nat.le_of_ble_eq_true rfl, Nat.le_of_ble_eq_true rfl⟩) (fun r626 hr626 => ?_)
    refine lv_if_ne (tgt := 24) hx hb dX5_flush_19 (by decide) (fun c627 => ?_) (fun c627 => ?_)
    · refine lv_aload_n hx hb dX5_flush_24 rfl (lv_at hl 0 rfl) ?_
      obtain ⟨j628, hj628⟩ := pG_4 (cy := cy) (N := N) (T := T) (I := I) (Q := Q) (J := J) hTb623.1 hTb623.2
      refine va_get (D := (dC, dI)) (ci := 4) (v := .int (I b623 2)) (C := RX4) (T := TX4) (N := 7) hx hb hts hi4 hown hK hP j628 hj628 rfl 2 (by decide) (hts (.fieldLink RX5 132 "TallyLogs$Replica" "end" "I") (by decide +kernel)) (fun _ h9 => h9) rfl dX5_flush_25 ?_
      refine lv_topi (fun x629 ex629 => ?_)
      refine lv_aload_n hx hb dX5_flush_28 rfl (lv_at hl 0 rfl) ?_
      obtain ⟨j630, hj630⟩ := pG_4 (cy := cy) (N := N) (T := T) (I := I) (Q := Q) (J := J) hTb623.1 hTb623.2
      refine va_get (D := (dC, dI)) (ci := 4) (v := .int (I b623 4)) (C := RX4) (T := TX4) (N := 7) hx hb hts hi4 hown hK hP j630 hj630 rfl 4 (by decide) (hts (.fieldLink RX5 223 "TallyLogs$Replica" "flushed" "I") (by decide +kernel)) (fun _ h9 => h9) rfl dX5_flush_29 ?_
      refine lv_topi (fun x631 ex631 => ?_)
      refine lv_isub hx hb dX5_flush_32 ?_
      refine lv_topi (fun v632 ev632 => ?_)
      refine lv_istore (lv' := [(4, .int v632), (3, .ref b623), (0, .ref (v 0)), (1, .int xn), (2, .int xp)]) hx hb dX5_flush_33 hl (by decide) rfl (fun ls hl => ?_)
      refine lv_aload_n hx hb dX5_flush_35 rfl (lv_at hl 1 rfl) ?_
      refine lv_aload_n hx hb dX5_flush_36 rfl (lv_at hl 1 rfl) ?_
      obtain ⟨j633, hj633⟩ := pG_4 (cy := cy) (N := N) (T := T) (I := I) (Q := Q) (J := J) hTb623.1 hTb623.2
      refine va_get (D := (dC, dI)) (ci := 4) (v := .int (I b623 2)) (C := RX4) (T := TX4) (N := 7) hx hb hts hi4 hown hK hP j633 hj633 rfl 2 (by decide) (hts (.fieldLink RX5 132 "TallyLogs$Replica" "end" "I") (by decide +kernel)) (fun _ h9 => h9) rfl dX5_flush_37 ?_
      refine lv_topi (fun x634 ex634 => ?_)
      obtain ⟨j635, hj635⟩ := pG_4 (cy := cy) (N := N) (T := T) (I := I) (Q := Q) (J := J) hTb623.1 hTb623.2
      have hDo := hD
      refine va_put (D := (dC, dI)) (ci := 4) (v := .int x634) (ty := .int) (C := RX4) (T := TX4) (N := 7) hx hb hts hi4 tyX4 tyX4_ok nmX4 hown hK hP hD hS j635 hj635 rfl 4 (by decide) (hts (.fieldLink RX5 223 "TallyLogs$Replica" "flushed" "I") (by decide +kernel)) (fun _ h9 => h9) rfl (by decide +kernel) rfl rfl (Nat.le_of_ble_eq_true rfl) dX5_flush_40 (fun H locs hP hD hS => ?_)
      have hP := Eq.mp (congrArg (fun w => va_P (dC, dI) vwCl w H) (pP_4_4 (x := x634) hDo hTb623.1 hTb623.2 hj635)) hP
      obtain ⟨I636, eI636⟩ : ∃ z, z = p2 I b623 4 x634 := ⟨_, rfl⟩
      rw [← eI636] at hP
      have hR : RS v I Q J I636 Q J := by rw [eI636]; exact hR.pi hC (by rw [hTb623.2]; decide)
      have hC : CT v L K N T I636 Q := by rw [eI636]; exact hC.pi (by rw [hTb623.2]; decide)
      have hD : va_D A (va_pl L (pF cy K N T I636 Q J)) := pD hDo
      refine lv_iload hx hb dX5_flush_43 (lv_at hl 0 rfl) ?_
      exact W.iret (v := v632) hx hb hr (fun t ht hW => ⟨⟨v632, (I636, Q, J), rfl, ⟨⟨hC, hR⟩, trivial⟩, by rw [ht]; exact hP, va_K.moved hW.alike hK, hD⟩, hS.F ht⟩) hS.2.2 dX5_flush_45
    · refine lv_iconst (v := (-1)) hx hb dX5_flush_22 (by decide) ?_
      exact W.iret (v := (-1)) hx hb hr (fun t ht hW => ⟨⟨(-1), (I, Q, J), rfl, ⟨⟨hC, hR⟩, trivial⟩, by rw [ht]; exact hP, va_K.moved hW.alike hK, hD⟩, hS.F ht⟩) hS.2.2 dX5_flush_23
set_option maxHeartbeats 4000000 in
set_option maxRecDepth 100000 in
/-- trim -/
theorem c_X5_trim (l : Launch) (dC : Nat → ClassId) (dI : Nat → Nat → Nat) (cy : Nat → ClassId) (v : Nat → Nat) (L : List Nat) (K N : Nat → Nat) (T : Nat → Nat → Nat) (I : Nat → Nat → Int32) (Q : Nat → Nat → Option Nat) (J : Nat → Nat → Int32) (sz : Nat) (xp : Int32) (xo : Int32) (hC : CT v L K N T I Q) : Met l yX5_trim wsX5_trim ({ frames := 2, cells := 0, slots := 0, locals := 42 }) (va_Pc [.ref (v 0), .int xp, .int xo] (pW dC dI cy L (pF cy K N T I Q J) sz)) (va_Qi (fun (r : Int32) (d : (Nat → Nat → Int32) × (Nat → Nat → Option Nat) × (Nat → Nat → Int32)) => (CT v L K N T d.1 d.2.1 ∧ RS v I Q J d.1 d.2.1 d.2.2) ∧ True) (fun (d : (Nat → Nat → Int32) × (Nat → Nat → Option Nat) × (Nat → Nat → Int32)) t => va_P (dC, dI) vwCl (va_pl L (pF cy K N T d.1 d.2.1 d.2.2)) t.heap ∧ va_K (dC, dI) vwCl (pTy cy) t ∧ va_D (va_A (va_pl L (pF cy K N T I Q J)) sz) (va_pl L (pF cy K N T d.1 d.2.1 d.2.2))) (va_A (va_pl L (pF cy K N T I Q J)) sz)) 0 0 (va_A (va_pl L (pF cy K N T I Q J)) sz) := by
  refine Met.ofW (cc := cX5_trim) (maxL := 5) (ret := (some .int)) (by decide) rfl ?_
  intro p e s m args below meth c s₁ B hml hv
  obtain ⟨rfl, hsz, ⟨hP, hK, hN⟩, hD0⟩ := hv
  have hx := B.exec
  have hb := B.bytes
  have hr := B.returns
  have hts := atoms_spec (ws := wsX5_trim) B.pre
  have hown : s.vm.findClass RX5 = some m.cls := findClass_of_methodNamed B.named
  have hlocks := B.notSynchronized
  have hi5 : ∀ w ∈ wsX50, w ∈ wsX5_trim := by decide +kernel
  have hi4 : ∀ w ∈ wsX40, w ∈ wsX5_trim := by decide +kernel
  have hl := lv_entry ([.ref (v 0), .int xp, .int xo]) (n := 5) (Nat.le_of_ble_eq_true rfl)
  rw [lg_entry_eq]
  generalize (lg_sl ([.ref (v 0), .int xp, .int xo]) ++ List.replicate (5 - (lg_sl ([.ref (v 0), .int xp, .int xo])).length) Slot.unset).toArray = ls at hl ⊢
  have hl : lv_has ls 5 [(0, .ref (v 0)), (1, .int xp), (2, .int xo)] := hl
  subst hsz
  have hD := hD0.self (sz := s.heap.size)
  generalize hAe : va_A (va_pl L (pF cy K N T I Q J)) s.heap.size = A at hD ⊢
  have hA : ∀ q : Nat, s.heap.size ≤ q → A q := fun q h => by rw [← hAe]; exact Or.inr h
  have hS : va_S A s.heap s.heap [] := va_S.rf
  have hR : RS v I Q J I Q J := RS.rf
  have hn28 := hN.1
  have hn30 := hN.2.1
  have hn37 := hN.2.2.1
  refine lv_aload_n hx hb dX5_trim_0 rfl (lv_at hl 0 rfl) ?_
  refine lv_iload_n hx hb dX5_trim_1 rfl (lv_at hl 1 rfl) ?_
  obtain ⟨j638, hj638⟩ := pG_5 (cy := cy) (N := N) (T := T) (I := I) (Q := Q) (J := J) (hC.at 0 (by decide)) (hC.k 0 (by decide) rfl)
  refine va_csq (W.runV (As := [.int xp]) (rest := []) ⟨hx, hb, hml, hown, hts⟩ (c_X5_partitionAt l dC dI cy v L K N T I Q J  xp hC) (cwV 1 hts gX5_trim_X5_partitionAt rfl rfl rfl (by decide +kernel) ⟨Nat.le_of_ble_eq_true rfl, Nat.le_of_ble_eq_true rfl⟩) ⟨pb_blind, va_recv hK hP (ci := 5) (q0 := j638) rfl hj638, fun U hU hW => ⟨rfl, pb_pre hP hK hN hU hW⟩⟩ rfl rfl hl.1 rfl (lv_room (Nat.le_of_ble_eq_true rfl)) dX5_trim_2 ⟨Nat.le_of_ble_eq_true rfl, Nat.le_of_ble_eq_true rfl⟩) (fun r637 hr637 => ?_)
  cases r637 with
  | none =>
    refine W.eq (g2 := F0 m 5 ls [.null]) rfl ?_
    refine lv_astore_nN (lv' := [(3, .null), (0, .ref (v 0)), (1, .int xp), (2, .int xo)]) hx hb dX5_trim_5 rfl hl (by decide) rfl (fun ls hl => ?_)
    refine lv_aload_nN hx hb dX5_trim_6 rfl (lv_at hl 0 rfl) ?_
    refine lv_ifnonnullN hx hb dX5_trim_7 ?_
    refine lv_iconst (v := (-1)) hx hb dX5_trim_10 (by decide) ?_
    exact W.iret (v := (-1)) hx hb hr (fun t ht hW => ⟨⟨(-1), (I, Q, J), rfl, ⟨⟨hC, hR⟩, trivial⟩, by rw [ht]; exact hP, va_K.moved hW.alike hK, hD⟩, hS.F ht⟩) hS.2.2 dX5_trim_11
  | some b639 =>
    have hTb639 := hr637 b639 rfl
    refine W.eq (g2 := F0 m 5 ls [.ref b639]) rfl ?_
    refine lv_astore_n (lv' := [(3, .ref b639), (0, .ref (v 0)), (1, .int xp), (2, .int xo)]) hx hb dX5_trim_5 rfl hl (by decide) rfl (fun ls hl => ?_)
    refine lv_aload_n hx hb dX5_trim_6 rfl (lv_at hl 0 rfl) ?_
    refine lv_ifnonnull (tgt := 12) hx hb dX5_trim_7 (by decide) ?_
    refine lv_aload_n hx hb dX5_trim_12 rfl (lv_at hl 0 rfl) ?_
    obtain ⟨j641, hj641⟩ := pG_2 (cy := cy) (N := N) (T := T) (I := I) (Q := Q) (J := J) hTb639.1 hTb639.2
    refine va_csq (W.runV (As := []) (rest := []) ⟨hx, hb, hml, hown, hts⟩ (c_X2_leading l dC dI cy v L K N T I Q J b639  hC hTb639.1 hTb639.2) (cwV 0 hts gX5_trim_X2_leading rfl rfl rfl (by decide +kernel) ⟨Nat.le_of_ble_eq_true rfl, Nat.le_of_ble_eq_true rfl⟩) ⟨pb_blind, va_recv hK hP (ci := 2) (q0 := j641) rfl hj641, fun U hU hW => ⟨rfl, pb_pre hP hK hN hU hW⟩⟩ rfl rfl hl.1 rfl (lv_room (Nat.le_of_ble_eq_true rfl)) dX5_trim_13 ⟨Nat.le_of_ble_eq_true rfl, Nat.le_of_ble_eq_true rfl⟩) (fun r640 hr640 => ?_)
    cases r640 with
    | none =>
      refine W.eq (g2 := F0 m 16 ls [.null]) rfl ?_
      refine lv_astoreN (lv' := [(4, .null), (3, .ref b639), (0, .ref (v 0)), (1, .int xp), (2, .int xo)]) hx hb dX5_trim_16 hl (by decide) rfl (fun ls hl => ?_)
      refine lv_aloadN hx hb dX5_trim_18 (lv_at hl 0 rfl) ?_
      refine lv_ifnonnullN hx hb dX5_trim_20 ?_
      refine lv_bipush (v := (-2)) hx hb dX5_trim_23 (by decide) ?_
      exact W.iret (v := (-2)) hx hb hr (fun t ht hW => ⟨⟨(-2), (I, Q, J), rfl, ⟨⟨hC, hR⟩, trivial⟩, by rw [ht]; exact hP, va_K.moved hW.alike hK, hD⟩, hS.F ht⟩) hS.2.2 dX5_trim_25
    | some b642 =>
      have hTb642 := hr640 b642 rfl
      refine W.eq (g2 := F0 m 16 ls [.ref b642]) rfl ?_
      refine lv_astore (lv' := [(4, .ref b642), (3, .ref b639), (0, .ref (v 0)), (1, .int xp), (2, .int xo)]) hx hb dX5_trim_16 hl (by decide) rfl (fun ls hl => ?_)
      refine lv_aload hx hb dX5_trim_18 (lv_at hl 0 rfl) ?_
      refine lv_ifnonnull (tgt := 26) hx hb dX5_trim_20 (by decide) ?_
      refine lv_iload_n hx hb dX5_trim_26 rfl (lv_at hl 4 rfl) ?_
      refine lv_aload hx hb dX5_trim_27 (lv_at hl 0 rfl) ?_
      obtain ⟨j643, hj643⟩ := pG_4 (cy := cy) (N := N) (T := T) (I := I) (Q := Q) (J := J) hTb642.1 hTb642.2
      refine va_get (D := (dC, dI)) (ci := 4) (v := .int (I b642 1)) (C := RX4) (T := TX4) (N := 7) hx hb hts hi4 hown hK hP j643 hj643 rfl 1 (by decide) (hts (.fieldLink RX5 167 "TallyLogs$Replica" "start" "I") (by decide +kernel)) (fun _ h9 => h9) rfl dX5_trim_29 ?_
      refine lv_topi (fun x644 ex644 => ?_)
      refine lv_icmp_lt (tgt := 44) hx hb dX5_trim_32 (by decide) (fun c645 => ?_) (fun c645 => ?_)
      · refine lv_iconst (v := (-1)) hx hb dX5_trim_44 (by decide) ?_
        exact W.iret (v := (-1)) hx hb hr (fun t ht hW => ⟨⟨(-1), (I, Q, J), rfl, ⟨⟨hC, hR⟩, trivial⟩, by rw [ht]; exact hP, va_K.moved hW.alike hK, hD⟩, hS.F ht⟩) hS.2.2 dX5_trim_45
      · refine lv_iload_n hx hb dX5_trim_35 rfl (lv_at hl 4 rfl) ?_
        refine lv_aload hx hb dX5_trim_36 (lv_at hl 0 rfl) ?_
        obtain ⟨j646, hj646⟩ := pG_4 (cy := cy) (N := N) (T := T) (I := I) (Q := Q) (J := J) hTb642.1 hTb642.2
        refine va_get (D := (dC, dI)) (ci := 4) (v := .int (I b642 3)) (C := RX4) (T := TX4) (N := 7) hx hb hts hi4 hown hK hP j646 hj646 rfl 3 (by decide) (hts (.fieldLink RX5 146 "TallyLogs$Replica" "hw" "I") (by decide +kernel)) (fun _ h9 => h9) rfl dX5_trim_38 ?_
        refine lv_topi (fun x647 ex647 => ?_)
        refine lv_icmp_le (tgt := 46) hx hb dX5_trim_41 (by decide) (fun c648 => ?_) (fun c648 => ?_)
        · refine lv_aload hx hb dX5_trim_46 (lv_at hl 0 rfl) ?_
          refine lv_iload_n hx hb dX5_trim_48 rfl (lv_at hl 4 rfl) ?_
          obtain ⟨j649, hj649⟩ := pG_4 (cy := cy) (N := N) (T := T) (I := I) (Q := Q) (J := J) hTb642.1 hTb642.2
          have hFc := pfree hD hS hA
          refine va_callv (va_runV (As := [.int xo]) (rest := []) ⟨hx, hb, hml, hown, hts⟩ (c_X4_dropBefore l dC dI cy v L K N T I Q J s.heap.size b642 xo hC hTb642.1 hTb642.2) (cwV 1 hts gX5_trim_X4_dropBefore rfl rfl rfl (by decide +kernel) ⟨Nat.le_of_ble_eq_true rfl, Nat.le_of_ble_eq_true rfl⟩) ⟨pw_blind, va_recv hK hP (ci := 4) (q0 := j649) rfl hj649, fun U hU hW => ⟨rfl, pw_pre hP hK hN hD hU hW⟩⟩ rfl rfl hl.1 rfl (lv_room (Nat.le_of_ble_eq_true rfl)) dX5_trim_49 ⟨Nat.le_of_ble_eq_true rfl, Nat.le_of_ble_eq_true rfl⟩) hS (fun q _ h => hFc q h) hFc (fun d9 t H1 locs ht hvm hw hB hz1 hk1 hS => ?_)
          obtain ⟨I650, Q650, J650⟩ := d9
          obtain ⟨hC, hR1⟩ := hw
          obtain ⟨hP, hK1, hD1⟩ := hB
          rw [ht] at hP
          have hD := hD1.weaken (fun _ _ _ h => hFc _ h)
          have hR := hR.trans hR1
          generalize H1 = H at hP hS ⊢
          have hP : va_P (dC, dI) vwCl (va_pl L (pF cy K N T I650 Q650 J650)) H := hP
          have hD : va_D A (va_pl L (pF cy K N T I650 Q650 J650)) := hD
          have hC : CT v L K N T I650 Q650 := hC
          have hR : RS v I Q J I650 Q650 J650 := hR
          refine lv_aload hx hb dX5_trim_52 (lv_at hl 0 rfl) ?_
          obtain ⟨j653, hj653⟩ := pG_4 (cy := cy) (N := N) (T := T) (I := I650) (Q := Q650) (J := J650) hTb642.1 hTb642.2
          refine vp_callSi (W.runV (As := []) (rest := []) ⟨hx, hb, hml, hown, hts⟩ (c_X4_held l dC dI cy v L K N T I650 Q650 J650 b642  hC hTb642.1 hTb642.2) (cwV 0 hts gX5_trim_X4_held rfl rfl rfl (by decide +kernel) ⟨Nat.le_of_ble_eq_true rfl, Nat.le_of_ble_eq_true rfl⟩) ⟨pb_blind, va_recv hK hP (ci := 4) (q0 := j653) rfl hj653, fun U hU hW => ⟨rfl, pb_pre hP hK hN hU hW⟩⟩ rfl rfl hl.1 rfl (lv_room (Nat.le_of_ble_eq_true rfl)) dX5_trim_54 ⟨Nat.le_of_ble_eq_true rfl, Nat.le_of_ble_eq_true rfl⟩) (fun r652 hr652 => ?_)
          exact W.iret (v := r652) hx hb hr (fun t ht hW => ⟨⟨r652, (I650, Q650, J650), rfl, ⟨⟨hC, hR⟩, trivial⟩, by rw [ht]; exact hP, va_K.moved hW.alike hK, hD⟩, hS.F ht⟩) hS.2.2 dX5_trim_57
        · refine lv_iconst (v := (-1)) hx hb dX5_trim_44 (by decide) ?_
          exact W.iret (v := (-1)) hx hb hr (fun t ht hW => ⟨⟨(-1), (I, Q, J), rfl, ⟨⟨hC, hR⟩, trivial⟩, by rw [ht]; exact hP, va_K.moved hW.alike hK, hD⟩, hS.F ht⟩) hS.2.2 dX5_trim_45
