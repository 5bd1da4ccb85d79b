set_option maxHeartbeats 4000000 in
set_option maxRecDepth 100000 in
/-- partitionAt: null, or a Partition -/
theorem c_X5_partitionAt (l : Launch) (dC : Nat → ClassId) (dI : Nat → Nat → Nat) (cy : Nat → ClassId) (v : Nat → Nat) (L : List Nat) (K N : Nat → Nat) (T : Nat → Nat → Nat) (I : Nat → Nat → Int32) (Q : Nat → Nat → Option Nat) (J : Nat → Nat → Int32) (xp : Int32) (hC : CT v L K N T I Q) : Met l yX5_partitionAt wsX5_partitionAt ({ frames := 0, cells := 0, slots := 0, locals := 0 }) (va_Pc [.ref (v 0), .int xp] (pB dC dI cy L (pF cy K N T I Q J))) (va_Sq (fun r => ∀ b, r = some b → b ∈ L ∧ K b = 2)) 0 0 (fun _ => False) := by
  refine Met.ofW (cc := cX5_partitionAt) (maxL := 2) (ret := (some (.object "TallyLogs$Partition"))) (by decide) rfl ?_
  intro p e s m args below meth c s₁ B hml hv
  obtain ⟨rfl, hP, hK, hN⟩ := hv
  have hx := B.exec
  have hb := B.bytes
  have hr := B.returns
  have hts := atoms_spec (ws := wsX5_partitionAt) B.pre
  have hown : s.vm.findClass RX5 = some m.cls := findClass_of_methodNamed B.named
  have hlocks := B.notSynchronized
  have hi5 : ∀ w ∈ wsX50, w ∈ wsX5_partitionAt := by decide +kernel
  have hl := lv_entry ([.ref (v 0), .int xp]) (n := 2) (Nat.le_of_ble_eq_true rfl)
  rw [lg_entry_eq]
  generalize (lg_sl ([.ref (v 0), .int xp]) ++ List.replicate (2 - (lg_sl ([.ref (v 0), .int xp])).length) Slot.unset).toArray = ls at hl ⊢
  have hl : lv_has ls 2 [(0, .ref (v 0)), (1, .int xp)] := hl
  have hn28 := hN.1
  have hn30 := hN.2.1
  have hn37 := hN.2.2.1
  refine lv_iload_n hx hb dX5_partitionAt_0 rfl (lv_at hl 1 rfl) ?_
  refine lv_if_lt (tgt := 9) hx hb dX5_partitionAt_1 (by decide) (fun c457 => ?_) (fun c457 => ?_)
  · refine lv_null hx hb dX5_partitionAt_9 ?_
    refine lv_goto (tgt := 19) hx hb dX5_partitionAt_10 (by decide) ?_
    exact W.aret (v := .null) hx hb hr (Or.inl ⟨_, rfl⟩) (Or.inl rfl) (fun t ht hW => ⟨none, rfl, (fun _ h => by cases h), ht⟩) (fun _ h => by cases h) dX5_partitionAt_19
  · refine lv_iload_n hx hb dX5_partitionAt_4 rfl (lv_at hl 1 rfl) ?_
    refine lv_iconst (v := 4) hx hb dX5_partitionAt_5 (by decide) ?_
    refine lv_icmp_lt (tgt := 13) hx hb dX5_partitionAt_6 (by decide) (fun c458 => ?_) (fun c458 => ?_)
    · refine lv_aload_n hx hb dX5_partitionAt_13 rfl (lv_at hl 0 rfl) ?_
      obtain ⟨j459, hj459⟩ := pG_5 (cy := cy) (N := N) (T := T) (I := I) (Q := Q) (J := J) (hC.at 0 (by decide)) (hC.k 0 (by decide) rfl)
      refine va_get (D := (dC, dI)) (ci := 5) (v := .ref (T (v 0) 0)) (C := RX5) (T := TX5) (N := 6) hx hb hts hi5 hown hK hP j459 hj459 rfl 0 (by decide) (hts (.fieldLink RX5 11 "TallyLogs" "partitions" "[LTallyLogs$Partition;") (by decide +kernel)) (fun _ h9 => h9) rfl dX5_partitionAt_14 ?_
      refine W.eq (g2 := F0 m 17 ls [.ref (v 1)]) (by rw [hC.1.2.2.1.1]) ?_
      refine lv_iload_n hx hb dX5_partitionAt_17 rfl (lv_at hl 1 rfl) ?_
      have hin461 : vp_in xp 4 := xin_of (by have kc457 := c457; have kc458 := c458; simp only [xk_lt, xk_le, xk_0, xk_1, xk_2, xk_3, xk_4, xk_5, xk_6, xk_7, xk_8, xk_50] at kc457 kc458; omega) (by have kc457 := c457; have kc458 := c458; simp only [xk_lt, xk_le, xk_0, xk_1, xk_2, xk_3, xk_4, xk_5, xk_6, xk_7, xk_8, xk_50] at kc457 kc458; omega)
      obtain ⟨j462, hj462⟩ := pG_10 (cy := cy) (N := N) (T := T) (I := I) (Q := Q) (J := J) (hC.at 1 (by decide)) (hC.k 1 (by decide) rfl)
      refine va_aldq hx hb hK hP j462 3 hj462 rfl hin461 dX5_partitionAt_18 ?_
      cases hq464 : Q (v 1) xp.toNatClampNeg with
      | none =>
        refine W.eq (g2 := F0 m 19 ls [.null]) rfl ?_
        exact W.aret (v := .null) hx hb hr (Or.inl ⟨_, rfl⟩) (Or.inl rfl) (fun t ht hW => ⟨none, rfl, (fun _ h => by cases h), ht⟩) (fun _ h => by cases h) dX5_partitionAt_19
      | some b463 =>
        have hTb463 := (hC.2.2.2.1 xp.toNatClampNeg b463 (vp_lt hin461) hq464)
        refine W.eq (g2 := F0 m 19 ls [.ref b463]) rfl ?_
        exact W.aret (v := .ref b463) hx hb hr (Or.inl ⟨_, rfl⟩) (Or.inr ⟨_, rfl⟩) (fun t ht hW => ⟨some b463, rfl, (fun _ h => by cases h; exact ⟨hTb463.1, hTb463.2⟩), ht⟩) (fun _ h => by cases h) dX5_partitionAt_19
    · refine lv_null hx hb dX5_partitionAt_9 ?_
      refine lv_goto (tgt := 19) hx hb dX5_partitionAt_10 (by decide) ?_
      exact W.aret (v := .null) hx hb hr (Or.inl ⟨_, rfl⟩) (Or.inl rfl) (fun t ht hW => ⟨none, rfl, (fun _ h => by cases h), ht⟩) (fun _ h => by cases h) dX5_partitionAt_19
set_option maxHeartbeats 4000000 in
set_option maxRecDepth 100000 in
/-- replicaOf -/
theorem c_X5_replicaOf (l : Launch) (dC : Nat → ClassId) (dI : Nat → Nat → Nat) (cy : Nat → ClassId) (v : Nat → Nat) (L : List Nat) (K N : Nat → Nat) (T : Nat → Nat → Nat) (I : Nat → Nat → Int32) (Q : Nat → Nat → Option Nat) (J : Nat → Nat → Int32) (xn : Int32) (xp : Int32) (hC : CT v L K N T I Q) : Met l yX5_replicaOf wsX5_replicaOf ({ frames := 1, cells := 0, slots := 0, locals := 21 }) (va_Pc [.ref (v 0), .int xn, .int xp] (pB dC dI cy L (pF cy K N T I Q J))) (va_Sq (fun r => ∀ b, r = some b → b ∈ L ∧ K b = 4)) 0 0 (fun _ => False) := by
  refine Met.ofW (cc := cX5_replicaOf) (maxL := 4) (ret := (some (.object "TallyLogs$Replica"))) (by decide) rfl ?_
  intro p e s m args below meth c s₁ B hml hv
  obtain ⟨rfl, hP, hK, hN⟩ := hv
  have hx := B.exec
  have hb := B.bytes
  have hr := B.returns
  have hts := atoms_spec (ws := wsX5_replicaOf) B.pre
  have hown : s.vm.findClass RX5 = some m.cls := findClass_of_methodNamed B.named
  have hlocks := B.notSynchronized
  have hi5 : ∀ w ∈ wsX50, w ∈ wsX5_replicaOf := by decide +kernel
  have hl := lv_entry ([.ref (v 0), .int xn, .int xp]) (n := 4) (Nat.le_of_ble_eq_true rfl)
  rw [lg_entry_eq]
  generalize (lg_sl ([.ref (v 0), .int xn, .int xp]) ++ List.replicate (4 - (lg_sl ([.ref (v 0), .int xn, .int xp])).length) Slot.unset).toArray = ls at hl ⊢
  have hl : lv_has ls 4 [(0, .ref (v 0)), (1, .int xn), (2, .int xp)] := hl
  have hn28 := hN.1
  have hn30 := hN.2.1
  have hn37 := hN.2.2.1
  refine lv_aload_n hx hb dX5_replicaOf_0 rfl (lv_at hl 0 rfl) ?_
  refine lv_iload_n hx hb dX5_replicaOf_1 rfl (lv_at hl 2 rfl) ?_
  obtain ⟨j466, hj466⟩ := pG_5 (cy := cy) (N := N) (T := T) (I := I) (Q := Q) (J := J) (hC.at 0 (by decide)) (hC.k 0 (by decide) rfl)
  refine va_csq (W.runV (As := [.int xp]) (rest := []) ⟨hx, hb, hml, hown, hts⟩ (c_X5_partitionAt l dC dI cy v L K N T I Q J  xp hC) (cwV 1 hts gX5_replicaOf_X5_partitionAt rfl rfl rfl (by decide +kernel) ⟨Nat.le_of_ble_eq_true rfl, Nat.le_of_ble_eq_true rfl⟩) ⟨pb_blind, va_recv hK hP (ci := 5) (q0 := j466) rfl hj466, fun U hU hW => ⟨rfl, pb_pre hP hK hN hU hW⟩⟩ rfl rfl hl.1 rfl (lv_room (Nat.le_of_ble_eq_true rfl)) dX5_replicaOf_2 ⟨Nat.le_of_ble_eq_true rfl, Nat.le_of_ble_eq_true rfl⟩) (fun r465 hr465 => ?_)
  cases r465 with
  | none =>
    refine W.eq (g2 := F0 m 5 ls [.null]) rfl ?_
    refine lv_astore_nN (lv' := [(3, .null), (0, .ref (v 0)), (1, .int xn), (2, .int xp)]) hx hb dX5_replicaOf_5 rfl hl (by decide) rfl (fun ls hl => ?_)
    refine lv_aload_nN hx hb dX5_replicaOf_6 rfl (lv_at hl 0 rfl) ?_
    refine lv_ifnonnullN hx hb dX5_replicaOf_7 ?_
    refine lv_null hx hb dX5_replicaOf_10 ?_
    refine lv_goto (tgt := 19) hx hb dX5_replicaOf_11 (by decide) ?_
    exact W.aret (v := .null) hx hb hr (Or.inl ⟨_, rfl⟩) (Or.inl rfl) (fun t ht hW => ⟨none, rfl, (fun _ h => by cases h), ht⟩) (fun _ h => by cases h) dX5_replicaOf_19
  | some b467 =>
    have hTb467 := hr465 b467 rfl
    refine W.eq (g2 := F0 m 5 ls [.ref b467]) rfl ?_
    refine lv_astore_n (lv' := [(3, .ref b467), (0, .ref (v 0)), (1, .int xn), (2, .int xp)]) hx hb dX5_replicaOf_5 rfl hl (by decide) rfl (fun ls hl => ?_)
    refine lv_aload_n hx hb dX5_replicaOf_6 rfl (lv_at hl 0 rfl) ?_
    refine lv_ifnonnull (tgt := 14) hx hb dX5_replicaOf_7 (by decide) ?_
    refine lv_aload_n hx hb dX5_replicaOf_14 rfl (lv_at hl 0 rfl) ?_
    refine lv_iload_n hx hb dX5_replicaOf_15 rfl (lv_at hl 2 rfl) ?_
    obtain ⟨j469, hj469⟩ := pG_2 (cy := cy) (N := N) (T := T) (I := I) (Q := Q) (J := J) hTb467.1 hTb467.2
    refine va_csq (W.runV (As := [.int xn]) (rest := []) ⟨hx, hb, hml, hown, hts⟩ (c_X2_replicaAt l dC dI cy v L K N T I Q J b467 xn hC hTb467.1 hTb467.2) (cwV 1 hts gX5_replicaOf_X2_replicaAt rfl rfl rfl (by decide +kernel) ⟨Nat.le_of_ble_eq_true rfl, Nat.le_of_ble_eq_true rfl⟩) ⟨pb_blind, va_recv hK hP (ci := 2) (q0 := j469) rfl hj469, fun U hU hW => ⟨rfl, pb_pre hP hK hN hU hW⟩⟩ rfl rfl hl.1 rfl (lv_room (Nat.le_of_ble_eq_true rfl)) dX5_replicaOf_16 ⟨Nat.le_of_ble_eq_true rfl, Nat.le_of_ble_eq_true rfl⟩) (fun r468 hr468 => ?_)
    cases r468 with
    | none =>
      refine W.eq (g2 := F0 m 19 ls [.null]) rfl ?_
      exact W.aret (v := .null) hx hb hr (Or.inl ⟨_, rfl⟩) (Or.inl rfl) (fun t ht hW => ⟨none, rfl, (fun _ h => by cases h), ht⟩) (fun _ h => by cases h) dX5_replicaOf_19
    | some b470 =>
      have hTb470 := hr468 b470 rfl
      refine W.eq (g2 := F0 m 19 ls [.ref b470]) rfl ?_
      exact W.aret (v := .ref b470) hx hb hr (Or.inl ⟨_, rfl⟩) (Or.inr ⟨_, rfl⟩) (fun t ht hW => ⟨some b470, rfl, (fun _ h => by cases h; exact ⟨hTb470.1, hTb470.2⟩), ht⟩) (fun _ h => by cases h) dX5_replicaOf_19
set_option maxHeartbeats 4000000 in
set_option maxRecDepth 100000 in
/-- safe -/
theorem c_X5_safe (l : Launch) (dC : Nat → ClassId) (dI : Nat → Nat → Nat) (cy : Nat → ClassId) (v : Nat → Nat) (L : List Nat) (K N : Nat → Nat) (T : Nat → Nat → Nat) (I : Nat → Nat → Int32) (Q : Nat → Nat → Option Nat) (J : Nat → Nat → Int32) (xp : Int32) (xo : Int32) (hC : CT v L K N T I Q) : Met l yX5_safe wsX5_safe ({ frames := 2, cells := 0, slots := 0, locals := 41 }) (va_Pc [.ref (v 0), .int xp, .int xo] (pB dC dI cy L (pF cy K N T I Q J))) (vp_Si (fun r => True)) 0 0 (fun _ => False) := by
  refine Met.ofW (cc := cX5_safe) (maxL := 5) (ret := (some .int)) (by decide) rfl ?_
  intro p e s m args below meth c s₁ B hml hv
  obtain ⟨rfl, hP, hK, hN⟩ := hv
  have hx := B.exec
  have hb := B.bytes
  have hr := B.returns
  have hts := atoms_spec (ws := wsX5_safe) B.pre
  have hown : s.vm.findClass RX5 = some m.cls := findClass_of_methodNamed B.named
  have hlocks := B.notSynchronized
  have hi5 : ∀ w ∈ wsX50, w ∈ wsX5_safe := by decide +kernel
  have hi4 : ∀ w ∈ wsX40, w ∈ wsX5_safe := by decide +kernel
  have hl := lv_entry ([.ref (v 0), .int xp, .int xo]) (n := 5) (Nat.le_of_ble_eq_true rfl)
  rw [lg_entry_eq]
  generalize (lg_sl ([.ref (v 0), .int xp, .int xo]) ++ List.replicate (5 - (lg_sl ([.ref (v 0), .int xp, .int xo])).length) Slot.unset).toArray = ls at hl ⊢
  have hl : lv_has ls 5 [(0, .ref (v 0)), (1, .int xp), (2, .int xo)] := hl
  have hn28 := hN.1
  have hn30 := hN.2.1
  have hn37 := hN.2.2.1
  refine lv_aload_n hx hb dX5_safe_0 rfl (lv_at hl 0 rfl) ?_
  refine lv_iload_n hx hb dX5_safe_1 rfl (lv_at hl 1 rfl) ?_
  obtain ⟨j472, hj472⟩ := pG_5 (cy := cy) (N := N) (T := T) (I := I) (Q := Q) (J := J) (hC.at 0 (by decide)) (hC.k 0 (by decide) rfl)
  refine va_csq (W.runV (As := [.int xp]) (rest := []) ⟨hx, hb, hml, hown, hts⟩ (c_X5_partitionAt l dC dI cy v L K N T I Q J  xp hC) (cwV 1 hts gX5_safe_X5_partitionAt rfl rfl rfl (by decide +kernel) ⟨Nat.le_of_ble_eq_true rfl, Nat.le_of_ble_eq_true rfl⟩) ⟨pb_blind, va_recv hK hP (ci := 5) (q0 := j472) rfl hj472, fun U hU hW => ⟨rfl, pb_pre hP hK hN hU hW⟩⟩ rfl rfl hl.1 rfl (lv_room (Nat.le_of_ble_eq_true rfl)) dX5_safe_2 ⟨Nat.le_of_ble_eq_true rfl, Nat.le_of_ble_eq_true rfl⟩) (fun r471 hr471 => ?_)
  cases r471 with
  | none =>
    refine W.eq (g2 := F0 m 5 ls [.null]) rfl ?_
    refine lv_astore_nN (lv' := [(3, .null), (0, .ref (v 0)), (1, .int xp), (2, .int xo)]) hx hb dX5_safe_5 rfl hl (by decide) rfl (fun ls hl => ?_)
    refine lv_aload_nN hx hb dX5_safe_6 rfl (lv_at hl 0 rfl) ?_
    refine lv_ifnonnullN hx hb dX5_safe_7 ?_
    refine lv_iconst (v := (-1)) hx hb dX5_safe_10 (by decide) ?_
    exact W.iret (v := (-1)) hx hb hr (fun t ht hW => ⟨(-1), rfl, trivial, ht⟩) (fun _ h => by cases h) dX5_safe_11
  | some b473 =>
    have hTb473 := hr471 b473 rfl
    refine W.eq (g2 := F0 m 5 ls [.ref b473]) rfl ?_
    refine lv_astore_n (lv' := [(3, .ref b473), (0, .ref (v 0)), (1, .int xp), (2, .int xo)]) hx hb dX5_safe_5 rfl hl (by decide) rfl (fun ls hl => ?_)
    refine lv_aload_n hx hb dX5_safe_6 rfl (lv_at hl 0 rfl) ?_
    refine lv_ifnonnull (tgt := 12) hx hb dX5_safe_7 (by decide) ?_
    refine lv_aload_n hx hb dX5_safe_12 rfl (lv_at hl 0 rfl) ?_
    obtain ⟨j475, hj475⟩ := pG_2 (cy := cy) (N := N) (T := T) (I := I) (Q := Q) (J := J) hTb473.1 hTb473.2
    refine va_csq (W.runV (As := []) (rest := []) ⟨hx, hb, hml, hown, hts⟩ (c_X2_leading l dC dI cy v L K N T I Q J b473  hC hTb473.1 hTb473.2) (cwV 0 hts gX5_safe_X2_leading rfl rfl rfl (by decide +kernel) ⟨Nat.le_of_ble_eq_true rfl, Nat.le_of_ble_eq_true rfl⟩) ⟨pb_blind, va_recv hK hP (ci := 2) (q0 := j475) rfl hj475, fun U hU hW => ⟨rfl, pb_pre hP hK hN hU hW⟩⟩ rfl rfl hl.1 rfl (lv_room (Nat.le_of_ble_eq_true rfl)) dX5_safe_13 ⟨Nat.le_of_ble_eq_true rfl, Nat.le_of_ble_eq_true rfl⟩) (fun r474 hr474 => ?_)
    cases r474 with
    | none =>
      refine W.eq (g2 := F0 m 16 ls [.null]) rfl ?_
      refine lv_astoreN (lv' := [(4, .null), (3, .ref b473), (0, .ref (v 0)), (1, .int xp), (2, .int xo)]) hx hb dX5_safe_16 hl (by decide) rfl (fun ls hl => ?_)
      refine lv_aloadN hx hb dX5_safe_18 (lv_at hl 0 rfl) ?_
      refine lv_ifnonnullN hx hb dX5_safe_20 ?_
      refine lv_bipush (v := (-2)) hx hb dX5_safe_23 (by decide) ?_
      exact W.iret (v := (-2)) hx hb hr (fun t ht hW => ⟨(-2), rfl, trivial, ht⟩) (fun _ h => by cases h) dX5_safe_25
    | some b476 =>
      have hTb476 := hr474 b476 rfl
      refine W.eq (g2 := F0 m 16 ls [.ref b476]) rfl ?_
      refine lv_astore (lv' := [(4, .ref b476), (3, .ref b473), (0, .ref (v 0)), (1, .int xp), (2, .int xo)]) hx hb dX5_safe_16 hl (by decide) rfl (fun ls hl => ?_)
      refine lv_aload hx hb dX5_safe_18 (lv_at hl 0 rfl) ?_
      refine lv_ifnonnull (tgt := 26) hx hb dX5_safe_20 (by decide) ?_
      refine lv_iload_n hx hb dX5_safe_26 rfl (lv_at hl 4 rfl) ?_
      refine lv_aload hx hb dX5_safe_27 (lv_at hl 0 rfl) ?_
      obtain ⟨j477, hj477⟩ := pG_4 (cy := cy) (N := N) (T := T) (I := I) (Q := Q) (J := J) hTb476.1 hTb476.2
      refine va_get (D := (dC, dI)) (ci := 4) (v := .int (I b476 3)) (C := RX4) (T := TX4) (N := 7) hx hb hts hi4 hown hK hP j477 hj477 rfl 3 (by decide) (hts (.fieldLink RX5 146 "TallyLogs$Replica" "hw" "I") (by decide +kernel)) (fun _ h9 => h9) rfl dX5_safe_29 ?_
      refine lv_topi (fun x478 ex478 => ?_)
      refine lv_icmp_ge (tgt := 39) hx hb dX5_safe_32 (by decide) (fun c479 => ?_) (fun c479 => ?_)
      · refine lv_iconst (v := 0) hx hb dX5_safe_39 (by decide) ?_
        exact W.iret (v := 0) hx hb hr (fun t ht hW => ⟨0, rfl, trivial, ht⟩) (fun _ h => by cases h) dX5_safe_40
      · refine lv_iconst (v := 1) hx hb dX5_safe_35 (by decide) ?_
        refine lv_goto (tgt := 40) hx hb dX5_safe_36 (by decide) ?_
        exact W.iret (v := 1) hx hb hr (fun t ht hW => ⟨1, rfl, trivial, ht⟩) (fun _ h => by cases h) dX5_safe_40
