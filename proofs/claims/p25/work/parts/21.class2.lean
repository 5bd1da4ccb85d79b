set_option maxHeartbeats 4000000 in
set_option maxRecDepth 100000 in
/-- seen -/
theorem c_X5_seen (l : Launch) (dC : Nat → ClassId) (dI : Nat → Nat → Nat) (cy : Nat → ClassId) (v : Nat → Nat) (L : List Nat) (K N : Nat → Nat) (T : Nat → Nat → Nat) (I : Nat → Nat → Int32) (Q : Nat → Nat → Option Nat) (J : Nat → Nat → Int32) (wh : Int32) (hC : CT v L K N T I Q) : Met l yX5_seen wsX5_seen ({ frames := 0, cells := 0, slots := 0, locals := 0 }) (va_Pc [.ref (v 0), .int wh] (pB dC dI cy L (pF cy K N T I Q J))) (vp_Si (fun r => True)) 0 0 (fun _ => False) := by
  refine Met.ofW (cc := cX5_seen) (maxL := 2) (ret := (some .int)) (by decide) rfl ?_
  intro p e s m args below meth c s₁ B hml hv
  obtain ⟨rfl, hP, hK, hN⟩ := hv
  have hx := B.exec
  have hb := B.bytes
  have hr := B.returns
  have hts := atoms_spec (ws := wsX5_seen) B.pre
  have hown : s.vm.findClass RX5 = some m.cls := findClass_of_methodNamed B.named
  have hlocks := B.notSynchronized
  have hi5 : ∀ w ∈ wsX50, w ∈ wsX5_seen := by decide +kernel
  have hi0 : ∀ w ∈ wsX00, w ∈ wsX5_seen := by decide +kernel
  have hl := lv_entry ([.ref (v 0), .int wh]) (n := 2) (Nat.le_of_ble_eq_true rfl)
  rw [lg_entry_eq]
  generalize (lg_sl ([.ref (v 0), .int wh]) ++ List.replicate (2 - (lg_sl ([.ref (v 0), .int wh])).length) Slot.unset).toArray = ls at hl ⊢
  have hl : lv_has ls 2 [(0, .ref (v 0)), (1, .int wh)] := hl
  have hn28 := hN.1
  have hn30 := hN.2.1
  have hn37 := hN.2.2.1
  refine lv_aload_n hx hb dX5_seen_0 rfl (lv_at hl 0 rfl) ?_
  obtain ⟨j480, hj480⟩ := pG_5 (cy := cy) (N := N) (T := T) (I := I) (Q := Q) (J := J) (hC.at 0 (by decide)) (hC.k 0 (by decide) rfl)
  refine va_get (D := (dC, dI)) (ci := 5) (v := va_rf (Q (v 0) 5)) (C := RX5) (T := TX5) (N := 6) hx hb hts hi5 hown hK hP j480 hj480 rfl 5 (by decide) (hts (.fieldLink RX5 34 "TallyLogs" "lastSeen" "LTallyLogs$Entry;") (by decide +kernel)) (fun _ h9 => h9) rfl dX5_seen_1 ?_
  cases hq482 : Q (v 0) 5 with
  | none =>
    refine W.eq (g2 := F0 m 4 ls [.null]) rfl ?_
    refine lv_ifnonnullN hx hb dX5_seen_4 ?_
    refine lv_iconst (v := 0) hx hb dX5_seen_7 (by decide) ?_
    exact W.iret (v := 0) hx hb hr (fun t ht hW => ⟨0, rfl, trivial, ht⟩) (fun _ h => by cases h) dX5_seen_8
  | some b481 =>
    have hTb481 := (hC.2.2.1 b481 hq482)
    refine W.eq (g2 := F0 m 4 ls [.ref b481]) rfl ?_
    refine lv_ifnonnull (tgt := 9) hx hb dX5_seen_4 (by decide) ?_
    refine lv_iload_n hx hb dX5_seen_9 rfl (lv_at hl 1 rfl) ?_
    by_cases hw483 : wh = 0
    · obtain rfl : wh = 0 := hw483
      refine lv_tableIn (off := 38) (tgt := 48) hx hb dX5_seen_10 (by decide) (by decide) (by decide +kernel) (by decide) ?_
      refine lv_aload_n hx hb dX5_seen_48 rfl (lv_at hl 0 rfl) ?_
      obtain ⟨j484, hj484⟩ := pG_5 (cy := cy) (N := N) (T := T) (I := I) (Q := Q) (J := J) (hC.at 0 (by decide)) (hC.k 0 (by decide) rfl)
      refine va_get (D := (dC, dI)) (ci := 5) (v := va_rf (Q (v 0) 5)) (C := RX5) (T := TX5) (N := 6) hx hb hts hi5 hown hK hP j484 hj484 rfl 5 (by decide) (hts (.fieldLink RX5 34 "TallyLogs" "lastSeen" "LTallyLogs$Entry;") (by decide +kernel)) (fun _ h9 => h9) rfl dX5_seen_49 ?_
      refine W.eq (g2 := F0 m 52 ls [.ref b481]) (by rw [hq482]; rfl) ?_
      obtain ⟨j485, hj485⟩ := pG_0 (cy := cy) (N := N) (T := T) (I := I) (Q := Q) (J := J) hTb481.1 hTb481.2
      refine va_get (D := (dC, dI)) (ci := 0) (v := .int (I b481 0)) (C := RX0) (T := TX0) (N := 8) hx hb hts hi0 hown hK hP j485 hj485 rfl 0 (by decide) (hts (.fieldLink RX5 178 "TallyLogs$Entry" "epoch" "I") (by decide +kernel)) (fun _ h9 => h9) rfl dX5_seen_52 ?_
      refine lv_topi (fun x486 ex486 => ?_)
      exact W.iret (v := x486) hx hb hr (fun t ht hW => ⟨x486, rfl, trivial, ht⟩) (fun _ h => by cases h) dX5_seen_55
    by_cases hw487 : wh = 1
    · obtain rfl : wh = 1 := hw487
      refine lv_tableIn (off := 46) (tgt := 56) hx hb dX5_seen_10 (by decide) (by decide) (by decide +kernel) (by decide) ?_
      refine lv_aload_n hx hb dX5_seen_56 rfl (lv_at hl 0 rfl) ?_
      obtain ⟨j488, hj488⟩ := pG_5 (cy := cy) (N := N) (T := T) (I := I) (Q := Q) (J := J) (hC.at 0 (by decide)) (hC.k 0 (by decide) rfl)
      refine va_get (D := (dC, dI)) (ci := 5) (v := va_rf (Q (v 0) 5)) (C := RX5) (T := TX5) (N := 6) hx hb hts hi5 hown hK hP j488 hj488 rfl 5 (by decide) (hts (.fieldLink RX5 34 "TallyLogs" "lastSeen" "LTallyLogs$Entry;") (by decide +kernel)) (fun _ h9 => h9) rfl dX5_seen_57 ?_
      refine W.eq (g2 := F0 m 60 ls [.ref b481]) (by rw [hq482]; rfl) ?_
      obtain ⟨j489, hj489⟩ := pG_0 (cy := cy) (N := N) (T := T) (I := I) (Q := Q) (J := J) hTb481.1 hTb481.2
      refine va_get (D := (dC, dI)) (ci := 0) (v := .int (I b481 2)) (C := RX0) (T := TX0) (N := 8) hx hb hts hi0 hown hK hP j489 hj489 rfl 2 (by decide) (hts (.fieldLink RX5 181 "TallyLogs$Entry" "producer" "I") (by decide +kernel)) (fun _ h9 => h9) rfl dX5_seen_60 ?_
      refine lv_topi (fun x490 ex490 => ?_)
      exact W.iret (v := x490) hx hb hr (fun t ht hW => ⟨x490, rfl, trivial, ht⟩) (fun _ h => by cases h) dX5_seen_63
    by_cases hw491 : wh = 2
    · obtain rfl : wh = 2 := hw491
      refine lv_tableIn (off := 54) (tgt := 64) hx hb dX5_seen_10 (by decide) (by decide) (by decide +kernel) (by decide) ?_
      refine lv_aload_n hx hb dX5_seen_64 rfl (lv_at hl 0 rfl) ?_
      obtain ⟨j492, hj492⟩ := pG_5 (cy := cy) (N := N) (T := T) (I := I) (Q := Q) (J := J) (hC.at 0 (by decide)) (hC.k 0 (by decide) rfl)
      refine va_get (D := (dC, dI)) (ci := 5) (v := va_rf (Q (v 0) 5)) (C := RX5) (T := TX5) (N := 6) hx hb hts hi5 hown hK hP j492 hj492 rfl 5 (by decide) (hts (.fieldLink RX5 34 "TallyLogs" "lastSeen" "LTallyLogs$Entry;") (by decide +kernel)) (fun _ h9 => h9) rfl dX5_seen_65 ?_
      refine W.eq (g2 := F0 m 68 ls [.ref b481]) (by rw [hq482]; rfl) ?_
      obtain ⟨j493, hj493⟩ := pG_0 (cy := cy) (N := N) (T := T) (I := I) (Q := Q) (J := J) hTb481.1 hTb481.2
      refine va_get (D := (dC, dI)) (ci := 0) (v := .int (I b481 3)) (C := RX0) (T := TX0) (N := 8) hx hb hts hi0 hown hK hP j493 hj493 rfl 3 (by decide) (hts (.fieldLink RX5 184 "TallyLogs$Entry" "generation" "I") (by decide +kernel)) (fun _ h9 => h9) rfl dX5_seen_68 ?_
      refine lv_topi (fun x494 ex494 => ?_)
      exact W.iret (v := x494) hx hb hr (fun t ht hW => ⟨x494, rfl, trivial, ht⟩) (fun _ h => by cases h) dX5_seen_71
    by_cases hw495 : wh = 3
    · obtain rfl : wh = 3 := hw495
      refine lv_tableIn (off := 62) (tgt := 72) hx hb dX5_seen_10 (by decide) (by decide) (by decide +kernel) (by decide) ?_
      refine lv_aload_n hx hb dX5_seen_72 rfl (lv_at hl 0 rfl) ?_
      obtain ⟨j496, hj496⟩ := pG_5 (cy := cy) (N := N) (T := T) (I := I) (Q := Q) (J := J) (hC.at 0 (by decide)) (hC.k 0 (by decide) rfl)
      refine va_get (D := (dC, dI)) (ci := 5) (v := va_rf (Q (v 0) 5)) (C := RX5) (T := TX5) (N := 6) hx hb hts hi5 hown hK hP j496 hj496 rfl 5 (by decide) (hts (.fieldLink RX5 34 "TallyLogs" "lastSeen" "LTallyLogs$Entry;") (by decide +kernel)) (fun _ h9 => h9) rfl dX5_seen_73 ?_
      refine W.eq (g2 := F0 m 76 ls [.ref b481]) (by rw [hq482]; rfl) ?_
      obtain ⟨j497, hj497⟩ := pG_0 (cy := cy) (N := N) (T := T) (I := I) (Q := Q) (J := J) hTb481.1 hTb481.2
      refine va_get (D := (dC, dI)) (ci := 0) (v := .int (I b481 4)) (C := RX0) (T := TX0) (N := 8) hx hb hts hi0 hown hK hP j497 hj497 rfl 4 (by decide) (hts (.fieldLink RX5 185 "TallyLogs$Entry" "seq" "I") (by decide +kernel)) (fun _ h9 => h9) rfl dX5_seen_76 ?_
      refine lv_topi (fun x498 ex498 => ?_)
      exact W.iret (v := x498) hx hb hr (fun t ht hW => ⟨x498, rfl, trivial, ht⟩) (fun _ h => by cases h) dX5_seen_79
    by_cases hw499 : wh = 4
    · obtain rfl : wh = 4 := hw499
      refine lv_tableIn (off := 70) (tgt := 80) hx hb dX5_seen_10 (by decide) (by decide) (by decide +kernel) (by decide) ?_
      refine lv_aload_n hx hb dX5_seen_80 rfl (lv_at hl 0 rfl) ?_
      obtain ⟨j500, hj500⟩ := pG_5 (cy := cy) (N := N) (T := T) (I := I) (Q := Q) (J := J) (hC.at 0 (by decide)) (hC.k 0 (by decide) rfl)
      refine va_get (D := (dC, dI)) (ci := 5) (v := va_rf (Q (v 0) 5)) (C := RX5) (T := TX5) (N := 6) hx hb hts hi5 hown hK hP j500 hj500 rfl 5 (by decide) (hts (.fieldLink RX5 34 "TallyLogs" "lastSeen" "LTallyLogs$Entry;") (by decide +kernel)) (fun _ h9 => h9) rfl dX5_seen_81 ?_
      refine W.eq (g2 := F0 m 84 ls [.ref b481]) (by rw [hq482]; rfl) ?_
      obtain ⟨j501, hj501⟩ := pG_0 (cy := cy) (N := N) (T := T) (I := I) (Q := Q) (J := J) hTb481.1 hTb481.2
      refine va_get (D := (dC, dI)) (ci := 0) (v := .int (I b481 5)) (C := RX0) (T := TX0) (N := 8) hx hb hts hi0 hown hK hP j501 hj501 rfl 5 (by decide) (hts (.fieldLink RX5 188 "TallyLogs$Entry" "key" "I") (by decide +kernel)) (fun _ h9 => h9) rfl dX5_seen_84 ?_
      refine lv_topi (fun x502 ex502 => ?_)
      exact W.iret (v := x502) hx hb hr (fun t ht hW => ⟨x502, rfl, trivial, ht⟩) (fun _ h => by cases h) dX5_seen_87
    by_cases hw503 : wh = 5
    · obtain rfl : wh = 5 := hw503
      refine lv_tableIn (off := 78) (tgt := 88) hx hb dX5_seen_10 (by decide) (by decide) (by decide +kernel) (by decide) ?_
      refine lv_aload_n hx hb dX5_seen_88 rfl (lv_at hl 0 rfl) ?_
      obtain ⟨j504, hj504⟩ := pG_5 (cy := cy) (N := N) (T := T) (I := I) (Q := Q) (J := J) (hC.at 0 (by decide)) (hC.k 0 (by decide) rfl)
      refine va_get (D := (dC, dI)) (ci := 5) (v := va_rf (Q (v 0) 5)) (C := RX5) (T := TX5) (N := 6) hx hb hts hi5 hown hK hP j504 hj504 rfl 5 (by decide) (hts (.fieldLink RX5 34 "TallyLogs" "lastSeen" "LTallyLogs$Entry;") (by decide +kernel)) (fun _ h9 => h9) rfl dX5_seen_89 ?_
      refine W.eq (g2 := F0 m 92 ls [.ref b481]) (by rw [hq482]; rfl) ?_
      obtain ⟨j505, hj505⟩ := pG_0 (cy := cy) (N := N) (T := T) (I := I) (Q := Q) (J := J) hTb481.1 hTb481.2
      refine va_get (D := (dC, dI)) (ci := 0) (v := .int (I b481 6)) (C := RX0) (T := TX0) (N := 8) hx hb hts hi0 hown hK hP j505 hj505 rfl 6 (by decide) (hts (.fieldLink RX5 191 "TallyLogs$Entry" "value" "I") (by decide +kernel)) (fun _ h9 => h9) rfl dX5_seen_92 ?_
      refine lv_topi (fun x506 ex506 => ?_)
      exact W.iret (v := x506) hx hb hr (fun t ht hW => ⟨x506, rfl, trivial, ht⟩) (fun _ h => by cases h) dX5_seen_95
    refine lv_tableOut (tgt := 96) hx hb dX5_seen_10 (by simp only [xk_eq, xk_lt, xk_le, xk_0, xk_1, xk_2, xk_3, xk_4, xk_5, xk_6, xk_7, xk_8, xk_50] at hw483 hw487 hw491 hw495 hw499 hw503; omega) (by decide) ?_
    refine lv_iconst (v := 0) hx hb dX5_seen_96 (by decide) ?_
    exact W.iret (v := 0) hx hb hr (fun t ht hW => ⟨0, rfl, trivial, ht⟩) (fun _ h => by cases h) dX5_seen_97
set_option maxHeartbeats 4000000 in
set_option maxRecDepth 100000 in
/-- log -/
theorem c_X5_log (l : Launch) (dC : Nat → ClassId) (dI : Nat → Nat → Nat) (cy : Nat → ClassId) (v : Nat → Nat) (L : List Nat) (K N : Nat → Nat) (T : Nat → Nat → Nat) (I : Nat → Nat → Int32) (Q : Nat → Nat → Option Nat) (J : Nat → Nat → Int32) (xn : Int32) (xp : Int32) (wh : Int32) (hC : CT v L K N T I Q) : Met l yX5_log wsX5_log ({ frames := 2, cells := 0, slots := 0, locals := 44 }) (va_Pc [.ref (v 0), .int xn, .int xp, .int wh] (pB dC dI cy L (pF cy K N T I Q J))) (vp_Si (fun r => True)) 0 0 (fun _ => False) := by
  refine Met.ofW (cc := cX5_log) (maxL := 6) (ret := (some .int)) (by decide) rfl ?_
  intro p e s m args below meth c s₁ B hml hv
  obtain ⟨rfl, hP, hK, hN⟩ := hv
  have hx := B.exec
  have hb := B.bytes
  have hr := B.returns
  have hts := atoms_spec (ws := wsX5_log) B.pre
  have hown : s.vm.findClass RX5 = some m.cls := findClass_of_methodNamed B.named
  have hlocks := B.notSynchronized
  have hi5 : ∀ w ∈ wsX50, w ∈ wsX5_log := by decide +kernel
  have hi4 : ∀ w ∈ wsX40, w ∈ wsX5_log := by decide +kernel
  have hl := lv_entry ([.ref (v 0), .int xn, .int xp, .int wh]) (n := 6) (Nat.le_of_ble_eq_true rfl)
  rw [lg_entry_eq]
  generalize (lg_sl ([.ref (v 0), .int xn, .int xp, .int wh]) ++ List.replicate (6 - (lg_sl ([.ref (v 0), .int xn, .int xp, .int wh])).length) Slot.unset).toArray = ls at hl ⊢
  have hl : lv_has ls 6 [(0, .ref (v 0)), (1, .int xn), (2, .int xp), (3, .int wh)] := hl
  have hn28 := hN.1
  have hn30 := hN.2.1
  have hn37 := hN.2.2.1
  refine lv_aload_n hx hb dX5_log_0 rfl (lv_at hl 0 rfl) ?_
  refine lv_iload_n hx hb dX5_log_1 rfl (lv_at hl 2 rfl) ?_
  obtain ⟨j508, hj508⟩ := pG_5 (cy := cy) (N := N) (T := T) (I := I) (Q := Q) (J := J) (hC.at 0 (by decide)) (hC.k 0 (by decide) rfl)
  refine va_csq (W.runV (As := [.int xp]) (rest := []) ⟨hx, hb, hml, hown, hts⟩ (c_X5_partitionAt l dC dI cy v L K N T I Q J  xp hC) (cwV 1 hts gX5_log_X5_partitionAt rfl rfl rfl (by decide +kernel) ⟨Nat.le_of_ble_eq_true rfl, Nat.le_of_ble_eq_true rfl⟩) ⟨pb_blind, va_recv hK hP (ci := 5) (q0 := j508) rfl hj508, fun U hU hW => ⟨rfl, pb_pre hP hK hN hU hW⟩⟩ rfl rfl hl.1 rfl (lv_room (Nat.le_of_ble_eq_true rfl)) dX5_log_2 ⟨Nat.le_of_ble_eq_true rfl, Nat.le_of_ble_eq_true rfl⟩) (fun r507 hr507 => ?_)
  cases r507 with
  | none =>
    refine W.eq (g2 := F0 m 5 ls [.null]) rfl ?_
    refine lv_astoreN (lv' := [(4, .null), (0, .ref (v 0)), (1, .int xn), (2, .int xp), (3, .int wh)]) hx hb dX5_log_5 hl (by decide) rfl (fun ls hl => ?_)
    refine lv_aload_n hx hb dX5_log_7 rfl (lv_at hl 1 rfl) ?_
    refine lv_iload_n hx hb dX5_log_8 rfl (lv_at hl 2 rfl) ?_
    refine lv_iload_n hx hb dX5_log_9 rfl (lv_at hl 3 rfl) ?_
    obtain ⟨j511, hj511⟩ := pG_5 (cy := cy) (N := N) (T := T) (I := I) (Q := Q) (J := J) (hC.at 0 (by decide)) (hC.k 0 (by decide) rfl)
    refine va_csq (W.runV (As := [.int xn, .int xp]) (rest := []) ⟨hx, hb, hml, hown, hts⟩ (c_X5_replicaOf l dC dI cy v L K N T I Q J  xn xp hC) (cwV 2 hts gX5_log_X5_replicaOf rfl rfl rfl (by decide +kernel) ⟨Nat.le_of_ble_eq_true rfl, Nat.le_of_ble_eq_true rfl⟩) ⟨pb_blind, va_recv hK hP (ci := 5) (q0 := j511) rfl hj511, fun U hU hW => ⟨rfl, pb_pre hP hK hN hU hW⟩⟩ rfl rfl hl.1 rfl (lv_room (Nat.le_of_ble_eq_true rfl)) dX5_log_10 ⟨Nat.le_of_ble_eq_true rfl, Nat.le_of_ble_eq_true rfl⟩) (fun r510 hr510 => ?_)
    cases r510 with
    | none =>
      refine W.eq (g2 := F0 m 13 ls [.null]) rfl ?_
      refine lv_astoreN (lv' := [(5, .null), (4, .null), (0, .ref (v 0)), (1, .int xn), (2, .int xp), (3, .int wh)]) hx hb dX5_log_13 hl (by decide) rfl (fun ls hl => ?_)
      refine lv_aloadN hx hb dX5_log_15 (lv_at hl 1 rfl) ?_
      refine lv_ifnullN (tgt := 25) hx hb dX5_log_17 (by decide) ?_
      refine lv_iconst (v := (-1)) hx hb dX5_log_25 (by decide) ?_
      exact W.iret (v := (-1)) hx hb hr (fun t ht hW => ⟨(-1), rfl, trivial, ht⟩) (fun _ h => by cases h) dX5_log_26
    | some b512 =>
      have hTb512 := hr510 b512 rfl
      refine W.eq (g2 := F0 m 13 ls [.ref b512]) rfl ?_
      refine lv_astore (lv' := [(5, .ref b512), (4, .null), (0, .ref (v 0)), (1, .int xn), (2, .int xp), (3, .int wh)]) hx hb dX5_log_13 hl (by decide) rfl (fun ls hl => ?_)
      refine lv_aloadN hx hb dX5_log_15 (lv_at hl 1 rfl) ?_
      refine lv_ifnullN (tgt := 25) hx hb dX5_log_17 (by decide) ?_
      refine lv_iconst (v := (-1)) hx hb dX5_log_25 (by decide) ?_
      exact W.iret (v := (-1)) hx hb hr (fun t ht hW => ⟨(-1), rfl, trivial, ht⟩) (fun _ h => by cases h) dX5_log_26
  | some b509 =>
    have hTb509 := hr507 b509 rfl
    refine W.eq (g2 := F0 m 5 ls [.ref b509]) rfl ?_
    refine lv_astore (lv' := [(4, .ref b509), (0, .ref (v 0)), (1, .int xn), (2, .int xp), (3, .int wh)]) hx hb dX5_log_5 hl (by decide) rfl (fun ls hl => ?_)
    refine lv_aload_n hx hb dX5_log_7 rfl (lv_at hl 1 rfl) ?_
    refine lv_iload_n hx hb dX5_log_8 rfl (lv_at hl 2 rfl) ?_
    refine lv_iload_n hx hb dX5_log_9 rfl (lv_at hl 3 rfl) ?_
    obtain ⟨j514, hj514⟩ := pG_5 (cy := cy) (N := N) (T := T) (I := I) (Q := Q) (J := J) (hC.at 0 (by decide)) (hC.k 0 (by decide) rfl)
    refine va_csq (W.runV (As := [.int xn, .int xp]) (rest := []) ⟨hx, hb, hml, hown, hts⟩ (c_X5_replicaOf l dC dI cy v L K N T I Q J  xn xp hC) (cwV 2 hts gX5_log_X5_replicaOf rfl rfl rfl (by decide +kernel) ⟨Nat.le_of_ble_eq_true rfl, Nat.le_of_ble_eq_true rfl⟩) ⟨pb_blind, va_recv hK hP (ci := 5) (q0 := j514) rfl hj514, fun U hU hW => ⟨rfl, pb_pre hP hK hN hU hW⟩⟩ rfl rfl hl.1 rfl (lv_room (Nat.le_of_ble_eq_true rfl)) dX5_log_10 ⟨Nat.le_of_ble_eq_true rfl, Nat.le_of_ble_eq_true rfl⟩) (fun r513 hr513 => ?_)
    cases r513 with
    | none =>
      refine W.eq (g2 := F0 m 13 ls [.null]) rfl ?_
      refine lv_astoreN (lv' := [(5, .null), (4, .ref b509), (0, .ref (v 0)), (1, .int xn), (2, .int xp), (3, .int wh)]) hx hb dX5_log_13 hl (by decide) rfl (fun ls hl => ?_)
      refine lv_aload hx hb dX5_log_15 (lv_at hl 1 rfl) ?_
      refine lv_ifnull hx hb dX5_log_17 ?_
      refine lv_aloadN hx hb dX5_log_20 (lv_at hl 0 rfl) ?_
      refine lv_ifnonnullN hx hb dX5_log_22 ?_
      refine lv_iconst (v := (-1)) hx hb dX5_log_25 (by decide) ?_
      exact W.iret (v := (-1)) hx hb hr (fun t ht hW => ⟨(-1), rfl, trivial, ht⟩) (fun _ h => by cases h) dX5_log_26
    | some b515 =>
      have hTb515 := hr513 b515 rfl
      refine W.eq (g2 := F0 m 13 ls [.ref b515]) rfl ?_
      refine lv_astore (lv' := [(5, .ref b515), (4, .ref b509), (0, .ref (v 0)), (1, .int xn), (2, .int xp), (3, .int wh)]) hx hb dX5_log_13 hl (by decide) rfl (fun ls hl => ?_)
      refine lv_aload hx hb dX5_log_15 (lv_at hl 1 rfl) ?_
      refine lv_ifnull hx hb dX5_log_17 ?_
      refine lv_aload hx hb dX5_log_20 (lv_at hl 0 rfl) ?_
      refine lv_ifnonnull (tgt := 27) hx hb dX5_log_22 (by decide) ?_
      refine lv_iload_n hx hb dX5_log_27 rfl (lv_at hl 5 rfl) ?_
      by_cases hw516 : wh = 0
      · obtain rfl : wh = 0 := hw516
        refine lv_tableIn (off := 40) (tgt := 68) hx hb dX5_log_28 (by decide) (by decide) (by decide +kernel) (by decide) ?_
        refine lv_aload hx hb dX5_log_68 (lv_at hl 0 rfl) ?_
        obtain ⟨j517, hj517⟩ := pG_4 (cy := cy) (N := N) (T := T) (I := I) (Q := Q) (J := J) hTb515.1 hTb515.2
        refine va_get (D := (dC, dI)) (ci := 4) (v := .int (I b515 1)) (C := RX4) (T := TX4) (N := 7) hx hb hts hi4 hown hK hP j517 hj517 rfl 1 (by decide) (hts (.fieldLink RX5 167 "TallyLogs$Replica" "start" "I") (by decide +kernel)) (fun _ h9 => h9) rfl dX5_log_70 ?_
        refine lv_topi (fun x518 ex518 => ?_)
        exact W.iret (v := x518) hx hb hr (fun t ht hW => ⟨x518, rfl, trivial, ht⟩) (fun _ h => by cases h) dX5_log_73
      by_cases hw519 : wh = 1
      · obtain rfl : wh = 1 := hw519
        refine lv_tableIn (off := 46) (tgt := 74) hx hb dX5_log_28 (by decide) (by decide) (by decide +kernel) (by decide) ?_
        refine lv_aload hx hb dX5_log_74 (lv_at hl 0 rfl) ?_
        obtain ⟨j520, hj520⟩ := pG_4 (cy := cy) (N := N) (T := T) (I := I) (Q := Q) (J := J) hTb515.1 hTb515.2
        refine va_get (D := (dC, dI)) (ci := 4) (v := .int (I b515 2)) (C := RX4) (T := TX4) (N := 7) hx hb hts hi4 hown hK hP j520 hj520 rfl 2 (by decide) (hts (.fieldLink RX5 132 "TallyLogs$Replica" "end" "I") (by decide +kernel)) (fun _ h9 => h9) rfl dX5_log_76 ?_
        refine lv_topi (fun x521 ex521 => ?_)
        exact W.iret (v := x521) hx hb hr (fun t ht hW => ⟨x521, rfl, trivial, ht⟩) (fun _ h => by cases h) dX5_log_79
      by_cases hw522 : wh = 2
      · obtain rfl : wh = 2 := hw522
        refine lv_tableIn (off := 52) (tgt := 80) hx hb dX5_log_28 (by decide) (by decide) (by decide +kernel) (by decide) ?_
        refine lv_aload hx hb dX5_log_80 (lv_at hl 0 rfl) ?_
        obtain ⟨j523, hj523⟩ := pG_4 (cy := cy) (N := N) (T := T) (I := I) (Q := Q) (J := J) hTb515.1 hTb515.2
        refine va_get (D := (dC, dI)) (ci := 4) (v := .int (I b515 3)) (C := RX4) (T := TX4) (N := 7) hx hb hts hi4 hown hK hP j523 hj523 rfl 3 (by decide) (hts (.fieldLink RX5 146 "TallyLogs$Replica" "hw" "I") (by decide +kernel)) (fun _ h9 => h9) rfl dX5_log_82 ?_
        refine lv_topi (fun x524 ex524 => ?_)
        exact W.iret (v := x524) hx hb hr (fun t ht hW => ⟨x524, rfl, trivial, ht⟩) (fun _ h => by cases h) dX5_log_85
      by_cases hw525 : wh = 3
      · obtain rfl : wh = 3 := hw525
        refine lv_tableIn (off := 58) (tgt := 86) hx hb dX5_log_28 (by decide) (by decide) (by decide +kernel) (by decide) ?_
        refine lv_aload hx hb dX5_log_86 (lv_at hl 0 rfl) ?_
        obtain ⟨j526, hj526⟩ := pG_4 (cy := cy) (N := N) (T := T) (I := I) (Q := Q) (J := J) hTb515.1 hTb515.2
        refine va_get (D := (dC, dI)) (ci := 4) (v := .int (I b515 4)) (C := RX4) (T := TX4) (N := 7) hx hb hts hi4 hown hK hP j526 hj526 rfl 4 (by decide) (hts (.fieldLink RX5 223 "TallyLogs$Replica" "flushed" "I") (by decide +kernel)) (fun _ h9 => h9) rfl dX5_log_88 ?_
        refine lv_topi (fun x527 ex527 => ?_)
        exact W.iret (v := x527) hx hb hr (fun t ht hW => ⟨x527, rfl, trivial, ht⟩) (fun _ h => by cases h) dX5_log_91
      by_cases hw528 : wh = 4
      · obtain rfl : wh = 4 := hw528
        refine lv_tableIn (off := 64) (tgt := 92) hx hb dX5_log_28 (by decide) (by decide) (by decide +kernel) (by decide) ?_
        refine lv_aload hx hb dX5_log_92 (lv_at hl 1 rfl) ?_
        refine lv_iload_n hx hb dX5_log_94 rfl (lv_at hl 3 rfl) ?_
        obtain ⟨j530, hj530⟩ := pG_2 (cy := cy) (N := N) (T := T) (I := I) (Q := Q) (J := J) hTb509.1 hTb509.2
        refine vp_callSi (W.runV (As := [.int xn]) (rest := []) ⟨hx, hb, hml, hown, hts⟩ (c_X2_knownEnd l dC dI cy v L K N T I Q J b509 xn hC hTb509.1 hTb509.2) (cwV 1 hts gX5_log_X2_knownEnd rfl rfl rfl (by decide +kernel) ⟨Nat.le_of_ble_eq_true rfl, Nat.le_of_ble_eq_true rfl⟩) ⟨pb_blind, va_recv hK hP (ci := 2) (q0 := j530) rfl hj530, fun U hU hW => ⟨rfl, pb_pre hP hK hN hU hW⟩⟩ rfl rfl hl.1 rfl (lv_room (Nat.le_of_ble_eq_true rfl)) dX5_log_95 ⟨Nat.le_of_ble_eq_true rfl, Nat.le_of_ble_eq_true rfl⟩) (fun r529 hr529 => ?_)
        exact W.iret (v := r529) hx hb hr (fun t ht hW => ⟨r529, rfl, trivial, ht⟩) (fun _ h => by cases h) dX5_log_98
      by_cases hw531 : wh = 5
      · obtain rfl : wh = 5 := hw531
        refine lv_tableIn (off := 71) (tgt := 99) hx hb dX5_log_28 (by decide) (by decide) (by decide +kernel) (by decide) ?_
        refine lv_aload hx hb dX5_log_99 (lv_at hl 0 rfl) ?_
        obtain ⟨j532, hj532⟩ := pG_4 (cy := cy) (N := N) (T := T) (I := I) (Q := Q) (J := J) hTb515.1 hTb515.2
        refine va_get (D := (dC, dI)) (ci := 4) (v := .int (I b515 6)) (C := RX4) (T := TX4) (N := 7) hx hb hts hi4 hown hK hP j532 hj532 rfl 6 (by decide) (hts (.fieldLink RX5 160 "TallyLogs$Replica" "caught" "I") (by decide +kernel)) (fun _ h9 => h9) rfl dX5_log_101 ?_
        refine lv_topi (fun x533 ex533 => ?_)
        exact W.iret (v := x533) hx hb hr (fun t ht hW => ⟨x533, rfl, trivial, ht⟩) (fun _ h => by cases h) dX5_log_104
      refine lv_tableOut (tgt := 105) hx hb dX5_log_28 (by simp only [xk_eq, xk_lt, xk_le, xk_0, xk_1, xk_2, xk_3, xk_4, xk_5, xk_6, xk_7, xk_8, xk_50] at hw516 hw519 hw522 hw525 hw528 hw531; omega) (by decide) ?_
      refine lv_iconst (v := (-1)) hx hb dX5_log_105 (by decide) ?_
      exact W.iret (v := (-1)) hx hb hr (fun t ht hW => ⟨(-1), rfl, trivial, ht⟩) (fun _ h => by cases h) dX5_log_106
set_option maxHeartbeats 4000000 in
set_option maxRecDepth 100000 in
/-- record -/
theorem c_X5_record (l : Launch) (dC : Nat → ClassId) (dI : Nat → Nat → Nat) (cy : Nat → ClassId) (v : Nat → Nat) (L : List Nat) (K N : Nat → Nat) (T : Nat → Nat → Nat) (I : Nat → Nat → Int32) (Q : Nat → Nat → Option Nat) (J : Nat → Nat → Int32) (xn : Int32) (xp : Int32) (xo : Int32) (wh : Int32) (hC : CT v L K N T I Q) : Met l yX5_record wsX5_record ({ frames := 2, cells := 0, slots := 0, locals := 44 }) (va_Pc [.ref (v 0), .int xn, .int xp, .int xo, .int wh] (pB dC dI cy L (pF cy K N T I Q J))) (vp_Sl (fun r => True)) 0 0 (fun _ => False) := by
  refine Met.ofW (cc := cX5_record) (maxL := 7) (ret := (some .long)) (by decide) rfl ?_
  intro p e s m args below meth c s₁ B hml hv
  obtain ⟨rfl, hP, hK, hN⟩ := hv
  have hx := B.exec
  have hb := B.bytes
  have hr := B.returns
  have hts := atoms_spec (ws := wsX5_record) B.pre
  have hown : s.vm.findClass RX5 = some m.cls := findClass_of_methodNamed B.named
  have hlocks := B.notSynchronized
  have hi5 : ∀ w ∈ wsX50, w ∈ wsX5_record := by decide +kernel
  have hi0 : ∀ w ∈ wsX00, w ∈ wsX5_record := by decide +kernel
  have hl := lv_entry ([.ref (v 0), .int xn, .int xp, .int xo, .int wh]) (n := 7) (Nat.le_of_ble_eq_true rfl)
  rw [lg_entry_eq]
  generalize (lg_sl ([.ref (v 0), .int xn, .int xp, .int xo, .int wh]) ++ List.replicate (7 - (lg_sl ([.ref (v 0), .int xn, .int xp, .int xo, .int wh])).length) Slot.unset).toArray = ls at hl ⊢
  have hl : lv_has ls 7 [(0, .ref (v 0)), (1, .int xn), (2, .int xp), (3, .int xo), (4, .int wh)] := hl
  have hn28 := hN.1
  have hn30 := hN.2.1
  have hn37 := hN.2.2.1
  refine lv_aload_n hx hb dX5_record_0 rfl (lv_at hl 0 rfl) ?_
  refine lv_iload_n hx hb dX5_record_1 rfl (lv_at hl 1 rfl) ?_
  refine lv_iload_n hx hb dX5_record_2 rfl (lv_at hl 2 rfl) ?_
  obtain ⟨j535, hj535⟩ := pG_5 (cy := cy) (N := N) (T := T) (I := I) (Q := Q) (J := J) (hC.at 0 (by decide)) (hC.k 0 (by decide) rfl)
  refine va_csq (W.runV (As := [.int xn, .int xp]) (rest := []) ⟨hx, hb, hml, hown, hts⟩ (c_X5_replicaOf l dC dI cy v L K N T I Q J  xn xp hC) (cwV 2 hts gX5_record_X5_replicaOf rfl rfl rfl (by decide +kernel) ⟨Nat.le_of_ble_eq_true rfl, Nat.le_of_ble_eq_true rfl⟩) ⟨pb_blind, va_recv hK hP (ci := 5) (q0 := j535) rfl hj535, fun U hU hW => ⟨rfl, pb_pre hP hK hN hU hW⟩⟩ rfl rfl hl.1 rfl (lv_room (Nat.le_of_ble_eq_true rfl)) dX5_record_3 ⟨Nat.le_of_ble_eq_true rfl, Nat.le_of_ble_eq_true rfl⟩) (fun r534 hr534 => ?_)
  cases r534 with
  | none =>
    refine W.eq (g2 := F0 m 6 ls [.null]) rfl ?_
    refine lv_astoreN (lv' := [(5, .null), (0, .ref (v 0)), (1, .int xn), (2, .int xp), (3, .int xo), (4, .int wh)]) hx hb dX5_record_6 hl (by decide) rfl (fun ls hl => ?_)
    refine lv_aloadN hx hb dX5_record_8 (lv_at hl 0 rfl) ?_
    refine lv_ifnonnullN hx hb dX5_record_10 ?_
    refine lv_null hx hb dX5_record_13 ?_
    refine lv_goto (tgt := 23) hx hb dX5_record_14 (by decide) ?_
    refine lv_astoreN (lv' := [(6, .null), (5, .null), (0, .ref (v 0)), (1, .int xn), (2, .int xp), (3, .int xo), (4, .int wh)]) hx hb dX5_record_23 hl (by decide) rfl (fun ls hl => ?_)
    refine lv_aloadN hx hb dX5_record_25 (lv_at hl 0 rfl) ?_
    refine lv_ifnonnullN hx hb dX5_record_27 ?_
    refine lv_ldc2 hx hb hown (hts (.constantLong RX5 239 1099511627776) (by decide +kernel)) dX5_record_30 ?_
    exact W.lret (v := 1099511627776) hx hb hr (fun t ht hW => ⟨1099511627776, rfl, trivial, ht⟩) (fun _ h => by cases h) dX5_record_33
  | some b536 =>
    have hTb536 := hr534 b536 rfl
    refine W.eq (g2 := F0 m 6 ls [.ref b536]) rfl ?_
    refine lv_astore (lv' := [(5, .ref b536), (0, .ref (v 0)), (1, .int xn), (2, .int xp), (3, .int xo), (4, .int wh)]) hx hb dX5_record_6 hl (by decide) rfl (fun ls hl => ?_)
    refine lv_aload hx hb dX5_record_8 (lv_at hl 0 rfl) ?_
    refine lv_ifnonnull (tgt := 17) hx hb dX5_record_10 (by decide) ?_
    refine lv_aload hx hb dX5_record_17 (lv_at hl 0 rfl) ?_
    refine lv_iload_n hx hb dX5_record_19 rfl (lv_at hl 4 rfl) ?_
    obtain ⟨j538, hj538⟩ := pG_4 (cy := cy) (N := N) (T := T) (I := I) (Q := Q) (J := J) hTb536.1 hTb536.2
    refine va_csq (W.runV (As := [.int xo]) (rest := []) ⟨hx, hb, hml, hown, hts⟩ (c_X4_entryAt l dC dI cy v L K N T I Q J b536 xo hC hTb536.1 hTb536.2) (cwV 1 hts gX5_record_X4_entryAt rfl rfl rfl (by decide +kernel) ⟨Nat.le_of_ble_eq_true rfl, Nat.le_of_ble_eq_true rfl⟩) ⟨pb_blind, va_recv hK hP (ci := 4) (q0 := j538) rfl hj538, fun U hU hW => ⟨rfl, pb_pre hP hK hN hU hW⟩⟩ rfl rfl hl.1 rfl (lv_room (Nat.le_of_ble_eq_true rfl)) dX5_record_20 ⟨Nat.le_of_ble_eq_true rfl, Nat.le_of_ble_eq_true rfl⟩) (fun r537 hr537 => ?_)
    cases r537 with
    | none =>
      refine W.eq (g2 := F0 m 23 ls [.null]) rfl ?_
      refine lv_astoreN (lv' := [(6, .null), (5, .ref b536), (0, .ref (v 0)), (1, .int xn), (2, .int xp), (3, .int xo), (4, .int wh)]) hx hb dX5_record_23 hl (by decide) rfl (fun ls hl => ?_)
      refine lv_aloadN hx hb dX5_record_25 (lv_at hl 0 rfl) ?_
      refine lv_ifnonnullN hx hb dX5_record_27 ?_
      refine lv_ldc2 hx hb hown (hts (.constantLong RX5 239 1099511627776) (by decide +kernel)) dX5_record_30 ?_
      exact W.lret (v := 1099511627776) hx hb hr (fun t ht hW => ⟨1099511627776, rfl, trivial, ht⟩) (fun _ h => by cases h) dX5_record_33
    | some b539 =>
      have hTb539 := hr537 b539 rfl
      refine W.eq (g2 := F0 m 23 ls [.ref b539]) rfl ?_
      refine lv_astore (lv' := [(6, .ref b539), (5, .ref b536), (0, .ref (v 0)), (1, .int xn), (2, .int xp), (3, .int xo), (4, .int wh)]) hx hb dX5_record_23 hl (by decide) rfl (fun ls hl => ?_)
      refine lv_aload hx hb dX5_record_25 (lv_at hl 0 rfl) ?_
      refine lv_ifnonnull (tgt := 34) hx hb dX5_record_27 (by decide) ?_
      refine lv_iload hx hb dX5_record_34 (lv_at hl 6 rfl) ?_
      by_cases hw540 : wh = 0
      · obtain rfl : wh = 0 := hw540
        refine lv_tableIn (off := 44) (tgt := 80) hx hb dX5_record_36 (by decide) (by decide) (by decide +kernel) (by decide) ?_
        refine lv_aload hx hb dX5_record_80 (lv_at hl 0 rfl) ?_
        obtain ⟨j541, hj541⟩ := pG_0 (cy := cy) (N := N) (T := T) (I := I) (Q := Q) (J := J) hTb539.1 hTb539.2
        refine va_get (D := (dC, dI)) (ci := 0) (v := .int (I b539 0)) (C := RX0) (T := TX0) (N := 8) hx hb hts hi0 hown hK hP j541 hj541 rfl 0 (by decide) (hts (.fieldLink RX5 178 "TallyLogs$Entry" "epoch" "I") (by decide +kernel)) (fun _ h9 => h9) rfl dX5_record_82 ?_
        refine lv_topi (fun x542 ex542 => ?_)
        refine lv_i2l (v := x542.toInt64) hx hb dX5_record_85 rfl ?_
        exact W.lret (v := x542.toInt64) hx hb hr (fun t ht hW => ⟨x542.toInt64, rfl, trivial, ht⟩) (fun _ h => by cases h) dX5_record_86
      by_cases hw543 : wh = 1
      · obtain rfl : wh = 1 := hw543
        refine lv_tableIn (off := 51) (tgt := 87) hx hb dX5_record_36 (by decide) (by decide) (by decide +kernel) (by decide) ?_
        refine lv_aload hx hb dX5_record_87 (lv_at hl 0 rfl) ?_
        obtain ⟨j544, hj544⟩ := pG_0 (cy := cy) (N := N) (T := T) (I := I) (Q := Q) (J := J) hTb539.1 hTb539.2
        refine va_get (D := (dC, dI)) (ci := 0) (v := .int (I b539 1)) (C := RX0) (T := TX0) (N := 8) hx hb hts hi0 hown hK hP j544 hj544 rfl 1 (by decide) (hts (.fieldLink RX5 241 "TallyLogs$Entry" "kind" "I") (by decide +kernel)) (fun _ h9 => h9) rfl dX5_record_89 ?_
        refine lv_topi (fun x545 ex545 => ?_)
        refine lv_i2l (v := x545.toInt64) hx hb dX5_record_92 rfl ?_
        exact W.lret (v := x545.toInt64) hx hb hr (fun t ht hW => ⟨x545.toInt64, rfl, trivial, ht⟩) (fun _ h => by cases h) dX5_record_93
      by_cases hw546 : wh = 2
      · obtain rfl : wh = 2 := hw546
        refine lv_tableIn (off := 58) (tgt := 94) hx hb dX5_record_36 (by decide) (by decide) (by decide +kernel) (by decide) ?_
        refine lv_aload hx hb dX5_record_94 (lv_at hl 0 rfl) ?_
        obtain ⟨j547, hj547⟩ := pG_0 (cy := cy) (N := N) (T := T) (I := I) (Q := Q) (J := J) hTb539.1 hTb539.2
        refine va_get (D := (dC, dI)) (ci := 0) (v := .int (I b539 2)) (C := RX0) (T := TX0) (N := 8) hx hb hts hi0 hown hK hP j547 hj547 rfl 2 (by decide) (hts (.fieldLink RX5 181 "TallyLogs$Entry" "producer" "I") (by decide +kernel)) (fun _ h9 => h9) rfl dX5_record_96 ?_
        refine lv_topi (fun x548 ex548 => ?_)
        refine lv_i2l (v := x548.toInt64) hx hb dX5_record_99 rfl ?_
        exact W.lret (v := x548.toInt64) hx hb hr (fun t ht hW => ⟨x548.toInt64, rfl, trivial, ht⟩) (fun _ h => by cases h) dX5_record_100
      by_cases hw549 : wh = 3
      · obtain rfl : wh = 3 := hw549
        refine lv_tableIn (off := 65) (tgt := 101) hx hb dX5_record_36 (by decide) (by decide) (by decide +kernel) (by decide) ?_
        refine lv_aload hx hb dX5_record_101 (lv_at hl 0 rfl) ?_
        obtain ⟨j550, hj550⟩ := pG_0 (cy := cy) (N := N) (T := T) (I := I) (Q := Q) (J := J) hTb539.1 hTb539.2
        refine va_get (D := (dC, dI)) (ci := 0) (v := .int (I b539 4)) (C := RX0) (T := TX0) (N := 8) hx hb hts hi0 hown hK hP j550 hj550 rfl 4 (by decide) (hts (.fieldLink RX5 185 "TallyLogs$Entry" "seq" "I") (by decide +kernel)) (fun _ h9 => h9) rfl dX5_record_103 ?_
        refine lv_topi (fun x551 ex551 => ?_)
        refine lv_i2l (v := x551.toInt64) hx hb dX5_record_106 rfl ?_
        exact W.lret (v := x551.toInt64) hx hb hr (fun t ht hW => ⟨x551.toInt64, rfl, trivial, ht⟩) (fun _ h => by cases h) dX5_record_107
      by_cases hw552 : wh = 4
      · obtain rfl : wh = 4 := hw552
        refine lv_tableIn (off := 72) (tgt := 108) hx hb dX5_record_36 (by decide) (by decide) (by decide +kernel) (by decide) ?_
        refine lv_aload hx hb dX5_record_108 (lv_at hl 0 rfl) ?_
        obtain ⟨j553, hj553⟩ := pG_0 (cy := cy) (N := N) (T := T) (I := I) (Q := Q) (J := J) hTb539.1 hTb539.2
        refine va_get (D := (dC, dI)) (ci := 0) (v := .int (I b539 5)) (C := RX0) (T := TX0) (N := 8) hx hb hts hi0 hown hK hP j553 hj553 rfl 5 (by decide) (hts (.fieldLink RX5 188 "TallyLogs$Entry" "key" "I") (by decide +kernel)) (fun _ h9 => h9) rfl dX5_record_110 ?_
        refine lv_topi (fun x554 ex554 => ?_)
        refine lv_i2l (v := x554.toInt64) hx hb dX5_record_113 rfl ?_
        exact W.lret (v := x554.toInt64) hx hb hr (fun t ht hW => ⟨x554.toInt64, rfl, trivial, ht⟩) (fun _ h => by cases h) dX5_record_114
      by_cases hw555 : wh = 5
      · obtain rfl : wh = 5 := hw555
        refine lv_tableIn (off := 79) (tgt := 115) hx hb dX5_record_36 (by decide) (by decide) (by decide +kernel) (by decide) ?_
        refine lv_aload hx hb dX5_record_115 (lv_at hl 0 rfl) ?_
        obtain ⟨j556, hj556⟩ := pG_0 (cy := cy) (N := N) (T := T) (I := I) (Q := Q) (J := J) hTb539.1 hTb539.2
        refine va_get (D := (dC, dI)) (ci := 0) (v := .int (I b539 6)) (C := RX0) (T := TX0) (N := 8) hx hb hts hi0 hown hK hP j556 hj556 rfl 6 (by decide) (hts (.fieldLink RX5 191 "TallyLogs$Entry" "value" "I") (by decide +kernel)) (fun _ h9 => h9) rfl dX5_record_117 ?_
        refine lv_topi (fun x557 ex557 => ?_)
        refine lv_i2l (v := x557.toInt64) hx hb dX5_record_120 rfl ?_
        exact W.lret (v := x557.toInt64) hx hb hr (fun t ht hW => ⟨x557.toInt64, rfl, trivial, ht⟩) (fun _ h => by cases h) dX5_record_121
      by_cases hw558 : wh = 6
      · obtain rfl : wh = 6 := hw558
        refine lv_tableIn (off := 86) (tgt := 122) hx hb dX5_record_36 (by decide) (by decide) (by decide +kernel) (by decide) ?_
        refine lv_aload hx hb dX5_record_122 (lv_at hl 0 rfl) ?_
        obtain ⟨j559, hj559⟩ := pG_0 (cy := cy) (N := N) (T := T) (I := I) (Q := Q) (J := J) hTb539.1 hTb539.2
        refine va_get (D := (dC, dI)) (ci := 0) (v := .int (I b539 7)) (C := RX0) (T := TX0) (N := 8) hx hb hts hi0 hown hK hP j559 hj559 rfl 7 (by decide) (hts (.fieldLink RX5 244 "TallyLogs$Entry" "bound" "Z") (by decide +kernel)) (fun _ h9 => h9) rfl dX5_record_124 ?_
        refine lv_topi (fun x560 ex560 => ?_)
        refine lv_if_eq (tgt := 134) hx hb dX5_record_127 (by decide) (fun c561 => ?_) (fun c561 => ?_)
        · refine lv_lconst (v := 0) hx hb dX5_record_134 (by decide) ?_
          exact W.lret (v := 0) hx hb hr (fun t ht hW => ⟨0, rfl, trivial, ht⟩) (fun _ h => by cases h) dX5_record_135
        · refine lv_lconst (v := 1) hx hb dX5_record_130 (by decide) ?_
          refine lv_goto (tgt := 135) hx hb dX5_record_131 (by decide) ?_
          exact W.lret (v := 1) hx hb hr (fun t ht hW => ⟨1, rfl, trivial, ht⟩) (fun _ h => by cases h) dX5_record_135
      refine lv_tableOut (tgt := 136) hx hb dX5_record_36 (by simp only [xk_eq, xk_lt, xk_le, xk_0, xk_1, xk_2, xk_3, xk_4, xk_5, xk_6, xk_7, xk_8, xk_50] at hw540 hw543 hw546 hw549 hw552 hw555 hw558; omega) (by decide) ?_
      refine lv_ldc2 hx hb hown (hts (.constantLong RX5 239 1099511627776) (by decide +kernel)) dX5_record_136 ?_
      exact W.lret (v := 1099511627776) hx hb hr (fun t ht hW => ⟨1099511627776, rfl, trivial, ht⟩) (fun _ h => by cases h) dX5_record_139
