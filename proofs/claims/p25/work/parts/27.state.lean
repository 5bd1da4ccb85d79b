set_option maxHeartbeats 4000000 in
set_option maxRecDepth 100000 in
/-- firstOpenOf of a Replica -/
theorem c_X5_firstOpenOf (l : Launch) (dC : Nat → ClassId) (dI : Nat → Nat → Nat) (cy : Nat → ClassId) (v : Nat → Nat) (L : List Nat) (K N : Nat → Nat) (T : Nat → Nat → Nat) (I : Nat → Nat → Int32) (Q : Nat → Nat → Option Nat) (J : Nat → Nat → Int32) (a : Nat)  (hC : CT v L K N T I Q) (ha : a ∈ L) (hk : K a = 4) : Met l yX5_firstOpenOf wsX5_firstOpenOf ({ frames := 4, cells := 0, slots := 0, locals := 89 }) (va_Pc [.ref a] (pB dC dI cy L (pF cy K N T I Q J))) (vp_Si (fun r => True)) 0 0 (fun _ => False) := by
  refine Met.ofW (cc := cX5_firstOpenOf) (maxL := 1) (ret := (some .int)) (by decide) rfl ?_
  intro p e s m args below meth c s₁ B hml hv
  obtain ⟨rfl, hP, hK, hN⟩ := hv
  have hx := B.exec
  have hb := B.bytes
  have hr := B.returns
  have hts := atoms_spec (ws := wsX5_firstOpenOf) B.pre
  have hown : s.vm.findClass RX5 = some m.cls := findClass_of_methodNamed B.named
  have hlocks := B.notSynchronized
  have hi4 : ∀ w ∈ wsX40, w ∈ wsX5_firstOpenOf := by decide +kernel
  have hl := lv_entry ([.ref a]) (n := 1) (Nat.le_of_ble_eq_true rfl)
  rw [lg_entry_eq]
  generalize (lg_sl ([.ref a]) ++ List.replicate (1 - (lg_sl ([.ref a])).length) Slot.unset).toArray = ls at hl ⊢
  have hl : lv_has ls 1 [(0, .ref a)] := hl
  have hn28 := hN.1
  have hn30 := hN.2.1
  have hn37 := hN.2.2.1
  refine lv_aload_n hx hb dX5_firstOpenOf_0 rfl (lv_at hl 0 rfl) ?_
  refine lv_ifnonnull (tgt := 8) hx hb dX5_firstOpenOf_1 (by decide) ?_
  refine lv_aload_n hx hb dX5_firstOpenOf_8 rfl (lv_at hl 0 rfl) ?_
  obtain ⟨j883, hj883⟩ := pG_4 (cy := cy) (N := N) (T := T) (I := I) (Q := Q) (J := J) ha hk
  refine vp_callSi (W.runV (As := []) (rest := []) ⟨hx, hb, hml, hown, hts⟩ (c_X4_firstOpen l dC dI cy v L K N T I Q J a  hC ha hk) (cwV 0 hts gX5_firstOpenOf_X4_firstOpen rfl rfl rfl (by decide +kernel) ⟨Nat.le_of_ble_eq_true rfl, Nat.le_of_ble_eq_true rfl⟩) ⟨pb_blind, va_recv hK hP (ci := 4) (q0 := j883) rfl hj883, fun U hU hW => ⟨rfl, pb_pre hP hK hN hU hW⟩⟩ rfl rfl hl.1 rfl (lv_room (Nat.le_of_ble_eq_true rfl)) dX5_firstOpenOf_9 ⟨Nat.le_of_ble_eq_true rfl, Nat.le_of_ble_eq_true rfl⟩) (fun r882 hr882 => ?_)
  exact W.iret (v := r882) hx hb hr (fun t ht hW => ⟨r882, rfl, trivial, ht⟩) (fun _ h => by cases h) dX5_firstOpenOf_12
set_option maxHeartbeats 4000000 in
set_option maxRecDepth 100000 in
/-- firstOpenOf(null) -/
theorem c_X5_firstOpenOf0 (l : Launch)  : Met l yX5_firstOpenOf wsX5_firstOpenOf ({ frames := 4, cells := 0, slots := 0, locals := 89 }) (fun v _ => v = ([.null] : List Value).toArray) (vp_Si (fun r => True)) 0 0 (fun _ => False) := by
  refine Met.ofW (cc := cX5_firstOpenOf) (maxL := 1) (ret := (some .int)) (by decide) rfl ?_
  intro p e s m args below meth c s₁ B hml hv
  subst hv
  have hx := B.exec
  have hb := B.bytes
  have hr := B.returns
  have hts := atoms_spec (ws := wsX5_firstOpenOf) B.pre
  have hown : s.vm.findClass RX5 = some m.cls := findClass_of_methodNamed B.named
  have hlocks := B.notSynchronized
  have hl := lv_entry ([.null]) (n := 1) (Nat.le_of_ble_eq_true rfl)
  rw [lg_entry_eq]
  generalize (lg_sl ([.null]) ++ List.replicate (1 - (lg_sl ([.null])).length) Slot.unset).toArray = ls at hl ⊢
  have hl : lv_has ls 1 [(0, .null)] := hl
  refine lv_aload_nN hx hb dX5_firstOpenOf_0 rfl (lv_at hl 0 rfl) ?_
  refine lv_ifnonnullN hx hb dX5_firstOpenOf_1 ?_
  refine lv_iconst (v := (-1)) hx hb dX5_firstOpenOf_4 (by decide) ?_
  refine lv_goto (tgt := 12) hx hb dX5_firstOpenOf_5 (by decide) ?_
  exact W.iret (v := (-1)) hx hb hr (fun t ht hW => ⟨(-1), rfl, trivial, ht⟩) (fun _ h => by cases h) dX5_firstOpenOf_12
set_option maxHeartbeats 4000000 in
set_option maxRecDepth 100000 in
/-- state -/
theorem c_X5_state (l : Launch) (dC : Nat → ClassId) (dI : Nat → Nat → Nat) (cy : Nat → ClassId) (v : Nat → Nat) (L : List Nat) (K N : Nat → Nat) (T : Nat → Nat → Nat) (I : Nat → Nat → Int32) (Q : Nat → Nat → Option Nat) (J : Nat → Nat → Int32) (xp : Int32) (wh : Int32) (hC : CT v L K N T I Q) : Met l yX5_state wsX5_state ({ frames := 5, cells := 0, slots := 0, locals := 109 }) (va_Pc [.ref (v 0), .int xp, .int wh] (pB dC dI cy L (pF cy K N T I Q J))) (vp_Si (fun r => True)) 0 0 (fun _ => False) := by
  refine Met.ofW (cc := cX5_state) (maxL := 4) (ret := (some .int)) (by decide) rfl ?_
  intro p e s m args below meth c s₁ B hml hv
  obtain ⟨rfl, hP, hK, hN⟩ := hv
  have hx := B.exec
  have hb := B.bytes
  have hr := B.returns
  have hts := atoms_spec (ws := wsX5_state) B.pre
  have hown : s.vm.findClass RX5 = some m.cls := findClass_of_methodNamed B.named
  have hlocks := B.notSynchronized
  have hi5 : ∀ w ∈ wsX50, w ∈ wsX5_state := by decide +kernel
  have hi2 : ∀ w ∈ wsX20, w ∈ wsX5_state := by decide +kernel
  have hl := lv_entry ([.ref (v 0), .int xp, .int wh]) (n := 4) (Nat.le_of_ble_eq_true rfl)
  rw [lg_entry_eq]
  generalize (lg_sl ([.ref (v 0), .int xp, .int wh]) ++ List.replicate (4 - (lg_sl ([.ref (v 0), .int xp, .int wh])).length) Slot.unset).toArray = ls at hl ⊢
  have hl : lv_has ls 4 [(0, .ref (v 0)), (1, .int xp), (2, .int wh)] := hl
  have hn28 := hN.1
  have hn30 := hN.2.1
  have hn37 := hN.2.2.1
  refine lv_aload_n hx hb dX5_state_0 rfl (lv_at hl 0 rfl) ?_
  refine lv_iload_n hx hb dX5_state_1 rfl (lv_at hl 1 rfl) ?_
  obtain ⟨j885, hj885⟩ := pG_5 (cy := cy) (N := N) (T := T) (I := I) (Q := Q) (J := J) (hC.at 0 (by decide)) (hC.k 0 (by decide) rfl)
  refine va_csq (W.runV (As := [.int xp]) (rest := []) ⟨hx, hb, hml, hown, hts⟩ (c_X5_partitionAt l dC dI cy v L K N T I Q J  xp hC) (cwV 1 hts gX5_state_X5_partitionAt rfl rfl rfl (by decide +kernel) ⟨Nat.le_of_ble_eq_true rfl, Nat.le_of_ble_eq_true rfl⟩) ⟨pb_blind, va_recv hK hP (ci := 5) (q0 := j885) rfl hj885, fun U hU hW => ⟨rfl, pb_pre hP hK hN hU hW⟩⟩ rfl rfl hl.1 rfl (lv_room (Nat.le_of_ble_eq_true rfl)) dX5_state_2 ⟨Nat.le_of_ble_eq_true rfl, Nat.le_of_ble_eq_true rfl⟩) (fun r884 hr884 => ?_)
  cases r884 with
  | none =>
    refine W.eq (g2 := F0 m 5 ls [.null]) rfl ?_
    refine lv_astore_nN (lv' := [(3, .null), (0, .ref (v 0)), (1, .int xp), (2, .int wh)]) hx hb dX5_state_5 rfl hl (by decide) rfl (fun ls hl => ?_)
    refine lv_aload_nN hx hb dX5_state_6 rfl (lv_at hl 0 rfl) ?_
    refine lv_ifnonnullN hx hb dX5_state_7 ?_
    refine lv_iconst (v := (-1)) hx hb dX5_state_10 (by decide) ?_
    exact W.iret (v := (-1)) hx hb hr (fun t ht hW => ⟨(-1), rfl, trivial, ht⟩) (fun _ h => by cases h) dX5_state_11
  | some b886 =>
    have hTb886 := hr884 b886 rfl
    refine W.eq (g2 := F0 m 5 ls [.ref b886]) rfl ?_
    refine lv_astore_n (lv' := [(3, .ref b886), (0, .ref (v 0)), (1, .int xp), (2, .int wh)]) hx hb dX5_state_5 rfl hl (by decide) rfl (fun ls hl => ?_)
    refine lv_aload_n hx hb dX5_state_6 rfl (lv_at hl 0 rfl) ?_
    refine lv_ifnonnull (tgt := 12) hx hb dX5_state_7 (by decide) ?_
    refine lv_iload_n hx hb dX5_state_12 rfl (lv_at hl 3 rfl) ?_
    by_cases hw887 : wh = 0
    · obtain rfl : wh = 0 := hw887
      refine lv_tableIn (off := 31) (tgt := 44) hx hb dX5_state_13 (by decide) (by decide) (by decide +kernel) (by decide) ?_
      refine lv_aload_n hx hb dX5_state_44 rfl (lv_at hl 0 rfl) ?_
      obtain ⟨j888, hj888⟩ := pG_2 (cy := cy) (N := N) (T := T) (I := I) (Q := Q) (J := J) hTb886.1 hTb886.2
      refine va_get (D := (dC, dI)) (ci := 2) (v := .int (I b886 3)) (C := RX2) (T := TX2) (N := 6) hx hb hts hi2 hown hK hP j888 hj888 rfl 3 (by decide) (hts (.fieldLink RX5 51 "TallyLogs$Partition" "leader" "I") (by decide +kernel)) (fun _ h9 => h9) rfl dX5_state_45 ?_
      refine lv_topi (fun x889 ex889 => ?_)
      exact W.iret (v := x889) hx hb hr (fun t ht hW => ⟨x889, rfl, trivial, ht⟩) (fun _ h => by cases h) dX5_state_48
    by_cases hw890 : wh = 1
    · obtain rfl : wh = 1 := hw890
      refine lv_tableIn (off := 36) (tgt := 49) hx hb dX5_state_13 (by decide) (by decide) (by decide +kernel) (by decide) ?_
      refine lv_aload_n hx hb dX5_state_49 rfl (lv_at hl 0 rfl) ?_
      obtain ⟨j891, hj891⟩ := pG_2 (cy := cy) (N := N) (T := T) (I := I) (Q := Q) (J := J) hTb886.1 hTb886.2
      refine va_get (D := (dC, dI)) (ci := 2) (v := .int (I b886 4)) (C := RX2) (T := TX2) (N := 6) hx hb hts hi2 hown hK hP j891 hj891 rfl 4 (by decide) (hts (.fieldLink RX5 115 "TallyLogs$Partition" "epoch" "I") (by decide +kernel)) (fun _ h9 => h9) rfl dX5_state_50 ?_
      refine lv_topi (fun x892 ex892 => ?_)
      exact W.iret (v := x892) hx hb hr (fun t ht hW => ⟨x892, rfl, trivial, ht⟩) (fun _ h => by cases h) dX5_state_53
    by_cases hw893 : wh = 2
    · obtain rfl : wh = 2 := hw893
      refine lv_tableIn (off := 41) (tgt := 54) hx hb dX5_state_13 (by decide) (by decide) (by decide +kernel) (by decide) ?_
      refine lv_aload_n hx hb dX5_state_54 rfl (lv_at hl 0 rfl) ?_
      obtain ⟨j894, hj894⟩ := pG_2 (cy := cy) (N := N) (T := T) (I := I) (Q := Q) (J := J) hTb886.1 hTb886.2
      refine va_get (D := (dC, dI)) (ci := 2) (v := .int (I b886 5)) (C := RX2) (T := TX2) (N := 6) hx hb hts hi2 hown hK hP j894 hj894 rfl 5 (by decide) (hts (.fieldLink RX5 58 "TallyLogs$Partition" "inStep" "I") (by decide +kernel)) (fun _ h9 => h9) rfl dX5_state_55 ?_
      refine lv_topi (fun x895 ex895 => ?_)
      exact W.iret (v := x895) hx hb hr (fun t ht hW => ⟨x895, rfl, trivial, ht⟩) (fun _ h => by cases h) dX5_state_58
    by_cases hw896 : wh = 3
    · obtain rfl : wh = 3 := hw896
      refine lv_tableIn (off := 46) (tgt := 59) hx hb dX5_state_13 (by decide) (by decide) (by decide +kernel) (by decide) ?_
      refine lv_aload_n hx hb dX5_state_59 rfl (lv_at hl 0 rfl) ?_
      obtain ⟨j898, hj898⟩ := pG_2 (cy := cy) (N := N) (T := T) (I := I) (Q := Q) (J := J) hTb886.1 hTb886.2
      refine va_csq (W.runV (As := []) (rest := []) ⟨hx, hb, hml, hown, hts⟩ (c_X2_leading l dC dI cy v L K N T I Q J b886  hC hTb886.1 hTb886.2) (cwV 0 hts gX5_state_X2_leading rfl rfl rfl (by decide +kernel) ⟨Nat.le_of_ble_eq_true rfl, Nat.le_of_ble_eq_true rfl⟩) ⟨pb_blind, va_recv hK hP (ci := 2) (q0 := j898) rfl hj898, fun U hU hW => ⟨rfl, pb_pre hP hK hN hU hW⟩⟩ rfl rfl hl.1 rfl (lv_room (Nat.le_of_ble_eq_true rfl)) dX5_state_60 ⟨Nat.le_of_ble_eq_true rfl, Nat.le_of_ble_eq_true rfl⟩) (fun r897 hr897 => ?_)
      cases r897 with
      | none =>
        refine W.eq (g2 := F0 m 63 ls [.null]) rfl ?_
        refine vp_callSi (W.runS (As := [.null]) (rest := []) ⟨hx, hb, hml, hown, hts⟩ (c_X5_firstOpenOf0 l) (cwS 1 hts gX5_state_X5_firstOpenOf rfl rfl rfl (by decide +kernel) ⟨Nat.le_of_ble_eq_true rfl, Nat.le_of_ble_eq_true rfl⟩) preEq rfl rfl hl.1 rfl (lv_room (Nat.le_of_ble_eq_true rfl)) dX5_state_63 ⟨Nat.le_of_ble_eq_true rfl, Nat.le_of_ble_eq_true rfl⟩) (fun r900 hr900 => ?_)
        exact W.iret (v := r900) hx hb hr (fun t ht hW => ⟨r900, rfl, trivial, ht⟩) (fun _ h => by cases h) dX5_state_66
      | some b899 =>
        have hTb899 := hr897 b899 rfl
        refine W.eq (g2 := F0 m 63 ls [.ref b899]) rfl ?_
        refine vp_callSi (W.runS (As := [.ref b899]) (rest := []) ⟨hx, hb, hml, hown, hts⟩ (c_X5_firstOpenOf l dC dI cy v L K N T I Q J b899 hC hTb899.1 hTb899.2) (cwS 1 hts gX5_state_X5_firstOpenOf rfl rfl rfl (by decide +kernel) ⟨Nat.le_of_ble_eq_true rfl, Nat.le_of_ble_eq_true rfl⟩) ⟨pb_blind, fun U hU hW => ⟨rfl, pb_pre hP hK hN hU hW⟩⟩ rfl rfl hl.1 rfl (lv_room (Nat.le_of_ble_eq_true rfl)) dX5_state_63 ⟨Nat.le_of_ble_eq_true rfl, Nat.le_of_ble_eq_true rfl⟩) (fun r901 hr901 => ?_)
        exact W.iret (v := r901) hx hb hr (fun t ht hW => ⟨r901, rfl, trivial, ht⟩) (fun _ h => by cases h) dX5_state_66
    refine lv_tableOut (tgt := 67) hx hb dX5_state_13 (by simp only [xk_eq, xk_lt, xk_le, xk_0, xk_1, xk_2, xk_3, xk_4, xk_5, xk_6, xk_7, xk_8, xk_50] at hw887 hw890 hw893 hw896; omega) (by decide) ?_
    refine lv_iconst (v := (-1)) hx hb dX5_state_67 (by decide) ?_
    exact W.iret (v := (-1)) hx hb hr (fun t ht hW => ⟨(-1), rfl, trivial, ht⟩) (fun _ h => by cases h) dX5_state_68
