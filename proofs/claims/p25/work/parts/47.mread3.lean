set_option maxHeartbeats 4000000 in
set_option maxRecDepth 100000 in
/-- safe -/
theorem c_X7_safe (l : Launch) (dC : Nat → ClassId) (dI : Nat → Nat → Nat) (cy : Nat → ClassId) (w : Nat → Nat) (L : List Nat) (K N : Nat → Nat) (T : Nat → Nat → Nat) (Q : Nat → Nat → Option Nat) (I J : Nat → Nat → Int32) (xp : Int32) (xo : Int32) (hM : MS w L K N T Q) : Met l yX7_safe wsX7_safe ({ frames := 3, cells := 0, slots := 0, locals := 73 }) (va_Pc [.ref (w 0), .int xp, .int xo] (mB dC dI cy L (wF cy K N T I Q J))) (vp_Si (fun r => True)) 0 0 (fun _ => False) := by
  refine Met.ofW (cc := cX7_safe) (maxL := 4) (ret := (some .int)) (by decide) rfl ?_
  intro p e s m args below meth c s₁ B hml hv
  obtain ⟨rfl, hP, hK⟩ := hv
  have hx := B.exec
  have hb := B.bytes
  have hr := B.returns
  have hts := atoms_spec (ws := wsX7_safe) B.pre
  have hown : s.vm.findClass RX7 = some m.cls := findClass_of_methodNamed B.named
  have hlocks := B.notSynchronized
  have hi7 : ∀ w ∈ wsX70, w ∈ wsX7_safe := by decide +kernel
  have hi6 : ∀ w ∈ wsX60, w ∈ wsX7_safe := by decide +kernel
  have hl := lv_entry ([.ref (w 0), .int xp, .int xo]) (n := 4) (Nat.le_of_ble_eq_true rfl)
  rw [lg_entry_eq]
  generalize (lg_sl ([.ref (w 0), .int xp, .int xo]) ++ List.replicate (4 - (lg_sl ([.ref (w 0), .int xp, .int xo])).length) Slot.unset).toArray = ls at hl ⊢
  have hl : lv_has ls 4 [(0, .ref (w 0)), (1, .int xp), (2, .int xo)] := hl
  refine lv_aload_n hx hb dX7_safe_0 rfl (lv_at hl 0 rfl) ?_
  refine lv_iload_n hx hb dX7_safe_1 rfl (lv_at hl 1 rfl) ?_
  obtain ⟨j241, hj241⟩ := wG_7 (cy := cy) (N := N) (T := T) (I := I) (Q := Q) (J := J) (hM.at 0 (by decide)) (hM.k 0 (by decide) rfl)
  refine vp_callSi (W.runV (As := [.int xp]) (rest := []) ⟨hx, hb, hml, hown, hts⟩ (c_X7_isThere l dC dI cy w L K N T Q I J xp hM) (cwV 1 hts gX7_safe_X7_isThere rfl rfl rfl (by decide +kernel) ⟨Nat.le_of_ble_eq_true rfl, Nat.le_of_ble_eq_true rfl⟩) ⟨mb_blind, va_recv hK hP (ci := 7) (q0 := j241) rfl hj241, fun U hU hW => ⟨rfl, mb_pre hP hK hU hW⟩⟩ rfl rfl hl.1 rfl (lv_room (Nat.le_of_ble_eq_true rfl)) dX7_safe_2 ⟨Nat.le_of_ble_eq_true rfl, Nat.le_of_ble_eq_true rfl⟩) (fun r240 hr240 => ?_)
  refine lv_if_ne (tgt := 10) hx hb dX7_safe_5 (by decide) (fun c242 => ?_) (fun c242 => ?_)
  · have hth243 := sp_it1 (by rw [← hr240]; exact c242)
    have kc242 : ¬ (r240.toInt = 0) := by have h9 := c242; rw [xk_eq, xk_0] at h9; exact h9
    refine lv_aload_n hx hb dX7_safe_10 rfl (lv_at hl 0 rfl) ?_
    refine lv_iload_n hx hb dX7_safe_11 rfl (lv_at hl 1 rfl) ?_
    obtain ⟨j245, hj245⟩ := wG_7 (cy := cy) (N := N) (T := T) (I := I) (Q := Q) (J := J) (hM.at 0 (by decide)) (hM.k 0 (by decide) rfl)
    refine va_csq (W.runV (As := [.int xp]) (rest := []) ⟨hx, hb, hml, hown, hts⟩ (c_X7_own l dC dI cy w L K N T Q I J xp hM hth243.1) (cwV 1 hts gX7_safe_X7_own rfl rfl rfl (by decide +kernel) ⟨Nat.le_of_ble_eq_true rfl, Nat.le_of_ble_eq_true rfl⟩) ⟨mb_blind, va_recv hK hP (ci := 7) (q0 := j245) rfl hj245, fun U hU hW => ⟨rfl, mb_pre hP hK hU hW⟩⟩ rfl rfl hl.1 rfl (lv_room (Nat.le_of_ble_eq_true rfl)) dX7_safe_12 ⟨Nat.le_of_ble_eq_true rfl, Nat.le_of_ble_eq_true rfl⟩) (fun r244 hr244 => ?_)
    subst hr244
    rcases sp_ow_cs w (I (w 0) 16) (J (w 4) xp.toNatClampNeg) xp.toNatClampNeg with hon246 | ⟨n246, hnn246, eln246, hubn246, hon246⟩
    · refine W.eq (g2 := F0 m 15 ls [.null]) (by rw [hon246]; rfl) ?_
      refine lv_astore_nN (lv' := [(3, .null), (0, .ref (w 0)), (1, .int xp), (2, .int xo)]) hx hb dX7_safe_15 rfl hl (by decide) rfl (fun ls hl => ?_)
      refine lv_aload_nN hx hb dX7_safe_16 rfl (lv_at hl 0 rfl) ?_
      refine lv_ifnonnullN hx hb dX7_safe_17 ?_
      refine lv_bipush (v := (-2)) hx hb dX7_safe_20 (by decide) ?_
      exact W.iret (v := (-2)) hx hb hr (fun t ht hW => ⟨(-2), rfl, trivial, ht⟩) (fun _ h => by cases h) dX7_safe_22
    · have hjn246 : (5 * xp.toNatClampNeg + n246) < 20 := by have h1 := vp_lt (n := 4) hth243.1; omega
      refine W.eq (g2 := F0 m 15 ls [.ref (w (21 + (5 * xp.toNatClampNeg + n246)))]) (by rw [hon246]; rfl) ?_
      refine lv_astore_n (lv' := [(3, .ref (w (21 + (5 * xp.toNatClampNeg + n246)))), (0, .ref (w 0)), (1, .int xp), (2, .int xo)]) hx hb dX7_safe_15 rfl hl (by decide) rfl (fun ls hl => ?_)
      refine lv_aload_n hx hb dX7_safe_16 rfl (lv_at hl 0 rfl) ?_
      refine lv_ifnonnull (tgt := 23) hx hb dX7_safe_17 (by decide) ?_
      refine lv_iload_n hx hb dX7_safe_23 rfl (lv_at hl 3 rfl) ?_
      refine lv_aload_n hx hb dX7_safe_24 rfl (lv_at hl 0 rfl) ?_
      obtain ⟨j247, hj247⟩ := wG_6 (cy := cy) (N := N) (T := T) (I := I) (Q := Q) (J := J) (hM.lg hjn246).1 (hM.lg hjn246).2
      refine va_get (D := (dC, dI)) (ci := 6) (v := .int (I (w (21 + (5 * xp.toNatClampNeg + n246))) 3)) (C := RX6) (T := TX6) (N := 7) hx hb hts hi6 hown hK hP j247 hj247 rfl 3 (by decide) (hts (.fieldLink RX7 109 "TallyLogsModel$Log" "high" "I") (by decide +kernel)) (fun _ h9 => h9) rfl dX7_safe_25 ?_
      refine lv_topi (fun x248 ex248 => ?_)
      have tx248 : x248.toInt = (I (w (21 + (5 * xp.toNatClampNeg + n246))) 3).toInt := congrArg Int32.toInt ex248
      refine lv_icmp_ge (tgt := 35) hx hb dX7_safe_28 (by decide) (fun c249 => ?_) (fun c249 => ?_)
      · have kc249 : x248.toInt ≤ xo.toInt := by have h9 := c249; rw [xk_le] at h9; exact h9
        refine lv_iconst (v := 0) hx hb dX7_safe_35 (by decide) ?_
        exact W.iret (v := 0) hx hb hr (fun t ht hW => ⟨0, rfl, trivial, ht⟩) (fun _ h => by cases h) dX7_safe_36
      · have kc249 : ¬ (x248.toInt ≤ xo.toInt) := by have h9 := c249; rw [xk_le] at h9; exact h9
        refine lv_iconst (v := 1) hx hb dX7_safe_31 (by decide) ?_
        refine lv_goto (tgt := 36) hx hb dX7_safe_32 (by decide) ?_
        exact W.iret (v := 1) hx hb hr (fun t ht hW => ⟨1, rfl, trivial, ht⟩) (fun _ h => by cases h) dX7_safe_36
  · have kc242 : r240.toInt = 0 := by have h9 := c242; rw [xk_eq, xk_0] at h9; exact h9
    refine lv_iconst (v := (-1)) hx hb dX7_safe_8 (by decide) ?_
    exact W.iret (v := (-1)) hx hb hr (fun t ht hW => ⟨(-1), rfl, trivial, ht⟩) (fun _ h => by cases h) dX7_safe_9
set_option maxHeartbeats 4000000 in
set_option maxRecDepth 100000 in
/-- seen -/
theorem c_X7_seen (l : Launch) (dC : Nat → ClassId) (dI : Nat → Nat → Nat) (cy : Nat → ClassId) (w : Nat → Nat) (L : List Nat) (K N : Nat → Nat) (T : Nat → Nat → Nat) (Q : Nat → Nat → Option Nat) (I J : Nat → Nat → Int32) (wh : Int32) (hM : MS w L K N T Q) : Met l yX7_seen wsX7_seen ({ frames := 1, cells := 0, slots := 0, locals := 27 }) (va_Pc [.ref (w 0), .int wh] (mB dC dI cy L (wF cy K N T I Q J))) (vp_Si (fun r => True)) 0 0 (fun _ => False) := by
  refine Met.ofW (cc := cX7_seen) (maxL := 2) (ret := (some .int)) (by decide) rfl ?_
  intro p e s m args below meth c s₁ B hml hv
  obtain ⟨rfl, hP, hK⟩ := hv
  have hx := B.exec
  have hb := B.bytes
  have hr := B.returns
  have hts := atoms_spec (ws := wsX7_seen) B.pre
  have hown : s.vm.findClass RX7 = some m.cls := findClass_of_methodNamed B.named
  have hlocks := B.notSynchronized
  have hi7 : ∀ w ∈ wsX70, w ∈ wsX7_seen := by decide +kernel
  have hl := lv_entry ([.ref (w 0), .int wh]) (n := 2) (Nat.le_of_ble_eq_true rfl)
  rw [lg_entry_eq]
  generalize (lg_sl ([.ref (w 0), .int wh]) ++ List.replicate (2 - (lg_sl ([.ref (w 0), .int wh])).length) Slot.unset).toArray = ls at hl ⊢
  have hl : lv_has ls 2 [(0, .ref (w 0)), (1, .int wh)] := hl
  refine lv_iload_n hx hb dX7_seen_0 rfl (lv_at hl 1 rfl) ?_
  refine lv_i2l (v := wh.toInt64) hx hb dX7_seen_1 rfl ?_
  refine lv_lconst (v := 0) hx hb dX7_seen_2 (by decide) ?_
  refine lv_ldc2 hx hb hown (hts (.constantLong RX7 129 5) (by decide +kernel)) dX7_seen_3 ?_
  refine vp_callSi (W.runS (As := [.long wh.toInt64, .long 0, .long 5]) (rest := []) ⟨hx, hb, hml, hown, hts⟩ (c_X7_in l wh.toInt64 0 5) (va_cwS 3 hts gX7_seen_X7_in rfl rfl rfl (by decide +kernel) ⟨Nat.le_of_ble_eq_true rfl, Nat.le_of_ble_eq_true rfl⟩) preEq rfl rfl hl.1 rfl (lv_room (Nat.le_of_ble_eq_true rfl)) dX7_seen_6 ⟨Nat.le_of_ble_eq_true rfl, Nat.le_of_ble_eq_true rfl⟩) (fun r250 hr250 => ?_)
  subst hr250
  refine lv_if_eq (tgt := 21) hx hb dX7_seen_9 (by decide) (fun c251 => ?_) (fun c251 => ?_)
  · refine lv_iconst (v := 0) hx hb dX7_seen_21 (by decide) ?_
    exact W.iret (v := 0) hx hb hr (fun t ht hW => ⟨0, rfl, trivial, ht⟩) (fun _ h => by cases h) dX7_seen_22
  · have hin252 : vp_in wh 6 := xin_sp c251 (by decide)
    refine lv_aload_n hx hb dX7_seen_12 rfl (lv_at hl 0 rfl) ?_
    obtain ⟨j253, hj253⟩ := wG_7 (cy := cy) (N := N) (T := T) (I := I) (Q := Q) (J := J) (hM.at 0 (by decide)) (hM.k 0 (by decide) rfl)
    refine va_get (D := (dC, dI)) (ci := 7) (v := .ref (T (w 0) 15)) (C := RX7) (T := TX7) (N := 18) hx hb hts hi7 hown hK hP j253 hj253 rfl 15 (by decide) (hts (.fieldLink RX7 58 "TallyLogsModel" "seen" "[I") (by decide +kernel)) (fun _ h9 => h9) rfl dX7_seen_13 ?_
    refine W.eq (g2 := F0 m 16 ls [.ref (w 16)]) (by rw [hM.t 15 (by decide)]) ?_
    refine lv_iload_n hx hb dX7_seen_16 rfl (lv_at hl 1 rfl) ?_
    obtain ⟨j254, hj254⟩ := wG_20 (cy := cy) (N := N) (T := T) (I := I) (Q := Q) (J := J) (hM.at 16 (by decide)) (hM.k 16 (by decide) rfl)
    refine va_iald hx hb hK hP j254 1 hj254 rfl (hM.inN (n := 6) 16 (by decide) rfl rfl hin252) dX7_seen_17 ?_
    refine lv_topi (fun x255 ex255 => ?_)
    refine lv_goto (tgt := 22) hx hb dX7_seen_18 (by decide) ?_
    exact W.iret (v := x255) hx hb hr (fun t ht hW => ⟨x255, rfl, trivial, ht⟩) (fun _ h => by cases h) dX7_seen_22
set_option maxHeartbeats 4000000 in
set_option maxRecDepth 100000 in
/-- position -/
theorem c_X7_position (l : Launch) (dC : Nat → ClassId) (dI : Nat → Nat → Nat) (cy : Nat → ClassId) (w : Nat → Nat) (L : List Nat) (K N : Nat → Nat) (T : Nat → Nat → Nat) (Q : Nat → Nat → Option Nat) (I J : Nat → Nat → Int32) (xg : Int32) (xp : Int32) (hM : MS w L K N T Q) : Met l yX7_position wsX7_position ({ frames := 2, cells := 0, slots := 0, locals := 50 }) (va_Pc [.ref (w 0), .int xg, .int xp] (mB dC dI cy L (wF cy K N T I Q J))) (vp_Si (fun r => True)) 0 0 (fun _ => False) := by
  refine Met.ofW (cc := cX7_position) (maxL := 3) (ret := (some .int)) (by decide) rfl ?_
  intro p e s m args below meth c s₁ B hml hv
  obtain ⟨rfl, hP, hK⟩ := hv
  have hx := B.exec
  have hb := B.bytes
  have hr := B.returns
  have hts := atoms_spec (ws := wsX7_position) B.pre
  have hown : s.vm.findClass RX7 = some m.cls := findClass_of_methodNamed B.named
  have hlocks := B.notSynchronized
  have hi7 : ∀ w ∈ wsX70, w ∈ wsX7_position := by decide +kernel
  have hl := lv_entry ([.ref (w 0), .int xg, .int xp]) (n := 3) (Nat.le_of_ble_eq_true rfl)
  rw [lg_entry_eq]
  generalize (lg_sl ([.ref (w 0), .int xg, .int xp]) ++ List.replicate (3 - (lg_sl ([.ref (w 0), .int xg, .int xp])).length) Slot.unset).toArray = ls at hl ⊢
  have hl : lv_has ls 3 [(0, .ref (w 0)), (1, .int xg), (2, .int xp)] := hl
  refine lv_iload_n hx hb dX7_position_0 rfl (lv_at hl 1 rfl) ?_
  refine lv_i2l (v := xg.toInt64) hx hb dX7_position_1 rfl ?_
  refine lv_lconst (v := 0) hx hb dX7_position_2 (by decide) ?_
  refine lv_ldc2 hx hb hown (hts (.constantLong RX7 80 3) (by decide +kernel)) dX7_position_3 ?_
  refine vp_callSi (W.runS (As := [.long xg.toInt64, .long 0, .long 3]) (rest := []) ⟨hx, hb, hml, hown, hts⟩ (c_X7_in l xg.toInt64 0 3) (va_cwS 3 hts gX7_position_X7_in rfl rfl rfl (by decide +kernel) ⟨Nat.le_of_ble_eq_true rfl, Nat.le_of_ble_eq_true rfl⟩) preEq rfl rfl hl.1 rfl (lv_room (Nat.le_of_ble_eq_true rfl)) dX7_position_6 ⟨Nat.le_of_ble_eq_true rfl, Nat.le_of_ble_eq_true rfl⟩) (fun r256 hr256 => ?_)
  subst hr256
  refine lv_if_eq (tgt := 33) hx hb dX7_position_9 (by decide) (fun c257 => ?_) (fun c257 => ?_)
  · refine lv_iconst (v := (-1)) hx hb dX7_position_33 (by decide) ?_
    exact W.iret (v := (-1)) hx hb hr (fun t ht hW => ⟨(-1), rfl, trivial, ht⟩) (fun _ h => by cases h) dX7_position_34
  · have hin258 : vp_in xg 4 := xin_sp c257 (by decide)
    refine lv_aload_n hx hb dX7_position_12 rfl (lv_at hl 0 rfl) ?_
    refine lv_iload_n hx hb dX7_position_13 rfl (lv_at hl 2 rfl) ?_
    obtain ⟨j260, hj260⟩ := wG_7 (cy := cy) (N := N) (T := T) (I := I) (Q := Q) (J := J) (hM.at 0 (by decide)) (hM.k 0 (by decide) rfl)
    refine vp_callSi (W.runV (As := [.int xp]) (rest := []) ⟨hx, hb, hml, hown, hts⟩ (c_X7_isThere l dC dI cy w L K N T Q I J xp hM) (cwV 1 hts gX7_position_X7_isThere rfl rfl rfl (by decide +kernel) ⟨Nat.le_of_ble_eq_true rfl, Nat.le_of_ble_eq_true rfl⟩) ⟨mb_blind, va_recv hK hP (ci := 7) (q0 := j260) rfl hj260, fun U hU hW => ⟨rfl, mb_pre hP hK hU hW⟩⟩ rfl rfl hl.1 rfl (lv_room (Nat.le_of_ble_eq_true rfl)) dX7_position_14 ⟨Nat.le_of_ble_eq_true rfl, Nat.le_of_ble_eq_true rfl⟩) (fun r259 hr259 => ?_)
    refine lv_if_eq (tgt := 33) hx hb dX7_position_17 (by decide) (fun c261 => ?_) (fun c261 => ?_)
    · have kc261 : r259.toInt = 0 := by have h9 := c261; rw [xk_eq, xk_0] at h9; exact h9
      refine lv_iconst (v := (-1)) hx hb dX7_position_33 (by decide) ?_
      exact W.iret (v := (-1)) hx hb hr (fun t ht hW => ⟨(-1), rfl, trivial, ht⟩) (fun _ h => by cases h) dX7_position_34
    · have hth262 := sp_it1 (by rw [← hr259]; exact c261)
      have kc261 : ¬ (r259.toInt = 0) := by have h9 := c261; rw [xk_eq, xk_0] at h9; exact h9
      refine lv_aload_n hx hb dX7_position_20 rfl (lv_at hl 0 rfl) ?_
      obtain ⟨j263, hj263⟩ := wG_7 (cy := cy) (N := N) (T := T) (I := I) (Q := Q) (J := J) (hM.at 0 (by decide)) (hM.k 0 (by decide) rfl)
      refine va_get (D := (dC, dI)) (ci := 7) (v := .ref (T (w 0) 14)) (C := RX7) (T := TX7) (N := 18) hx hb hts hi7 hown hK hP j263 hj263 rfl 14 (by decide) (hts (.fieldLink RX7 55 "TallyLogsModel" "position" "[I") (by decide +kernel)) (fun _ h9 => h9) rfl dX7_position_21 ?_
      refine W.eq (g2 := F0 m 24 ls [.ref (w 15)]) (by rw [hM.t 14 (by decide)]) ?_
      refine lv_iconst (v := 4) hx hb dX7_position_24 (by decide) ?_
      refine lv_iload_n hx hb dX7_position_25 rfl (lv_at hl 1 rfl) ?_
      refine lv_imul hx hb dX7_position_26 ?_
      refine lv_topi (fun v264 ev264 => ?_)
      refine lv_iload_n hx hb dX7_position_27 rfl (lv_at hl 2 rfl) ?_
      refine lv_iadd hx hb dX7_position_28 ?_
      refine lv_topi (fun v265 ev265 => ?_)
      have tv264 : v264.toInt = 4 * xg.toInt := by rw [ev264]; have := vp_in_iff.mp hin258; exact xmul4 (by omega) (by omega)
      have hin266 : vp_in v265 16 := by have h8 := vp_in_iff.mp hin258; have h9 := vp_in_iff.mp hth262.1; rw [ev265]; exact xin_of (by rw [xadd (by omega) (by omega)]; omega) (by rw [xadd (by omega) (by omega)]; omega)
      obtain ⟨j267, hj267⟩ := wG_20 (cy := cy) (N := N) (T := T) (I := I) (Q := Q) (J := J) (hM.at 15 (by decide)) (hM.k 15 (by decide) rfl)
      refine va_iald hx hb hK hP j267 1 hj267 rfl (hM.inN (n := 16) 15 (by decide) rfl rfl hin266) dX7_position_29 ?_
      refine lv_topi (fun x268 ex268 => ?_)
      refine lv_goto (tgt := 34) hx hb dX7_position_30 (by decide) ?_
      exact W.iret (v := x268) hx hb hr (fun t ht hW => ⟨x268, rfl, trivial, ht⟩) (fun _ h => by cases h) dX7_position_34
set_option maxHeartbeats 4000000 in
set_option maxRecDepth 100000 in
/-- owner -/
theorem c_X7_owner (l : Launch) (dC : Nat → ClassId) (dI : Nat → Nat → Nat) (cy : Nat → ClassId) (w : Nat → Nat) (L : List Nat) (K N : Nat → Nat) (T : Nat → Nat → Nat) (Q : Nat → Nat → Option Nat) (I J : Nat → Nat → Int32) (xg : Int32) (xp : Int32) (hM : MS w L K N T Q) : Met l yX7_owner wsX7_owner ({ frames := 2, cells := 0, slots := 0, locals := 50 }) (va_Pc [.ref (w 0), .int xg, .int xp] (mB dC dI cy L (wF cy K N T I Q J))) (vp_Si (fun r => True)) 0 0 (fun _ => False) := by
  refine Met.ofW (cc := cX7_owner) (maxL := 6) (ret := (some .int)) (by decide) rfl ?_
  intro p e s m args below meth c s₁ B hml hv
  obtain ⟨rfl, hP, hK⟩ := hv
  have hx := B.exec
  have hb := B.bytes
  have hr := B.returns
  have hts := atoms_spec (ws := wsX7_owner) B.pre
  have hown : s.vm.findClass RX7 = some m.cls := findClass_of_methodNamed B.named
  have hlocks := B.notSynchronized
  have hi7 : ∀ w ∈ wsX70, w ∈ wsX7_owner := by decide +kernel
  have hl := lv_entry ([.ref (w 0), .int xg, .int xp]) (n := 6) (Nat.le_of_ble_eq_true rfl)
  rw [lg_entry_eq]
  generalize (lg_sl ([.ref (w 0), .int xg, .int xp]) ++ List.replicate (6 - (lg_sl ([.ref (w 0), .int xg, .int xp])).length) Slot.unset).toArray = ls at hl ⊢
  have hl : lv_has ls 6 [(0, .ref (w 0)), (1, .int xg), (2, .int xp)] := hl
  refine lv_iload_n hx hb dX7_owner_0 rfl (lv_at hl 1 rfl) ?_
  refine lv_i2l (v := xg.toInt64) hx hb dX7_owner_1 rfl ?_
  refine lv_lconst (v := 0) hx hb dX7_owner_2 (by decide) ?_
  refine lv_ldc2 hx hb hown (hts (.constantLong RX7 80 3) (by decide +kernel)) dX7_owner_3 ?_
  refine vp_callSi (W.runS (As := [.long xg.toInt64, .long 0, .long 3]) (rest := []) ⟨hx, hb, hml, hown, hts⟩ (c_X7_in l xg.toInt64 0 3) (va_cwS 3 hts gX7_owner_X7_in rfl rfl rfl (by decide +kernel) ⟨Nat.le_of_ble_eq_true rfl, Nat.le_of_ble_eq_true rfl⟩) preEq rfl rfl hl.1 rfl (lv_room (Nat.le_of_ble_eq_true rfl)) dX7_owner_6 ⟨Nat.le_of_ble_eq_true rfl, Nat.le_of_ble_eq_true rfl⟩) (fun r269 hr269 => ?_)
  subst hr269
  refine lv_if_eq (tgt := 20) hx hb dX7_owner_9 (by decide) (fun c270 => ?_) (fun c270 => ?_)
  · refine lv_iconst (v := (-1)) hx hb dX7_owner_20 (by decide) ?_
    exact W.iret (v := (-1)) hx hb hr (fun t ht hW => ⟨(-1), rfl, trivial, ht⟩) (fun _ h => by cases h) dX7_owner_21
  · have hin271 : vp_in xg 4 := xin_sp c270 (by decide)
    refine lv_aload_n hx hb dX7_owner_12 rfl (lv_at hl 0 rfl) ?_
    refine lv_iload_n hx hb dX7_owner_13 rfl (lv_at hl 2 rfl) ?_
    obtain ⟨j273, hj273⟩ := wG_7 (cy := cy) (N := N) (T := T) (I := I) (Q := Q) (J := J) (hM.at 0 (by decide)) (hM.k 0 (by decide) rfl)
    refine vp_callSi (W.runV (As := [.int xp]) (rest := []) ⟨hx, hb, hml, hown, hts⟩ (c_X7_isThere l dC dI cy w L K N T Q I J xp hM) (cwV 1 hts gX7_owner_X7_isThere rfl rfl rfl (by decide +kernel) ⟨Nat.le_of_ble_eq_true rfl, Nat.le_of_ble_eq_true rfl⟩) ⟨mb_blind, va_recv hK hP (ci := 7) (q0 := j273) rfl hj273, fun U hU hW => ⟨rfl, mb_pre hP hK hU hW⟩⟩ rfl rfl hl.1 rfl (lv_room (Nat.le_of_ble_eq_true rfl)) dX7_owner_14 ⟨Nat.le_of_ble_eq_true rfl, Nat.le_of_ble_eq_true rfl⟩) (fun r272 hr272 => ?_)
    refine lv_if_ne (tgt := 22) hx hb dX7_owner_17 (by decide) (fun c274 => ?_) (fun c274 => ?_)
    · have hth275 := sp_it1 (by rw [← hr272]; exact c274)
      have kc274 : ¬ (r272.toInt = 0) := by have h9 := c274; rw [xk_eq, xk_0] at h9; exact h9
      refine lv_aload_n hx hb dX7_owner_22 rfl (lv_at hl 0 rfl) ?_
      obtain ⟨j276, hj276⟩ := wG_7 (cy := cy) (N := N) (T := T) (I := I) (Q := Q) (J := J) (hM.at 0 (by decide)) (hM.k 0 (by decide) rfl)
      refine va_get (D := (dC, dI)) (ci := 7) (v := .ref (T (w 0) 12)) (C := RX7) (T := TX7) (N := 18) hx hb hts hi7 hown hK hP j276 hj276 rfl 12 (by decide) (hts (.fieldLink RX7 49 "TallyLogsModel" "members" "[I") (by decide +kernel)) (fun _ h9 => h9) rfl dX7_owner_23 ?_
      refine W.eq (g2 := F0 m 26 ls [.ref (w 13)]) (by rw [hM.t 12 (by decide)]) ?_
      refine lv_iload_n hx hb dX7_owner_26 rfl (lv_at hl 1 rfl) ?_
      obtain ⟨j277, hj277⟩ := wG_20 (cy := cy) (N := N) (T := T) (I := I) (Q := Q) (J := J) (hM.at 13 (by decide)) (hM.k 13 (by decide) rfl)
      refine va_iald hx hb hK hP j277 1 hj277 rfl (hM.inN (n := 4) 13 (by decide) rfl rfl hin271) dX7_owner_27 ?_
      refine lv_topi (fun x278 ex278 => ?_)
      refine vp_callSi (W.runS (As := [.int x278]) (rest := []) ⟨hx, hb, hml, hown, hts⟩ (c_J6_bitCount_0f7a4 l x278) (va_cwS 1 hts gX7_owner_J6_bitCount_0f7a4 rfl rfl rfl (by decide +kernel) ⟨Nat.le_of_ble_eq_true rfl, Nat.le_of_ble_eq_true rfl⟩) preEq rfl rfl hl.1 rfl (lv_room (Nat.le_of_ble_eq_true rfl)) dX7_owner_28 ⟨Nat.le_of_ble_eq_true rfl, Nat.le_of_ble_eq_true rfl⟩) (fun r279 hr279 => ?_)
      subst hr279
      refine lv_istore_n (lv' := [(3, .int (sp_bc x278)), (0, .ref (w 0)), (1, .int xg), (2, .int xp)]) hx hb dX7_owner_31 rfl hl (by decide) rfl (fun ls hl => ?_)
      refine lv_iconst (v := 0) hx hb dX7_owner_32 (by decide) ?_
      refine lv_istore (lv' := [(4, .int 0), (3, .int (sp_bc x278)), (0, .ref (w 0)), (1, .int xg), (2, .int xp)]) hx hb dX7_owner_33 hl (by decide) rfl (fun ls hl => ?_)
      refine lv_iload_n hx hb dX7_owner_35 rfl (lv_at hl 1 rfl) ?_
      refine lv_if_ne (tgt := 42) hx hb dX7_owner_36 (by decide) (fun c280 => ?_) (fun c280 => ?_)
      · have kc280 : ¬ ((sp_bc x278).toInt = 0) := by have h9 := c280; rw [xk_eq, xk_0] at h9; exact h9
        refine lv_iconst (v := 0) hx hb dX7_owner_42 (by decide) ?_
        refine lv_istore (lv' := [(5, .int 0), (4, .int 0), (3, .int (sp_bc x278)), (0, .ref (w 0)), (1, .int xg), (2, .int xp)]) hx hb dX7_owner_43 hl (by decide) rfl (fun ls hl => ?_)
        refine wq_gen (fun Qz hQz => ?_)
        have hLP281 : ∀ (n : Nat) (y282 y283 : Int32) (ls : Array Slot), ((xp).toInt - y282.toInt).toNat < n → 0 ≤ y282.toInt → (True) → lv_has ls 6 [(5, .int y282), (4, .int y283), (3, .int (sp_bc x278)), (0, .ref (w 0)), (1, .int xg), (2, .int xp)] → W p l e (headSpec wsX7_owner ({ frames := 2, cells := 0, slots := 0, locals := 50 })).room s m ([.ref (w 0), .int xg, .int xp] : List Value).toArray below meth c s.heap [] 0 0 Qz (F0 m 45 ls []) := by
          intro n
          induction n with
          | zero => intro y282 y283 ls hms; exact absurd hms (Nat.not_lt_zero _)
          | succ n ih281 =>
            intro y282 y283 ls hms hnn281 hiv281 hl
            refine lv_iload hx hb dX7_owner_45 (lv_at hl 0 rfl) ?_
            refine lv_iload_n hx hb dX7_owner_47 rfl (lv_at hl 5 rfl) ?_
            refine lv_icmp_ge (tgt := 70) hx hb dX7_owner_48 (by decide) (fun c284 => ?_) (fun c284 => ?_)
            · have kc284 : xp.toInt ≤ y282.toInt := by have h9 := c284; rw [xk_le] at h9; exact h9
              refine lv_iload hx hb dX7_owner_70 (lv_at hl 1 rfl) ?_
              refine lv_iload_n hx hb dX7_owner_72 rfl (lv_at hl 2 rfl) ?_
              refine lv_irem hx hb dX7_owner_73 c280 ?_
              refine lv_topi (fun v285 ev285 => ?_)
              refine lv_istore (lv' := [(4, .int v285), (5, .int y282), (3, .int (sp_bc x278)), (0, .ref (w 0)), (1, .int xg), (2, .int xp)]) hx hb dX7_owner_74 hl (by decide) rfl (fun ls hl => ?_)
              refine lv_iconst (v := 0) hx hb dX7_owner_76 (by decide) ?_
              refine lv_istore (lv' := [(5, .int 0), (4, .int v285), (3, .int (sp_bc x278)), (0, .ref (w 0)), (1, .int xg), (2, .int xp)]) hx hb dX7_owner_77 hl (by decide) rfl (fun ls hl => ?_)
              have hLP286 : ∀ (n : Nat) (y287 y288 : Int32) (ls : Array Slot), (8 - y287.toInt).toNat < n → 0 ≤ y287.toInt → (True) → lv_has ls 6 [(5, .int y287), (4, .int y288), (3, .int (sp_bc x278)), (0, .ref (w 0)), (1, .int xg), (2, .int xp)] → W p l e (headSpec wsX7_owner ({ frames := 2, cells := 0, slots := 0, locals := 50 })).room s m ([.ref (w 0), .int xg, .int xp] : List Value).toArray below meth c s.heap [] 0 0 Qz (F0 m 79 ls []) := by
                intro n
                induction n with
                | zero => intro y287 y288 ls hms; exact absurd hms (Nat.not_lt_zero _)
                | succ n ih286 =>
                  intro y287 y288 ls hms hnn286 hiv286 hl
                  refine lv_iload hx hb dX7_owner_79 (lv_at hl 0 rfl) ?_
                  refine lv_bipush (v := 8) hx hb dX7_owner_81 (by decide) ?_
                  refine lv_icmp_ge (tgt := 120) hx hb dX7_owner_83 (by decide) (fun c289 => ?_) (fun c289 => ?_)
                  · have kc289 : 8 ≤ y287.toInt := by have h9 := c289; rw [xk_le, xk_8] at h9; exact h9
                    refine lv_bipush (v := (-2)) hx hb dX7_owner_120 (by decide) ?_
                    rw [hQz]
                    exact W.iret (v := (-2)) hx hb hr (fun t ht hW => ⟨(-2), rfl, trivial, ht⟩) (fun _ h => by cases h) dX7_owner_122
                  · have kc289 : ¬ (8 ≤ y287.toInt) := by have h9 := c289; rw [xk_le, xk_8] at h9; exact h9
                    refine lv_aload_n hx hb dX7_owner_86 rfl (lv_at hl 3 rfl) ?_
                    obtain ⟨j290, hj290⟩ := wG_7 (cy := cy) (N := N) (T := T) (I := I) (Q := Q) (J := J) (hM.at 0 (by decide)) (hM.k 0 (by decide) rfl)
                    refine va_get (D := (dC, dI)) (ci := 7) (v := .ref (T (w 0) 12)) (C := RX7) (T := TX7) (N := 18) hx hb hts hi7 hown hK hP j290 hj290 rfl 12 (by decide) (hts (.fieldLink RX7 49 "TallyLogsModel" "members" "[I") (by decide +kernel)) (fun _ h9 => h9) rfl dX7_owner_87 ?_
                    refine W.eq (g2 := F0 m 90 ls [.ref (w 13)]) (by rw [hM.t 12 (by decide)]) ?_
                    refine lv_iload_n hx hb dX7_owner_90 rfl (lv_at hl 4 rfl) ?_
                    obtain ⟨j291, hj291⟩ := wG_20 (cy := cy) (N := N) (T := T) (I := I) (Q := Q) (J := J) (hM.at 13 (by decide)) (hM.k 13 (by decide) rfl)
                    refine va_iald hx hb hK hP j291 1 hj291 rfl (hM.inN (n := 4) 13 (by decide) rfl rfl hin271) dX7_owner_91 ?_
                    refine lv_topi (fun x292 ex292 => ?_)
                    refine lv_iload hx hb dX7_owner_92 (lv_at hl 0 rfl) ?_
                    refine lv_ishr hx hb dX7_owner_94 ?_
                    refine lv_topi (fun v293 ev293 => ?_)
                    refine lv_iconst (v := 1) hx hb dX7_owner_95 (by decide) ?_
                    refine lv_iand hx hb dX7_owner_96 ?_
                    refine lv_topi (fun v294 ev294 => ?_)
                    refine lv_if_ne (tgt := 103) hx hb dX7_owner_97 (by decide) (fun c295 => ?_) (fun c295 => ?_)
                    · have kc295 : ¬ (v294.toInt = 0) := by have h9 := c295; rw [xk_eq, xk_0] at h9; exact h9
                      refine lv_iload hx hb dX7_owner_103 (lv_at hl 1 rfl) ?_
                      refine lv_if_ne (tgt := 111) hx hb dX7_owner_105 (by decide) (fun c296 => ?_) (fun c296 => ?_)
                      · have kc296 : ¬ (y288.toInt = 0) := by have h9 := c296; rw [xk_eq, xk_0] at h9; exact h9
                        obtain ⟨v297, ev297⟩ : ∃ y : Int32, y = y288 + Int32.ofInt (-1) := ⟨_, rfl⟩
                        refine lv_iinc (v := v297) (lv' := [(4, .int v297), (5, .int y287), (3, .int (sp_bc x278)), (0, .ref (w 0)), (1, .int xg), (2, .int xp)]) hx hb dX7_owner_111 hl (k := 1) rfl ev297.symm (by decide) rfl (fun ls hl => ?_)
                        obtain ⟨v298, ev298⟩ : ∃ y : Int32, y = y287 + Int32.ofInt 1 := ⟨_, rfl⟩
                        refine lv_iinc (v := v298) (lv' := [(5, .int v298), (4, .int v297), (3, .int (sp_bc x278)), (0, .ref (w 0)), (1, .int xg), (2, .int xp)]) hx hb dX7_owner_114 hl (k := 1) rfl ev298.symm (by decide) rfl (fun ls hl => ?_)
                        refine lv_goto (tgt := 79) hx hb dX7_owner_117 (by decide) ?_
                        have tv298 : v298.toInt = y287.toInt + 1 := by rw [ev298, show y287 + Int32.ofInt 1 = y287 + 1 from rfl]; exact xinc (y := (8 : Int32)) (by rw [xk_lt, xk_8]; omega)
                        exact ih286 _ _ _ (by omega) (by omega) (trivial)  (lv_sub hl [0, 1, 2, 3, 4, 5] rfl)
                      · have kc296 : y288.toInt = 0 := by have h9 := c296; rw [xk_eq, xk_0] at h9; exact h9
                        refine lv_iload hx hb dX7_owner_108 (lv_at hl 0 rfl) ?_
                        rw [hQz]
                        exact W.iret (v := y287) hx hb hr (fun t ht hW => ⟨y287, rfl, trivial, ht⟩) (fun _ h => by cases h) dX7_owner_110
                    · have kc295 : v294.toInt = 0 := by have h9 := c295; rw [xk_eq, xk_0] at h9; exact h9
                      refine lv_goto (tgt := 114) hx hb dX7_owner_100 (by decide) ?_
                      obtain ⟨v299, ev299⟩ : ∃ y : Int32, y = y287 + Int32.ofInt 1 := ⟨_, rfl⟩
                      refine lv_iinc (v := v299) (lv' := [(5, .int v299), (4, .int y288), (3, .int (sp_bc x278)), (0, .ref (w 0)), (1, .int xg), (2, .int xp)]) hx hb dX7_owner_114 hl (k := 0) rfl ev299.symm (by decide) rfl (fun ls hl => ?_)
                      refine lv_goto (tgt := 79) hx hb dX7_owner_117 (by decide) ?_
                      have tv299 : v299.toInt = y287.toInt + 1 := by rw [ev299, show y287 + Int32.ofInt 1 = y287 + 1 from rfl]; exact xinc (y := (8 : Int32)) (by rw [xk_lt, xk_8]; omega)
                      exact ih286 _ _ _ (by omega) (by omega) (trivial)  (lv_sub hl [0, 1, 2, 3, 4, 5] rfl)
              exact hLP286 _ _ _ _ (Nat.lt_succ_self _) (by decide) (trivial)  (lv_sub hl [0, 1, 2, 3, 4, 5] rfl)
            · have kc284 : ¬ (xp.toInt ≤ y282.toInt) := by have h9 := c284; rw [xk_le] at h9; exact h9
              refine lv_aload_n hx hb dX7_owner_51 rfl (lv_at hl 3 rfl) ?_
              obtain ⟨j300, hj300⟩ := wG_7 (cy := cy) (N := N) (T := T) (I := I) (Q := Q) (J := J) (hM.at 0 (by decide)) (hM.k 0 (by decide) rfl)
              refine va_get (D := (dC, dI)) (ci := 7) (v := .ref (T (w 0) 1)) (C := RX7) (T := TX7) (N := 18) hx hb hts hi7 hown hK hP j300 hj300 rfl 1 (by decide) (hts (.fieldLink RX7 14 "TallyLogsModel" "there" "[Z") (by decide +kernel)) (fun _ h9 => h9) rfl dX7_owner_52 ?_
              refine W.eq (g2 := F0 m 55 ls [.ref (w 2)]) (by rw [hM.t 1 (by decide)]) ?_
              refine lv_iload hx hb dX7_owner_55 (lv_at hl 0 rfl) ?_
              have hin301 : vp_in y282 4 := by have h9 := vp_in_iff.mp hth275.1; exact xin_of (by omega) (by omega)
              obtain ⟨j302, hj302⟩ := wG_21 (cy := cy) (N := N) (T := T) (I := I) (Q := Q) (J := J) (hM.at 2 (by decide)) (hM.k 2 (by decide) rfl)
              refine va_zald hx hb hK hP j302 0 hj302 rfl hin301 dX7_owner_57 ?_
              refine lv_topi (fun x303 ex303 => ?_)
              refine lv_if_eq (tgt := 64) hx hb dX7_owner_58 (by decide) (fun c304 => ?_) (fun c304 => ?_)
              · have kc304 : x303.toInt = 0 := by have h9 := c304; rw [xk_eq, xk_0] at h9; exact h9
                obtain ⟨v305, ev305⟩ : ∃ y : Int32, y = y282 + Int32.ofInt 1 := ⟨_, rfl⟩
                refine lv_iinc (v := v305) (lv' := [(5, .int v305), (4, .int y283), (3, .int (sp_bc x278)), (0, .ref (w 0)), (1, .int xg), (2, .int xp)]) hx hb dX7_owner_64 hl (k := 0) rfl ev305.symm (by decide) rfl (fun ls hl => ?_)
                refine lv_goto (tgt := 45) hx hb dX7_owner_67 (by decide) ?_
                have tv305 : v305.toInt = y282.toInt + 1 := by rw [ev305, show y282 + Int32.ofInt 1 = y282 + 1 from rfl]; exact xinc (y := xp) (by rw [xk_lt]; omega)
                exact ih281 _ _ _ (by omega) (by omega) (trivial)  (lv_sub hl [0, 1, 2, 3, 4, 5] rfl)
              · have kc304 : ¬ (x303.toInt = 0) := by have h9 := c304; rw [xk_eq, xk_0] at h9; exact h9
                obtain ⟨v306, ev306⟩ : ∃ y : Int32, y = y283 + Int32.ofInt 1 := ⟨_, rfl⟩
                refine lv_iinc (v := v306) (lv' := [(4, .int v306), (5, .int y282), (3, .int (sp_bc x278)), (0, .ref (w 0)), (1, .int xg), (2, .int xp)]) hx hb dX7_owner_61 hl (k := 1) rfl ev306.symm (by decide) rfl (fun ls hl => ?_)
                obtain ⟨v307, ev307⟩ : ∃ y : Int32, y = y282 + Int32.ofInt 1 := ⟨_, rfl⟩
                refine lv_iinc (v := v307) (lv' := [(5, .int v307), (4, .int v306), (3, .int (sp_bc x278)), (0, .ref (w 0)), (1, .int xg), (2, .int xp)]) hx hb dX7_owner_64 hl (k := 1) rfl ev307.symm (by decide) rfl (fun ls hl => ?_)
                refine lv_goto (tgt := 45) hx hb dX7_owner_67 (by decide) ?_
                have tv307 : v307.toInt = y282.toInt + 1 := by rw [ev307, show y282 + Int32.ofInt 1 = y282 + 1 from rfl]; exact xinc (y := xp) (by rw [xk_lt]; omega)
                exact ih281 _ _ _ (by omega) (by omega) (trivial)  (lv_sub hl [0, 1, 2, 3, 4, 5] rfl)
        exact hLP281 _ _ _ _ (Nat.lt_succ_self _) (by decide) (trivial)  (lv_sub hl [0, 1, 2, 3, 4, 5] rfl)
      · have kc280 : (sp_bc x278).toInt = 0 := by have h9 := c280; rw [xk_eq, xk_0] at h9; exact h9
        refine lv_bipush (v := (-2)) hx hb dX7_owner_39 (by decide) ?_
        exact W.iret (v := (-2)) hx hb hr (fun t ht hW => ⟨(-2), rfl, trivial, ht⟩) (fun _ h => by cases h) dX7_owner_41
    · have kc274 : r272.toInt = 0 := by have h9 := c274; rw [xk_eq, xk_0] at h9; exact h9
      refine lv_iconst (v := (-1)) hx hb dX7_owner_20 (by decide) ?_
      exact W.iret (v := (-1)) hx hb hr (fun t ht hW => ⟨(-1), rfl, trivial, ht⟩) (fun _ h => by cases h) dX7_owner_21
set_option maxHeartbeats 4000000 in
set_option maxRecDepth 100000 in
/-- log -/
theorem c_X7_log (l : Launch) (dC : Nat → ClassId) (dI : Nat → Nat → Nat) (cy : Nat → ClassId) (w : Nat → Nat) (L : List Nat) (K N : Nat → Nat) (T : Nat → Nat → Nat) (Q : Nat → Nat → Option Nat) (I J : Nat → Nat → Int32) (xn : Int32) (xp : Int32) (wh : Int32) (hM : MS w L K N T Q) : Met l yX7_log wsX7_log ({ frames := 3, cells := 0, slots := 0, locals := 74 }) (va_Pc [.ref (w 0), .int xn, .int xp, .int wh] (mB dC dI cy L (wF cy K N T I Q J))) (vp_Si (fun r => True)) 0 0 (fun _ => False) := by
  refine Met.ofW (cc := cX7_log) (maxL := 5) (ret := (some .int)) (by decide) rfl ?_
  intro p e s m args below meth c s₁ B hml hv
  obtain ⟨rfl, hP, hK⟩ := hv
  have hx := B.exec
  have hb := B.bytes
  have hr := B.returns
  have hts := atoms_spec (ws := wsX7_log) B.pre
  have hown : s.vm.findClass RX7 = some m.cls := findClass_of_methodNamed B.named
  have hlocks := B.notSynchronized
  have hi7 : ∀ w ∈ wsX70, w ∈ wsX7_log := by decide +kernel
  have hi6 : ∀ w ∈ wsX60, w ∈ wsX7_log := by decide +kernel
  have hl := lv_entry ([.ref (w 0), .int xn, .int xp, .int wh]) (n := 5) (Nat.le_of_ble_eq_true rfl)
  rw [lg_entry_eq]
  generalize (lg_sl ([.ref (w 0), .int xn, .int xp, .int wh]) ++ List.replicate (5 - (lg_sl ([.ref (w 0), .int xn, .int xp, .int wh])).length) Slot.unset).toArray = ls at hl ⊢
  have hl : lv_has ls 5 [(0, .ref (w 0)), (1, .int xn), (2, .int xp), (3, .int wh)] := hl
  refine lv_aload_n hx hb dX7_log_0 rfl (lv_at hl 0 rfl) ?_
  refine lv_iload_n hx hb dX7_log_1 rfl (lv_at hl 1 rfl) ?_
  refine lv_iload_n hx hb dX7_log_2 rfl (lv_at hl 2 rfl) ?_
  obtain ⟨j309, hj309⟩ := wG_7 (cy := cy) (N := N) (T := T) (I := I) (Q := Q) (J := J) (hM.at 0 (by decide)) (hM.k 0 (by decide) rfl)
  refine vp_callSi (W.runV (As := [.int xn, .int xp]) (rest := []) ⟨hx, hb, hml, hown, hts⟩ (c_X7_isReplica l dC dI cy w L K N T Q I J xn xp hM) (cwV 2 hts gX7_log_X7_isReplica rfl rfl rfl (by decide +kernel) ⟨Nat.le_of_ble_eq_true rfl, Nat.le_of_ble_eq_true rfl⟩) ⟨mb_blind, va_recv hK hP (ci := 7) (q0 := j309) rfl hj309, fun U hU hW => ⟨rfl, mb_pre hP hK hU hW⟩⟩ rfl rfl hl.1 rfl (lv_room (Nat.le_of_ble_eq_true rfl)) dX7_log_3 ⟨Nat.le_of_ble_eq_true rfl, Nat.le_of_ble_eq_true rfl⟩) (fun r308 hr308 => ?_)
  refine lv_if_eq (tgt := 21) hx hb dX7_log_6 (by decide) (fun c310 => ?_) (fun c310 => ?_)
  · have kc310 : r308.toInt = 0 := by have h9 := c310; rw [xk_eq, xk_0] at h9; exact h9
    refine lv_iconst (v := (-1)) hx hb dX7_log_21 (by decide) ?_
    exact W.iret (v := (-1)) hx hb hr (fun t ht hW => ⟨(-1), rfl, trivial, ht⟩) (fun _ h => by cases h) dX7_log_22
  · have hrp311 := hr308.resolve_left c310
    have kc310 : ¬ (r308.toInt = 0) := by have h9 := c310; rw [xk_eq, xk_0] at h9; exact h9
    refine lv_iload_n hx hb dX7_log_9 rfl (lv_at hl 3 rfl) ?_
    refine lv_i2l (v := wh.toInt64) hx hb dX7_log_10 rfl ?_
    refine lv_lconst (v := 0) hx hb dX7_log_11 (by decide) ?_
    refine lv_ldc2 hx hb hown (hts (.constantLong RX7 129 5) (by decide +kernel)) dX7_log_12 ?_
    refine vp_callSi (W.runS (As := [.long wh.toInt64, .long 0, .long 5]) (rest := []) ⟨hx, hb, hml, hown, hts⟩ (c_X7_in l wh.toInt64 0 5) (va_cwS 3 hts gX7_log_X7_in rfl rfl rfl (by decide +kernel) ⟨Nat.le_of_ble_eq_true rfl, Nat.le_of_ble_eq_true rfl⟩) preEq rfl rfl hl.1 rfl (lv_room (Nat.le_of_ble_eq_true rfl)) dX7_log_15 ⟨Nat.le_of_ble_eq_true rfl, Nat.le_of_ble_eq_true rfl⟩) (fun r312 hr312 => ?_)
    subst hr312
    refine lv_if_ne (tgt := 23) hx hb dX7_log_18 (by decide) (fun c313 => ?_) (fun c313 => ?_)
    · have hin314 : vp_in wh 6 := xin_sp c313 (by decide)
      refine lv_aload_n hx hb dX7_log_23 rfl (lv_at hl 0 rfl) ?_
      obtain ⟨j315, hj315⟩ := wG_7 (cy := cy) (N := N) (T := T) (I := I) (Q := Q) (J := J) (hM.at 0 (by decide)) (hM.k 0 (by decide) rfl)
      refine va_get (D := (dC, dI)) (ci := 7) (v := .ref (T (w 0) 0)) (C := RX7) (T := TX7) (N := 18) hx hb hts hi7 hown hK hP j315 hj315 rfl 0 (by decide) (hts (.fieldLink RX7 11 "TallyLogsModel" "log" "[[LTallyLogsModel$Log;") (by decide +kernel)) (fun _ h9 => h9) rfl dX7_log_24 ?_
      refine W.eq (g2 := F0 m 27 ls [.ref (w 1)]) (by rw [hM.t 0 (by decide)]) ?_
      refine lv_iload_n hx hb dX7_log_27 rfl (lv_at hl 2 rfl) ?_
      obtain ⟨j316, hj316⟩ := wG_22 (cy := cy) (N := N) (T := T) (I := I) (Q := Q) (J := J) (hM.at 1 (by decide)) (hM.k 1 (by decide) rfl)
      refine xg_aldg hx hb hK hP j316 2 hj316 rfl hrp311.1 dX7_log_28 ?_
      refine W.eq (g2 := F0 m 29 ls [.ref (w (17 + xp.toNatClampNeg))]) (by rw [hM.qo (vp_lt (n := 4) hrp311.1)]; rfl) ?_
      refine lv_iload_n hx hb dX7_log_29 rfl (lv_at hl 1 rfl) ?_
      obtain ⟨j317, hj317⟩ := wG_23 (cy := cy) (N := N) (T := T) (I := I) (Q := Q) (J := J) (hM.row (vp_lt (n := 4) hrp311.1)).1 (hM.row (vp_lt (n := 4) hrp311.1)).2
      refine va_aldq hx hb hK hP j317 3 hj317 rfl hrp311.2 dX7_log_30 ?_
      have hjl318 : (5 * xp.toNatClampNeg + xn.toNatClampNeg) < 20 := by have h1 := (vp_lt (n := 4) hrp311.1); have h2 := (vp_lt (n := 5) hrp311.2); omega
      refine W.eq (g2 := F0 m 31 ls [.ref (w (21 + (5 * xp.toNatClampNeg + xn.toNatClampNeg)))]) (by rw [hM.qr (vp_lt (n := 4) hrp311.1) (vp_lt (n := 5) hrp311.2)]; rfl) ?_
      refine lv_astore (lv' := [(4, .ref (w (21 + (5 * xp.toNatClampNeg + xn.toNatClampNeg)))), (0, .ref (w 0)), (1, .int xn), (2, .int xp), (3, .int wh)]) hx hb dX7_log_31 hl (by decide) rfl (fun ls hl => ?_)
      refine lv_iload_n hx hb dX7_log_33 rfl (lv_at hl 4 rfl) ?_
      by_cases hw319 : wh = 0
      · obtain rfl : wh = 0 := hw319
        refine lv_tableIn (off := 34) (tgt := 68) hx hb dX7_log_34 (by decide) (by decide) (by decide +kernel) (by decide) ?_
        refine lv_aload hx hb dX7_log_68 (lv_at hl 0 rfl) ?_
        obtain ⟨j320, hj320⟩ := wG_6 (cy := cy) (N := N) (T := T) (I := I) (Q := Q) (J := J) (hM.lg hjl318).1 (hM.lg hjl318).2
        refine va_get (D := (dC, dI)) (ci := 6) (v := .int (I (w (21 + (5 * xp.toNatClampNeg + xn.toNatClampNeg))) 1)) (C := RX6) (T := TX6) (N := 7) hx hb hts hi6 hown hK hP j320 hj320 rfl 1 (by decide) (hts (.fieldLink RX7 134 "TallyLogsModel$Log" "start" "I") (by decide +kernel)) (fun _ h9 => h9) rfl dX7_log_70 ?_
        refine lv_topi (fun x321 ex321 => ?_)
        have tx321 : x321.toInt = (I (w (21 + (5 * xp.toNatClampNeg + xn.toNatClampNeg))) 1).toInt := congrArg Int32.toInt ex321
        exact W.iret (v := x321) hx hb hr (fun t ht hW => ⟨x321, rfl, trivial, ht⟩) (fun _ h => by cases h) dX7_log_73
      by_cases hw322 : wh = 1
      · obtain rfl : wh = 1 := hw322
        refine lv_tableIn (off := 40) (tgt := 74) hx hb dX7_log_34 (by decide) (by decide) (by decide +kernel) (by decide) ?_
        refine lv_aload hx hb dX7_log_74 (lv_at hl 0 rfl) ?_
        obtain ⟨j323, hj323⟩ := wG_6 (cy := cy) (N := N) (T := T) (I := I) (Q := Q) (J := J) (hM.lg hjl318).1 (hM.lg hjl318).2
        refine va_get (D := (dC, dI)) (ci := 6) (v := .int (I (w (21 + (5 * xp.toNatClampNeg + xn.toNatClampNeg))) 2)) (C := RX6) (T := TX6) (N := 7) hx hb hts hi6 hown hK hP j323 hj323 rfl 2 (by decide) (hts (.fieldLink RX7 89 "TallyLogsModel$Log" "end" "I") (by decide +kernel)) (fun _ h9 => h9) rfl dX7_log_76 ?_
        refine lv_topi (fun x324 ex324 => ?_)
        have tx324 : x324.toInt = (I (w (21 + (5 * xp.toNatClampNeg + xn.toNatClampNeg))) 2).toInt := congrArg Int32.toInt ex324
        exact W.iret (v := x324) hx hb hr (fun t ht hW => ⟨x324, rfl, trivial, ht⟩) (fun _ h => by cases h) dX7_log_79
      by_cases hw325 : wh = 2
      · obtain rfl : wh = 2 := hw325
        refine lv_tableIn (off := 46) (tgt := 80) hx hb dX7_log_34 (by decide) (by decide) (by decide +kernel) (by decide) ?_
        refine lv_aload hx hb dX7_log_80 (lv_at hl 0 rfl) ?_
        obtain ⟨j326, hj326⟩ := wG_6 (cy := cy) (N := N) (T := T) (I := I) (Q := Q) (J := J) (hM.lg hjl318).1 (hM.lg hjl318).2
        refine va_get (D := (dC, dI)) (ci := 6) (v := .int (I (w (21 + (5 * xp.toNatClampNeg + xn.toNatClampNeg))) 3)) (C := RX6) (T := TX6) (N := 7) hx hb hts hi6 hown hK hP j326 hj326 rfl 3 (by decide) (hts (.fieldLink RX7 109 "TallyLogsModel$Log" "high" "I") (by decide +kernel)) (fun _ h9 => h9) rfl dX7_log_82 ?_
        refine lv_topi (fun x327 ex327 => ?_)
        have tx327 : x327.toInt = (I (w (21 + (5 * xp.toNatClampNeg + xn.toNatClampNeg))) 3).toInt := congrArg Int32.toInt ex327
        exact W.iret (v := x327) hx hb hr (fun t ht hW => ⟨x327, rfl, trivial, ht⟩) (fun _ h => by cases h) dX7_log_85
      by_cases hw328 : wh = 3
      · obtain rfl : wh = 3 := hw328
        refine lv_tableIn (off := 52) (tgt := 86) hx hb dX7_log_34 (by decide) (by decide) (by decide +kernel) (by decide) ?_
        refine lv_aload hx hb dX7_log_86 (lv_at hl 0 rfl) ?_
        obtain ⟨j329, hj329⟩ := wG_6 (cy := cy) (N := N) (T := T) (I := I) (Q := Q) (J := J) (hM.lg hjl318).1 (hM.lg hjl318).2
        refine va_get (D := (dC, dI)) (ci := 6) (v := .int (I (w (21 + (5 * xp.toNatClampNeg + xn.toNatClampNeg))) 4)) (C := RX6) (T := TX6) (N := 7) hx hb hts hi6 hown hK hP j329 hj329 rfl 4 (by decide) (hts (.fieldLink RX7 158 "TallyLogsModel$Log" "flushed" "I") (by decide +kernel)) (fun _ h9 => h9) rfl dX7_log_88 ?_
        refine lv_topi (fun x330 ex330 => ?_)
        have tx330 : x330.toInt = (I (w (21 + (5 * xp.toNatClampNeg + xn.toNatClampNeg))) 4).toInt := congrArg Int32.toInt ex330
        exact W.iret (v := x330) hx hb hr (fun t ht hW => ⟨x330, rfl, trivial, ht⟩) (fun _ h => by cases h) dX7_log_91
      by_cases hw331 : wh = 4
      · obtain rfl : wh = 4 := hw331
        refine lv_tableIn (off := 58) (tgt := 92) hx hb dX7_log_34 (by decide) (by decide) (by decide +kernel) (by decide) ?_
        refine lv_aload_n hx hb dX7_log_92 rfl (lv_at hl 1 rfl) ?_
        refine lv_iload_n hx hb dX7_log_93 rfl (lv_at hl 3 rfl) ?_
        refine lv_iload_n hx hb dX7_log_94 rfl (lv_at hl 2 rfl) ?_
        obtain ⟨j333, hj333⟩ := wG_7 (cy := cy) (N := N) (T := T) (I := I) (Q := Q) (J := J) (hM.at 0 (by decide)) (hM.k 0 (by decide) rfl)
        refine vp_callSi (W.runV (As := [.int xp, .int xn]) (rest := []) ⟨hx, hb, hml, hown, hts⟩ (c_X7_known l dC dI cy w L K N T Q I J xp xn hM hrp311.1 hrp311.2) (cwV 2 hts gX7_log_X7_known rfl rfl rfl (by decide +kernel) ⟨Nat.le_of_ble_eq_true rfl, Nat.le_of_ble_eq_true rfl⟩) ⟨mb_blind, va_recv hK hP (ci := 7) (q0 := j333) rfl hj333, fun U hU hW => ⟨rfl, mb_pre hP hK hU hW⟩⟩ rfl rfl hl.1 rfl (lv_room (Nat.le_of_ble_eq_true rfl)) dX7_log_95 ⟨Nat.le_of_ble_eq_true rfl, Nat.le_of_ble_eq_true rfl⟩) (fun r332 hr332 => ?_)
        exact W.iret (v := r332) hx hb hr (fun t ht hW => ⟨r332, rfl, trivial, ht⟩) (fun _ h => by cases h) dX7_log_98
      refine lv_tableOut (tgt := 99) hx hb dX7_log_34 (by simp only [xk_eq, xk_lt, xk_le, xk_0, xk_1, xk_2, xk_3, xk_4, xk_5, xk_6, xk_7, xk_8, xk_50] at hw319 hw322 hw325 hw328 hw331; omega) (by decide) ?_
      refine lv_aload hx hb dX7_log_99 (lv_at hl 0 rfl) ?_
      obtain ⟨j334, hj334⟩ := wG_6 (cy := cy) (N := N) (T := T) (I := I) (Q := Q) (J := J) (hM.lg hjl318).1 (hM.lg hjl318).2
      refine va_get (D := (dC, dI)) (ci := 6) (v := .int (I (w (21 + (5 * xp.toNatClampNeg + xn.toNatClampNeg))) 6)) (C := RX6) (T := TX6) (N := 7) hx hb hts hi6 hown hK hP j334 hj334 rfl 6 (by decide) (hts (.fieldLink RX7 122 "TallyLogsModel$Log" "caught" "I") (by decide +kernel)) (fun _ h9 => h9) rfl dX7_log_101 ?_
      refine lv_topi (fun x335 ex335 => ?_)
      have tx335 : x335.toInt = (I (w (21 + (5 * xp.toNatClampNeg + xn.toNatClampNeg))) 6).toInt := congrArg Int32.toInt ex335
      exact W.iret (v := x335) hx hb hr (fun t ht hW => ⟨x335, rfl, trivial, ht⟩) (fun _ h => by cases h) dX7_log_104
    · refine lv_iconst (v := (-1)) hx hb dX7_log_21 (by decide) ?_
      exact W.iret (v := (-1)) hx hb hr (fun t ht hW => ⟨(-1), rfl, trivial, ht⟩) (fun _ h => by cases h) dX7_log_22
set_option maxHeartbeats 4000000 in
set_option maxRecDepth 100000 in
/-- record -/
theorem c_X7_record (l : Launch) (dC : Nat → ClassId) (dI : Nat → Nat → Nat) (cy : Nat → ClassId) (w : Nat → Nat) (L : List Nat) (K N : Nat → Nat) (T : Nat → Nat → Nat) (Q : Nat → Nat → Option Nat) (I J : Nat → Nat → Int32) (xn : Int32) (xp : Int32) (xo : Int32) (wh : Int32) (hM : MS w L K N T Q) (E : Int) (hI : MI w E I J) : Met l yX7_record wsX7_record ({ frames := 3, cells := 0, slots := 0, locals := 74 }) (va_Pc [.ref (w 0), .int xn, .int xp, .int xo, .int wh] (mB dC dI cy L (wF cy K N T I Q J))) (vp_Sl (fun r => True)) 0 0 (fun _ => False) := by
  refine Met.ofW (cc := cX7_record) (maxL := 5) (ret := (some .long)) (by decide) rfl ?_
  intro p e s m args below meth c s₁ B hml hv
  obtain ⟨rfl, hP, hK⟩ := hv
  have hx := B.exec
  have hb := B.bytes
  have hr := B.returns
  have hts := atoms_spec (ws := wsX7_record) B.pre
  have hown : s.vm.findClass RX7 = some m.cls := findClass_of_methodNamed B.named
  have hlocks := B.notSynchronized
  have hi7 : ∀ w ∈ wsX70, w ∈ wsX7_record := by decide +kernel
  have hi6 : ∀ w ∈ wsX60, w ∈ wsX7_record := by decide +kernel
  have hl := lv_entry ([.ref (w 0), .int xn, .int xp, .int xo, .int wh]) (n := 5) (Nat.le_of_ble_eq_true rfl)
  rw [lg_entry_eq]
  generalize (lg_sl ([.ref (w 0), .int xn, .int xp, .int xo, .int wh]) ++ List.replicate (5 - (lg_sl ([.ref (w 0), .int xn, .int xp, .int xo, .int wh])).length) Slot.unset).toArray = ls at hl ⊢
  have hl : lv_has ls 5 [(0, .ref (w 0)), (1, .int xn), (2, .int xp), (3, .int xo), (4, .int wh)] := hl
  obtain ⟨hML, hMD, hMU⟩ := hI
  refine lv_aload_n hx hb dX7_record_0 rfl (lv_at hl 0 rfl) ?_
  refine lv_iload_n hx hb dX7_record_1 rfl (lv_at hl 1 rfl) ?_
  refine lv_iload_n hx hb dX7_record_2 rfl (lv_at hl 2 rfl) ?_
  obtain ⟨j337, hj337⟩ := wG_7 (cy := cy) (N := N) (T := T) (I := I) (Q := Q) (J := J) (hM.at 0 (by decide)) (hM.k 0 (by decide) rfl)
  refine vp_callSi (W.runV (As := [.int xn, .int xp]) (rest := []) ⟨hx, hb, hml, hown, hts⟩ (c_X7_isReplica l dC dI cy w L K N T Q I J xn xp hM) (cwV 2 hts gX7_record_X7_isReplica rfl rfl rfl (by decide +kernel) ⟨Nat.le_of_ble_eq_true rfl, Nat.le_of_ble_eq_true rfl⟩) ⟨mb_blind, va_recv hK hP (ci := 7) (q0 := j337) rfl hj337, fun U hU hW => ⟨rfl, mb_pre hP hK hU hW⟩⟩ rfl rfl hl.1 rfl (lv_room (Nat.le_of_ble_eq_true rfl)) dX7_record_3 ⟨Nat.le_of_ble_eq_true rfl, Nat.le_of_ble_eq_true rfl⟩) (fun r336 hr336 => ?_)
  refine lv_if_eq (tgt := 56) hx hb dX7_record_6 (by decide) (fun c338 => ?_) (fun c338 => ?_)
  · have kc338 : r336.toInt = 0 := by have h9 := c338; rw [xk_eq, xk_0] at h9; exact h9
    refine lv_ldc2 hx hb hown (hts (.constantLong RX7 185 1099511627776) (by decide +kernel)) dX7_record_56 ?_
    exact W.lret (v := 1099511627776) hx hb hr (fun t ht hW => ⟨1099511627776, rfl, trivial, ht⟩) (fun _ h => by cases h) dX7_record_59
  · have hrp339 := hr336.resolve_left c338
    have kc338 : ¬ (r336.toInt = 0) := by have h9 := c338; rw [xk_eq, xk_0] at h9; exact h9
    refine lv_iload hx hb dX7_record_9 (lv_at hl 4 rfl) ?_
    refine lv_i2l (v := wh.toInt64) hx hb dX7_record_11 rfl ?_
    refine lv_lconst (v := 0) hx hb dX7_record_12 (by decide) ?_
    refine lv_ldc2 hx hb hown (hts (.constantLong RX7 183 6) (by decide +kernel)) dX7_record_13 ?_
    refine vp_callSi (W.runS (As := [.long wh.toInt64, .long 0, .long 6]) (rest := []) ⟨hx, hb, hml, hown, hts⟩ (c_X7_in l wh.toInt64 0 6) (va_cwS 3 hts gX7_record_X7_in rfl rfl rfl (by decide +kernel) ⟨Nat.le_of_ble_eq_true rfl, Nat.le_of_ble_eq_true rfl⟩) preEq rfl rfl hl.1 rfl (lv_room (Nat.le_of_ble_eq_true rfl)) dX7_record_16 ⟨Nat.le_of_ble_eq_true rfl, Nat.le_of_ble_eq_true rfl⟩) (fun r340 hr340 => ?_)
    subst hr340
    refine lv_if_eq (tgt := 56) hx hb dX7_record_19 (by decide) (fun c341 => ?_) (fun c341 => ?_)
    · refine lv_ldc2 hx hb hown (hts (.constantLong RX7 185 1099511627776) (by decide +kernel)) dX7_record_56 ?_
      exact W.lret (v := 1099511627776) hx hb hr (fun t ht hW => ⟨1099511627776, rfl, trivial, ht⟩) (fun _ h => by cases h) dX7_record_59
    · have hin342 : vp_in wh 7 := xin_sp c341 (by decide)
      refine lv_iload_n hx hb dX7_record_22 rfl (lv_at hl 3 rfl) ?_
      refine lv_i2l (v := xo.toInt64) hx hb dX7_record_23 rfl ?_
      refine lv_aload_n hx hb dX7_record_24 rfl (lv_at hl 0 rfl) ?_
      obtain ⟨j343, hj343⟩ := wG_7 (cy := cy) (N := N) (T := T) (I := I) (Q := Q) (J := J) (hM.at 0 (by decide)) (hM.k 0 (by decide) rfl)
      refine va_get (D := (dC, dI)) (ci := 7) (v := .ref (T (w 0) 0)) (C := RX7) (T := TX7) (N := 18) hx hb hts hi7 hown hK hP j343 hj343 rfl 0 (by decide) (hts (.fieldLink RX7 11 "TallyLogsModel" "log" "[[LTallyLogsModel$Log;") (by decide +kernel)) (fun _ h9 => h9) rfl dX7_record_25 ?_
      refine W.eq (g2 := F0 m 28 ls [.ref (w 1), .long xo.toInt64]) (by rw [hM.t 0 (by decide)]) ?_
      refine lv_iload_n hx hb dX7_record_28 rfl (lv_at hl 2 rfl) ?_
      obtain ⟨j344, hj344⟩ := wG_22 (cy := cy) (N := N) (T := T) (I := I) (Q := Q) (J := J) (hM.at 1 (by decide)) (hM.k 1 (by decide) rfl)
      refine xg_aldg hx hb hK hP j344 2 hj344 rfl hrp339.1 dX7_record_29 ?_
      refine W.eq (g2 := F0 m 30 ls [.ref (w (17 + xp.toNatClampNeg)), .long xo.toInt64]) (by rw [hM.qo (vp_lt (n := 4) hrp339.1)]; rfl) ?_
      refine lv_iload_n hx hb dX7_record_30 rfl (lv_at hl 1 rfl) ?_
      obtain ⟨j345, hj345⟩ := wG_23 (cy := cy) (N := N) (T := T) (I := I) (Q := Q) (J := J) (hM.row (vp_lt (n := 4) hrp339.1)).1 (hM.row (vp_lt (n := 4) hrp339.1)).2
      refine va_aldq hx hb hK hP j345 3 hj345 rfl hrp339.2 dX7_record_31 ?_
      have hjl346 : (5 * xp.toNatClampNeg + xn.toNatClampNeg) < 20 := by have h1 := (vp_lt (n := 4) hrp339.1); have h2 := (vp_lt (n := 5) hrp339.2); omega
      refine W.eq (g2 := F0 m 32 ls [.ref (w (21 + (5 * xp.toNatClampNeg + xn.toNatClampNeg))), .long xo.toInt64]) (by rw [hM.qr (vp_lt (n := 4) hrp339.1) (vp_lt (n := 5) hrp339.2)]; rfl) ?_
      obtain ⟨j347, hj347⟩ := wG_6 (cy := cy) (N := N) (T := T) (I := I) (Q := Q) (J := J) (hM.lg hjl346).1 (hM.lg hjl346).2
      refine va_get (D := (dC, dI)) (ci := 6) (v := .int (I (w (21 + (5 * xp.toNatClampNeg + xn.toNatClampNeg))) 1)) (C := RX6) (T := TX6) (N := 7) hx hb hts hi6 hown hK hP j347 hj347 rfl 1 (by decide) (hts (.fieldLink RX7 134 "TallyLogsModel$Log" "start" "I") (by decide +kernel)) (fun _ h9 => h9) rfl dX7_record_32 ?_
      refine lv_topi (fun x348 ex348 => ?_)
      have tx348 : x348.toInt = (I (w (21 + (5 * xp.toNatClampNeg + xn.toNatClampNeg))) 1).toInt := congrArg Int32.toInt ex348
      refine lv_i2l (v := x348.toInt64) hx hb dX7_record_35 rfl ?_
      refine lv_aload_n hx hb dX7_record_36 rfl (lv_at hl 0 rfl) ?_
      obtain ⟨j349, hj349⟩ := wG_7 (cy := cy) (N := N) (T := T) (I := I) (Q := Q) (J := J) (hM.at 0 (by decide)) (hM.k 0 (by decide) rfl)
      refine va_get (D := (dC, dI)) (ci := 7) (v := .ref (T (w 0) 0)) (C := RX7) (T := TX7) (N := 18) hx hb hts hi7 hown hK hP j349 hj349 rfl 0 (by decide) (hts (.fieldLink RX7 11 "TallyLogsModel" "log" "[[LTallyLogsModel$Log;") (by decide +kernel)) (fun _ h9 => h9) rfl dX7_record_37 ?_
      refine W.eq (g2 := F0 m 40 ls [.ref (w 1), .long x348.toInt64, .long xo.toInt64]) (by rw [hM.t 0 (by decide)]) ?_
      refine lv_iload_n hx hb dX7_record_40 rfl (lv_at hl 2 rfl) ?_
      obtain ⟨j350, hj350⟩ := wG_22 (cy := cy) (N := N) (T := T) (I := I) (Q := Q) (J := J) (hM.at 1 (by decide)) (hM.k 1 (by decide) rfl)
      refine xg_aldg hx hb hK hP j350 2 hj350 rfl hrp339.1 dX7_record_41 ?_
      refine W.eq (g2 := F0 m 42 ls [.ref (w (17 + xp.toNatClampNeg)), .long x348.toInt64, .long xo.toInt64]) (by rw [hM.qo (vp_lt (n := 4) hrp339.1)]; rfl) ?_
      refine lv_iload_n hx hb dX7_record_42 rfl (lv_at hl 1 rfl) ?_
      obtain ⟨j351, hj351⟩ := wG_23 (cy := cy) (N := N) (T := T) (I := I) (Q := Q) (J := J) (hM.row (vp_lt (n := 4) hrp339.1)).1 (hM.row (vp_lt (n := 4) hrp339.1)).2
      refine va_aldq hx hb hK hP j351 3 hj351 rfl hrp339.2 dX7_record_43 ?_
      have hjl352 : (5 * xp.toNatClampNeg + xn.toNatClampNeg) < 20 := by have h1 := (vp_lt (n := 4) hrp339.1); have h2 := (vp_lt (n := 5) hrp339.2); omega
      refine W.eq (g2 := F0 m 44 ls [.ref (w (21 + (5 * xp.toNatClampNeg + xn.toNatClampNeg))), .long x348.toInt64, .long xo.toInt64]) (by rw [hM.qr (vp_lt (n := 4) hrp339.1) (vp_lt (n := 5) hrp339.2)]; rfl) ?_
      obtain ⟨j353, hj353⟩ := wG_6 (cy := cy) (N := N) (T := T) (I := I) (Q := Q) (J := J) (hM.lg hjl352).1 (hM.lg hjl352).2
      refine va_get (D := (dC, dI)) (ci := 6) (v := .int (I (w (21 + (5 * xp.toNatClampNeg + xn.toNatClampNeg))) 2)) (C := RX6) (T := TX6) (N := 7) hx hb hts hi6 hown hK hP j353 hj353 rfl 2 (by decide) (hts (.fieldLink RX7 89 "TallyLogsModel$Log" "end" "I") (by decide +kernel)) (fun _ h9 => h9) rfl dX7_record_44 ?_
      refine lv_topi (fun x354 ex354 => ?_)
      have tx354 : x354.toInt = (I (w (21 + (5 * xp.toNatClampNeg + xn.toNatClampNeg))) 2).toInt := congrArg Int32.toInt ex354
      refine lv_iconst (v := 1) hx hb dX7_record_47 (by decide) ?_
      refine lv_isub hx hb dX7_record_48 ?_
      refine lv_topi (fun v355 ev355 => ?_)
      obtain ⟨ha356, hb356, hc356, hd356, he356, hf356⟩ := hML (5 * xp.toNatClampNeg + xn.toNatClampNeg) hjl352
      have hhx354 := xr_hi x354
      have tv355 : v355.toInt = x354.toInt - 1 := by rw [ev355, xsub (by rw [xk_1]; omega) (by rw [xk_1]; omega), xk_1]
      refine lv_i2l (v := v355.toInt64) hx hb dX7_record_49 rfl ?_
      refine vp_callSi (W.runS (As := [.long xo.toInt64, .long x348.toInt64, .long v355.toInt64]) (rest := []) ⟨hx, hb, hml, hown, hts⟩ (c_X7_in l xo.toInt64 x348.toInt64 v355.toInt64) (va_cwS 3 hts gX7_record_X7_in rfl rfl rfl (by decide +kernel) ⟨Nat.le_of_ble_eq_true rfl, Nat.le_of_ble_eq_true rfl⟩) preEq rfl rfl hl.1 rfl (lv_room (Nat.le_of_ble_eq_true rfl)) dX7_record_50 ⟨Nat.le_of_ble_eq_true rfl, Nat.le_of_ble_eq_true rfl⟩) (fun r357 hr357 => ?_)
      subst hr357
      refine lv_if_ne (tgt := 60) hx hb dX7_record_53 (by decide) (fun c358 => ?_) (fun c358 => ?_)
      · have hbt359 := xin_s2 c358
        refine lv_aload_n hx hb dX7_record_60 rfl (lv_at hl 0 rfl) ?_
        obtain ⟨j360, hj360⟩ := wG_7 (cy := cy) (N := N) (T := T) (I := I) (Q := Q) (J := J) (hM.at 0 (by decide)) (hM.k 0 (by decide) rfl)
        refine va_get (D := (dC, dI)) (ci := 7) (v := .ref (T (w 0) 0)) (C := RX7) (T := TX7) (N := 18) hx hb hts hi7 hown hK hP j360 hj360 rfl 0 (by decide) (hts (.fieldLink RX7 11 "TallyLogsModel" "log" "[[LTallyLogsModel$Log;") (by decide +kernel)) (fun _ h9 => h9) rfl dX7_record_61 ?_
        refine W.eq (g2 := F0 m 64 ls [.ref (w 1)]) (by rw [hM.t 0 (by decide)]) ?_
        refine lv_iload_n hx hb dX7_record_64 rfl (lv_at hl 2 rfl) ?_
        obtain ⟨j361, hj361⟩ := wG_22 (cy := cy) (N := N) (T := T) (I := I) (Q := Q) (J := J) (hM.at 1 (by decide)) (hM.k 1 (by decide) rfl)
        refine xg_aldg hx hb hK hP j361 2 hj361 rfl hrp339.1 dX7_record_65 ?_
        refine W.eq (g2 := F0 m 66 ls [.ref (w (17 + xp.toNatClampNeg))]) (by rw [hM.qo (vp_lt (n := 4) hrp339.1)]; rfl) ?_
        refine lv_iload_n hx hb dX7_record_66 rfl (lv_at hl 1 rfl) ?_
        obtain ⟨j362, hj362⟩ := wG_23 (cy := cy) (N := N) (T := T) (I := I) (Q := Q) (J := J) (hM.row (vp_lt (n := 4) hrp339.1)).1 (hM.row (vp_lt (n := 4) hrp339.1)).2
        refine va_aldq hx hb hK hP j362 3 hj362 rfl hrp339.2 dX7_record_67 ?_
        have hjl363 : (5 * xp.toNatClampNeg + xn.toNatClampNeg) < 20 := by have h1 := (vp_lt (n := 4) hrp339.1); have h2 := (vp_lt (n := 5) hrp339.2); omega
        refine W.eq (g2 := F0 m 68 ls [.ref (w (21 + (5 * xp.toNatClampNeg + xn.toNatClampNeg)))]) (by rw [hM.qr (vp_lt (n := 4) hrp339.1) (vp_lt (n := 5) hrp339.2)]; rfl) ?_
        refine lv_iload_n hx hb dX7_record_68 rfl (lv_at hl 3 rfl) ?_
        refine lv_iload hx hb dX7_record_69 (lv_at hl 4 rfl) ?_
        refine lv_iconst (v := 3) hx hb dX7_record_71 (by decide) ?_
        refine lv_icmp_ge (tgt := 80) hx hb dX7_record_72 (by decide) (fun c364 => ?_) (fun c364 => ?_)
        · have kc364 : 3 ≤ wh.toInt := by have h9 := c364; rw [xk_le, xk_3] at h9; exact h9
          refine lv_iload hx hb dX7_record_80 (lv_at hl 4 rfl) ?_
          refine lv_iconst (v := 1) hx hb dX7_record_82 (by decide) ?_
          refine lv_iadd hx hb dX7_record_83 ?_
          refine lv_topi (fun v365 ev365 => ?_)
          have hin366 : vp_in v365 8 := by have h9 := vp_in_iff.mp hin342; rw [ev365]; exact xin_of (by rw [xaddk (k := 1) (by decide) (by omega) (by omega)]; omega) (by rw [xaddk (k := 1) (by decide) (by omega) (by omega)]; omega)
          obtain ⟨j368, hj368⟩ := wG_6 (cy := cy) (N := N) (T := T) (I := I) (Q := Q) (J := J) (hM.lg hjl363).1 (hM.lg hjl363).2
          refine vp_callSi (W.runV (As := [.int xo, .int v365]) (rest := []) ⟨hx, hb, hml, hown, hts⟩ (c_X6_get l dC dI cy w L K N T Q I J (5 * xp.toNatClampNeg + xn.toNatClampNeg) xo v365 hM hjl363 (by omega) (by omega) hin366) (cwV 2 hts gX7_record_X6_get rfl rfl rfl (by decide +kernel) ⟨Nat.le_of_ble_eq_true rfl, Nat.le_of_ble_eq_true rfl⟩) ⟨mb_blind, va_recv hK hP (ci := 6) (q0 := j368) rfl hj368, fun U hU hW => ⟨rfl, mb_pre hP hK hU hW⟩⟩ rfl rfl hl.1 rfl (lv_room (Nat.le_of_ble_eq_true rfl)) dX7_record_84 ⟨Nat.le_of_ble_eq_true rfl, Nat.le_of_ble_eq_true rfl⟩) (fun r367 hr367 => ?_)
          refine lv_i2l (v := r367.toInt64) hx hb dX7_record_87 rfl ?_
          exact W.lret (v := r367.toInt64) hx hb hr (fun t ht hW => ⟨r367.toInt64, rfl, trivial, ht⟩) (fun _ h => by cases h) dX7_record_88
        · have kc364 : ¬ (3 ≤ wh.toInt) := by have h9 := c364; rw [xk_le, xk_3] at h9; exact h9
          refine lv_iload hx hb dX7_record_75 (lv_at hl 4 rfl) ?_
          refine lv_goto (tgt := 84) hx hb dX7_record_77 (by decide) ?_
          have hin369 : vp_in wh 8 := by have h9 := vp_in_iff.mp hin342; exact xin_of (by omega) (by omega)
          obtain ⟨j371, hj371⟩ := wG_6 (cy := cy) (N := N) (T := T) (I := I) (Q := Q) (J := J) (hM.lg hjl363).1 (hM.lg hjl363).2
          refine vp_callSi (W.runV (As := [.int xo, .int wh]) (rest := []) ⟨hx, hb, hml, hown, hts⟩ (c_X6_get l dC dI cy w L K N T Q I J (5 * xp.toNatClampNeg + xn.toNatClampNeg) xo wh hM hjl363 (by omega) (by omega) hin369) (cwV 2 hts gX7_record_X6_get rfl rfl rfl (by decide +kernel) ⟨Nat.le_of_ble_eq_true rfl, Nat.le_of_ble_eq_true rfl⟩) ⟨mb_blind, va_recv hK hP (ci := 6) (q0 := j371) rfl hj371, fun U hU hW => ⟨rfl, mb_pre hP hK hU hW⟩⟩ rfl rfl hl.1 rfl (lv_room (Nat.le_of_ble_eq_true rfl)) dX7_record_84 ⟨Nat.le_of_ble_eq_true rfl, Nat.le_of_ble_eq_true rfl⟩) (fun r370 hr370 => ?_)
          refine lv_i2l (v := r370.toInt64) hx hb dX7_record_87 rfl ?_
          exact W.lret (v := r370.toInt64) hx hb hr (fun t ht hW => ⟨r370.toInt64, rfl, trivial, ht⟩) (fun _ h => by cases h) dX7_record_88
      · refine lv_ldc2 hx hb hown (hts (.constantLong RX7 185 1099511627776) (by decide +kernel)) dX7_record_56 ?_
        exact W.lret (v := 1099511627776) hx hb hr (fun t ht hW => ⟨1099511627776, rfl, trivial, ht⟩) (fun _ h => by cases h) dX7_record_59
set_option maxHeartbeats 4000000 in
set_option maxRecDepth 100000 in
/-- state -/
theorem c_X7_state (l : Launch) (dC : Nat → ClassId) (dI : Nat → Nat → Nat) (cy : Nat → ClassId) (w : Nat → Nat) (L : List Nat) (K N : Nat → Nat) (T : Nat → Nat → Nat) (Q : Nat → Nat → Option Nat) (I J : Nat → Nat → Int32) (xp : Int32) (wh : Int32) (hM : MS w L K N T Q) (E : Int) (hI : MI w E I J) : Met l yX7_state wsX7_state ({ frames := 3, cells := 0, slots := 0, locals := 73 }) (va_Pc [.ref (w 0), .int xp, .int wh] (mB dC dI cy L (wF cy K N T I Q J))) (vp_Si (fun r => True)) 0 0 (fun _ => False) := by
  refine Met.ofW (cc := cX7_state) (maxL := 3) (ret := (some .int)) (by decide) rfl ?_
  intro p e s m args below meth c s₁ B hml hv
  obtain ⟨rfl, hP, hK⟩ := hv
  have hx := B.exec
  have hb := B.bytes
  have hr := B.returns
  have hts := atoms_spec (ws := wsX7_state) B.pre
  have hown : s.vm.findClass RX7 = some m.cls := findClass_of_methodNamed B.named
  have hlocks := B.notSynchronized
  have hi7 : ∀ w ∈ wsX70, w ∈ wsX7_state := by decide +kernel
  have hl := lv_entry ([.ref (w 0), .int xp, .int wh]) (n := 3) (Nat.le_of_ble_eq_true rfl)
  rw [lg_entry_eq]
  generalize (lg_sl ([.ref (w 0), .int xp, .int wh]) ++ List.replicate (3 - (lg_sl ([.ref (w 0), .int xp, .int wh])).length) Slot.unset).toArray = ls at hl ⊢
  have hl : lv_has ls 3 [(0, .ref (w 0)), (1, .int xp), (2, .int wh)] := hl
  obtain ⟨hML, hMD, hMU⟩ := hI
  refine lv_aload_n hx hb dX7_state_0 rfl (lv_at hl 0 rfl) ?_
  refine lv_iload_n hx hb dX7_state_1 rfl (lv_at hl 1 rfl) ?_
  obtain ⟨j373, hj373⟩ := wG_7 (cy := cy) (N := N) (T := T) (I := I) (Q := Q) (J := J) (hM.at 0 (by decide)) (hM.k 0 (by decide) rfl)
  refine vp_callSi (W.runV (As := [.int xp]) (rest := []) ⟨hx, hb, hml, hown, hts⟩ (c_X7_isThere l dC dI cy w L K N T Q I J xp hM) (cwV 1 hts gX7_state_X7_isThere rfl rfl rfl (by decide +kernel) ⟨Nat.le_of_ble_eq_true rfl, Nat.le_of_ble_eq_true rfl⟩) ⟨mb_blind, va_recv hK hP (ci := 7) (q0 := j373) rfl hj373, fun U hU hW => ⟨rfl, mb_pre hP hK hU hW⟩⟩ rfl rfl hl.1 rfl (lv_room (Nat.le_of_ble_eq_true rfl)) dX7_state_2 ⟨Nat.le_of_ble_eq_true rfl, Nat.le_of_ble_eq_true rfl⟩) (fun r372 hr372 => ?_)
  refine lv_if_eq (tgt := 20) hx hb dX7_state_5 (by decide) (fun c374 => ?_) (fun c374 => ?_)
  · have kc374 : r372.toInt = 0 := by have h9 := c374; rw [xk_eq, xk_0] at h9; exact h9
    refine lv_iconst (v := (-1)) hx hb dX7_state_20 (by decide) ?_
    exact W.iret (v := (-1)) hx hb hr (fun t ht hW => ⟨(-1), rfl, trivial, ht⟩) (fun _ h => by cases h) dX7_state_21
  · have hth375 := sp_it1 (by rw [← hr372]; exact c374)
    have kc374 : ¬ (r372.toInt = 0) := by have h9 := c374; rw [xk_eq, xk_0] at h9; exact h9
    refine lv_iload_n hx hb dX7_state_8 rfl (lv_at hl 2 rfl) ?_
    refine lv_i2l (v := wh.toInt64) hx hb dX7_state_9 rfl ?_
    refine lv_lconst (v := 0) hx hb dX7_state_10 (by decide) ?_
    refine lv_ldc2 hx hb hown (hts (.constantLong RX7 80 3) (by decide +kernel)) dX7_state_11 ?_
    refine vp_callSi (W.runS (As := [.long wh.toInt64, .long 0, .long 3]) (rest := []) ⟨hx, hb, hml, hown, hts⟩ (c_X7_in l wh.toInt64 0 3) (va_cwS 3 hts gX7_state_X7_in rfl rfl rfl (by decide +kernel) ⟨Nat.le_of_ble_eq_true rfl, Nat.le_of_ble_eq_true rfl⟩) preEq rfl rfl hl.1 rfl (lv_room (Nat.le_of_ble_eq_true rfl)) dX7_state_14 ⟨Nat.le_of_ble_eq_true rfl, Nat.le_of_ble_eq_true rfl⟩) (fun r376 hr376 => ?_)
    subst hr376
    refine lv_if_ne (tgt := 22) hx hb dX7_state_17 (by decide) (fun c377 => ?_) (fun c377 => ?_)
    · have hin378 : vp_in wh 4 := xin_sp c377 (by decide)
      refine lv_iload_n hx hb dX7_state_22 rfl (lv_at hl 2 rfl) ?_
      by_cases hw379 : wh = 0
      · obtain rfl : wh = 0 := hw379
        refine lv_tableIn (off := 25) (tgt := 48) hx hb dX7_state_23 (by decide) (by decide) (by decide +kernel) (by decide) ?_
        refine lv_aload_n hx hb dX7_state_48 rfl (lv_at hl 0 rfl) ?_
        obtain ⟨j380, hj380⟩ := wG_7 (cy := cy) (N := N) (T := T) (I := I) (Q := Q) (J := J) (hM.at 0 (by decide)) (hM.k 0 (by decide) rfl)
        refine va_get (D := (dC, dI)) (ci := 7) (v := .ref (T (w 0) 3)) (C := RX7) (T := TX7) (N := 18) hx hb hts hi7 hown hK hP j380 hj380 rfl 3 (by decide) (hts (.fieldLink RX7 22 "TallyLogsModel" "leader" "[I") (by decide +kernel)) (fun _ h9 => h9) rfl dX7_state_49 ?_
        refine W.eq (g2 := F0 m 52 ls [.ref (w 4)]) (by rw [hM.t 3 (by decide)]) ?_
        refine lv_iload_n hx hb dX7_state_52 rfl (lv_at hl 1 rfl) ?_
        obtain ⟨j381, hj381⟩ := wG_20 (cy := cy) (N := N) (T := T) (I := I) (Q := Q) (J := J) (hM.at 4 (by decide)) (hM.k 4 (by decide) rfl)
        refine va_iald hx hb hK hP j381 1 hj381 rfl (hM.inN (n := 4) 4 (by decide) rfl rfl hth375.1) dX7_state_53 ?_
        refine lv_topi (fun x382 ex382 => ?_)
        exact W.iret (v := x382) hx hb hr (fun t ht hW => ⟨x382, rfl, trivial, ht⟩) (fun _ h => by cases h) dX7_state_54
      by_cases hw383 : wh = 1
      · obtain rfl : wh = 1 := hw383
        refine lv_tableIn (off := 32) (tgt := 55) hx hb dX7_state_23 (by decide) (by decide) (by decide +kernel) (by decide) ?_
        refine lv_aload_n hx hb dX7_state_55 rfl (lv_at hl 0 rfl) ?_
        obtain ⟨j384, hj384⟩ := wG_7 (cy := cy) (N := N) (T := T) (I := I) (Q := Q) (J := J) (hM.at 0 (by decide)) (hM.k 0 (by decide) rfl)
        refine va_get (D := (dC, dI)) (ci := 7) (v := .ref (T (w 0) 4)) (C := RX7) (T := TX7) (N := 18) hx hb hts hi7 hown hK hP j384 hj384 rfl 4 (by decide) (hts (.fieldLink RX7 25 "TallyLogsModel" "epoch" "[I") (by decide +kernel)) (fun _ h9 => h9) rfl dX7_state_56 ?_
        refine W.eq (g2 := F0 m 59 ls [.ref (w 5)]) (by rw [hM.t 4 (by decide)]) ?_
        refine lv_iload_n hx hb dX7_state_59 rfl (lv_at hl 1 rfl) ?_
        obtain ⟨j385, hj385⟩ := wG_20 (cy := cy) (N := N) (T := T) (I := I) (Q := Q) (J := J) (hM.at 5 (by decide)) (hM.k 5 (by decide) rfl)
        refine va_iald hx hb hK hP j385 1 hj385 rfl (hM.inN (n := 4) 5 (by decide) rfl rfl hth375.1) dX7_state_60 ?_
        refine lv_topi (fun x386 ex386 => ?_)
        exact W.iret (v := x386) hx hb hr (fun t ht hW => ⟨x386, rfl, trivial, ht⟩) (fun _ h => by cases h) dX7_state_61
      by_cases hw387 : wh = 2
      · obtain rfl : wh = 2 := hw387
        refine lv_tableIn (off := 39) (tgt := 62) hx hb dX7_state_23 (by decide) (by decide) (by decide +kernel) (by decide) ?_
        refine lv_aload_n hx hb dX7_state_62 rfl (lv_at hl 0 rfl) ?_
        obtain ⟨j388, hj388⟩ := wG_7 (cy := cy) (N := N) (T := T) (I := I) (Q := Q) (J := J) (hM.at 0 (by decide)) (hM.k 0 (by decide) rfl)
        refine va_get (D := (dC, dI)) (ci := 7) (v := .ref (T (w 0) 6)) (C := RX7) (T := TX7) (N := 18) hx hb hts hi7 hown hK hP j388 hj388 rfl 6 (by decide) (hts (.fieldLink RX7 31 "TallyLogsModel" "step" "[I") (by decide +kernel)) (fun _ h9 => h9) rfl dX7_state_63 ?_
        refine W.eq (g2 := F0 m 66 ls [.ref (w 7)]) (by rw [hM.t 6 (by decide)]) ?_
        refine lv_iload_n hx hb dX7_state_66 rfl (lv_at hl 1 rfl) ?_
        obtain ⟨j389, hj389⟩ := wG_20 (cy := cy) (N := N) (T := T) (I := I) (Q := Q) (J := J) (hM.at 7 (by decide)) (hM.k 7 (by decide) rfl)
        refine va_iald hx hb hK hP j389 1 hj389 rfl (hM.inN (n := 4) 7 (by decide) rfl rfl hth375.1) dX7_state_67 ?_
        refine lv_topi (fun x390 ex390 => ?_)
        exact W.iret (v := x390) hx hb hr (fun t ht hW => ⟨x390, rfl, trivial, ht⟩) (fun _ h => by cases h) dX7_state_68
      refine lv_tableOut (tgt := 69) hx hb dX7_state_23 (by simp only [xk_eq, xk_lt, xk_le, xk_0, xk_1, xk_2, xk_3, xk_4, xk_5, xk_6, xk_7, xk_8, xk_50] at hw379 hw383 hw387; omega) (by decide) ?_
      refine lv_aload_n hx hb dX7_state_69 rfl (lv_at hl 0 rfl) ?_
      refine lv_iload_n hx hb dX7_state_70 rfl (lv_at hl 1 rfl) ?_
      obtain ⟨j392, hj392⟩ := wG_7 (cy := cy) (N := N) (T := T) (I := I) (Q := Q) (J := J) (hM.at 0 (by decide)) (hM.k 0 (by decide) rfl)
      refine va_csq (W.runV (As := [.int xp]) (rest := []) ⟨hx, hb, hml, hown, hts⟩ (c_X7_own l dC dI cy w L K N T Q I J xp hM hth375.1) (cwV 1 hts gX7_state_X7_own rfl rfl rfl (by decide +kernel) ⟨Nat.le_of_ble_eq_true rfl, Nat.le_of_ble_eq_true rfl⟩) ⟨mb_blind, va_recv hK hP (ci := 7) (q0 := j392) rfl hj392, fun U hU hW => ⟨rfl, mb_pre hP hK hU hW⟩⟩ rfl rfl hl.1 rfl (lv_room (Nat.le_of_ble_eq_true rfl)) dX7_state_71 ⟨Nat.le_of_ble_eq_true rfl, Nat.le_of_ble_eq_true rfl⟩) (fun r391 hr391 => ?_)
      subst hr391
      rcases sp_ow_cs w (I (w 0) 16) (J (w 4) xp.toNatClampNeg) xp.toNatClampNeg with hon393 | ⟨n393, hnn393, eln393, hubn393, hon393⟩
      · refine W.eq (g2 := F0 m 74 ls [.null]) (by rw [hon393]; rfl) ?_
        refine lv_ifnonnullN hx hb dX7_state_74 ?_
        refine lv_iconst (v := (-1)) hx hb dX7_state_77 (by decide) ?_
        refine lv_goto (tgt := 89) hx hb dX7_state_78 (by decide) ?_
        exact W.iret (v := (-1)) hx hb hr (fun t ht hW => ⟨(-1), rfl, trivial, ht⟩) (fun _ h => by cases h) dX7_state_89
      · have hjn393 : (5 * xp.toNatClampNeg + n393) < 20 := by have h1 := vp_lt (n := 4) hth375.1; omega
        refine W.eq (g2 := F0 m 74 ls [.ref (w (21 + (5 * xp.toNatClampNeg + n393)))]) (by rw [hon393]; rfl) ?_
        refine lv_ifnonnull (tgt := 81) hx hb dX7_state_74 (by decide) ?_
        refine lv_aload_n hx hb dX7_state_81 rfl (lv_at hl 0 rfl) ?_
        refine lv_iload_n hx hb dX7_state_82 rfl (lv_at hl 1 rfl) ?_
        obtain ⟨j395, hj395⟩ := wG_7 (cy := cy) (N := N) (T := T) (I := I) (Q := Q) (J := J) (hM.at 0 (by decide)) (hM.k 0 (by decide) rfl)
        refine va_csq (W.runV (As := [.int xp]) (rest := []) ⟨hx, hb, hml, hown, hts⟩ (c_X7_own l dC dI cy w L K N T Q I J xp hM hth375.1) (cwV 1 hts gX7_state_X7_own rfl rfl rfl (by decide +kernel) ⟨Nat.le_of_ble_eq_true rfl, Nat.le_of_ble_eq_true rfl⟩) ⟨mb_blind, va_recv hK hP (ci := 7) (q0 := j395) rfl hj395, fun U hU hW => ⟨rfl, mb_pre hP hK hU hW⟩⟩ rfl rfl hl.1 rfl (lv_room (Nat.le_of_ble_eq_true rfl)) dX7_state_83 ⟨Nat.le_of_ble_eq_true rfl, Nat.le_of_ble_eq_true rfl⟩) (fun r394 hr394 => ?_)
        subst hr394
        refine W.eq (g2 := F0 m 86 ls [.ref (w (21 + (5 * xp.toNatClampNeg + n393)))]) (by rw [hon393]; rfl) ?_
        obtain ⟨ha396, hb396, hc396, hd396, he396, hf396⟩ := hML (5 * xp.toNatClampNeg + n393) hjn393
        refine vp_callSi (W.runS (As := [.ref (w (21 + (5 * xp.toNatClampNeg + n393)))]) (rest := []) ⟨hx, hb, hml, hown, hts⟩ (c_X7_firstOpen l dC dI cy w L K N T Q I J (5 * xp.toNatClampNeg + n393) hM hjn393 (by omega) (by omega)) (va_cwS 1 hts gX7_state_X7_firstOpen rfl rfl rfl (by decide +kernel) ⟨Nat.le_of_ble_eq_true rfl, Nat.le_of_ble_eq_true rfl⟩) ⟨mb_blind, fun U hU hW => ⟨rfl, mb_pre hP hK hU hW⟩⟩ rfl rfl hl.1 rfl (lv_room (Nat.le_of_ble_eq_true rfl)) dX7_state_86 ⟨Nat.le_of_ble_eq_true rfl, Nat.le_of_ble_eq_true rfl⟩) (fun r397 hr397 => ?_)
        exact W.iret (v := r397) hx hb hr (fun t ht hW => ⟨r397, rfl, trivial, ht⟩) (fun _ h => by cases h) dX7_state_89
    · refine lv_iconst (v := (-1)) hx hb dX7_state_20 (by decide) ?_
      exact W.iret (v := (-1)) hx hb hr (fun t ht hW => ⟨(-1), rfl, trivial, ht⟩) (fun _ h => by cases h) dX7_state_21
set_option maxHeartbeats 4000000 in
set_option maxRecDepth 100000 in
/-- count -/
theorem c_X7_count (l : Launch) (dC : Nat → ClassId) (dI : Nat → Nat → Nat) (cy : Nat → ClassId) (w : Nat → Nat) (L : List Nat) (K N : Nat → Nat) (T : Nat → Nat → Nat) (Q : Nat → Nat → Option Nat) (I J : Nat → Nat → Int32) (wh : Int32) (hM : MS w L K N T Q) : Met l yX7_count wsX7_count ({ frames := 1, cells := 0, slots := 0, locals := 27 }) (va_Pc [.ref (w 0), .int wh] (mB dC dI cy L (wF cy K N T I Q J))) (vp_Si (fun r => True)) 0 0 (fun _ => False) := by
  refine Met.ofW (cc := cX7_count) (maxL := 2) (ret := (some .int)) (by decide) rfl ?_
  intro p e s m args below meth c s₁ B hml hv
  obtain ⟨rfl, hP, hK⟩ := hv
  have hx := B.exec
  have hb := B.bytes
  have hr := B.returns
  have hts := atoms_spec (ws := wsX7_count) B.pre
  have hown : s.vm.findClass RX7 = some m.cls := findClass_of_methodNamed B.named
  have hlocks := B.notSynchronized
  have hi7 : ∀ w ∈ wsX70, w ∈ wsX7_count := by decide +kernel
  have hl := lv_entry ([.ref (w 0), .int wh]) (n := 2) (Nat.le_of_ble_eq_true rfl)
  rw [lg_entry_eq]
  generalize (lg_sl ([.ref (w 0), .int wh]) ++ List.replicate (2 - (lg_sl ([.ref (w 0), .int wh])).length) Slot.unset).toArray = ls at hl ⊢
  have hl : lv_has ls 2 [(0, .ref (w 0)), (1, .int wh)] := hl
  refine lv_iload_n hx hb dX7_count_0 rfl (lv_at hl 1 rfl) ?_
  refine lv_i2l (v := wh.toInt64) hx hb dX7_count_1 rfl ?_
  refine lv_lconst (v := 0) hx hb dX7_count_2 (by decide) ?_
  refine lv_ldc2 hx hb hown (hts (.constantLong RX7 173 7) (by decide +kernel)) dX7_count_3 ?_
  refine vp_callSi (W.runS (As := [.long wh.toInt64, .long 0, .long 7]) (rest := []) ⟨hx, hb, hml, hown, hts⟩ (c_X7_in l wh.toInt64 0 7) (va_cwS 3 hts gX7_count_X7_in rfl rfl rfl (by decide +kernel) ⟨Nat.le_of_ble_eq_true rfl, Nat.le_of_ble_eq_true rfl⟩) preEq rfl rfl hl.1 rfl (lv_room (Nat.le_of_ble_eq_true rfl)) dX7_count_6 ⟨Nat.le_of_ble_eq_true rfl, Nat.le_of_ble_eq_true rfl⟩) (fun r398 hr398 => ?_)
  subst hr398
  refine lv_if_ne (tgt := 14) hx hb dX7_count_9 (by decide) (fun c399 => ?_) (fun c399 => ?_)
  · have hin400 : vp_in wh 8 := xin_sp c399 (by decide)
    refine lv_iload_n hx hb dX7_count_14 rfl (lv_at hl 1 rfl) ?_
    refine lv_if_ne (tgt := 25) hx hb dX7_count_15 (by decide) (fun c401 => ?_) (fun c401 => ?_)
    · have kc401 : ¬ (wh.toInt = 0) := by have h9 := c401; rw [xk_eq, xk_0] at h9; exact h9
      refine lv_iload_n hx hb dX7_count_25 rfl (lv_at hl 1 rfl) ?_
      refine lv_iconst (v := 1) hx hb dX7_count_26 (by decide) ?_
      refine lv_icmp_ne (tgt := 37) hx hb dX7_count_27 (by decide) (fun c402 => ?_) (fun c402 => ?_)
      · have kc402 : ¬ (wh.toInt = 1) := by have h9 := c402; rw [xk_eq, xk_1] at h9; exact h9
        refine lv_aload_n hx hb dX7_count_37 rfl (lv_at hl 0 rfl) ?_
        obtain ⟨j403, hj403⟩ := wG_7 (cy := cy) (N := N) (T := T) (I := I) (Q := Q) (J := J) (hM.at 0 (by decide)) (hM.k 0 (by decide) rfl)
        refine va_get (D := (dC, dI)) (ci := 7) (v := .ref (T (w 0) 8)) (C := RX7) (T := TX7) (N := 18) hx hb hts hi7 hown hK hP j403 hj403 rfl 8 (by decide) (hts (.fieldLink RX7 37 "TallyLogsModel" "mode" "[I") (by decide +kernel)) (fun _ h9 => h9) rfl dX7_count_38 ?_
        refine W.eq (g2 := F0 m 41 ls [.ref (w 9)]) (by rw [hM.t 8 (by decide)]) ?_
        refine lv_iload_n hx hb dX7_count_41 rfl (lv_at hl 1 rfl) ?_
        refine lv_iconst (v := 2) hx hb dX7_count_42 (by decide) ?_
        refine lv_isub hx hb dX7_count_43 ?_
        refine lv_topi (fun v404 ev404 => ?_)
        have hin405 : vp_in v404 6 := by have h9 := vp_in_iff.mp hin400; rw [ev404]; exact xin_of (by rw [xsub (by rw [xk_2]; omega) (by rw [xk_2]; omega), xk_2]; omega) (by rw [xsub (by rw [xk_2]; omega) (by rw [xk_2]; omega), xk_2]; omega)
        obtain ⟨j406, hj406⟩ := wG_20 (cy := cy) (N := N) (T := T) (I := I) (Q := Q) (J := J) (hM.at 9 (by decide)) (hM.k 9 (by decide) rfl)
        refine va_iald hx hb hK hP j406 1 hj406 rfl (hM.inN (n := 6) 9 (by decide) rfl rfl hin405) dX7_count_44 ?_
        refine lv_topi (fun x407 ex407 => ?_)
        exact W.iret (v := x407) hx hb hr (fun t ht hW => ⟨x407, rfl, trivial, ht⟩) (fun _ h => by cases h) dX7_count_45
      · have kc402 : wh.toInt = 1 := by have h9 := c402; rw [xk_eq, xk_1] at h9; exact h9
        refine lv_aload_n hx hb dX7_count_30 rfl (lv_at hl 0 rfl) ?_
        obtain ⟨j408, hj408⟩ := wG_7 (cy := cy) (N := N) (T := T) (I := I) (Q := Q) (J := J) (hM.at 0 (by decide)) (hM.k 0 (by decide) rfl)
        refine va_get (D := (dC, dI)) (ci := 7) (v := .int (I (w 0) 16)) (C := RX7) (T := TX7) (N := 18) hx hb hts hi7 hown hK hP j408 hj408 rfl 16 (by decide) (hts (.fieldLink RX7 61 "TallyLogsModel" "up" "I") (by decide +kernel)) (fun _ h9 => h9) rfl dX7_count_31 ?_
        refine lv_topi (fun x409 ex409 => ?_)
        have tx409 : x409.toInt = (I (w 0) 16).toInt := congrArg Int32.toInt ex409
        refine lv_goto (tgt := 45) hx hb dX7_count_34 (by decide) ?_
        exact W.iret (v := x409) hx hb hr (fun t ht hW => ⟨x409, rfl, trivial, ht⟩) (fun _ h => by cases h) dX7_count_45
    · have kc401 : wh.toInt = 0 := by have h9 := c401; rw [xk_eq, xk_0] at h9; exact h9
      refine lv_aload_n hx hb dX7_count_18 rfl (lv_at hl 0 rfl) ?_
      obtain ⟨j410, hj410⟩ := wG_7 (cy := cy) (N := N) (T := T) (I := I) (Q := Q) (J := J) (hM.at 0 (by decide)) (hM.k 0 (by decide) rfl)
      refine va_get (D := (dC, dI)) (ci := 7) (v := .int (I (w 0) 17)) (C := RX7) (T := TX7) (N := 18) hx hb hts hi7 hown hK hP j410 hj410 rfl 17 (by decide) (hts (.fieldLink RX7 119 "TallyLogsModel" "now" "I") (by decide +kernel)) (fun _ h9 => h9) rfl dX7_count_19 ?_
      refine lv_topi (fun x411 ex411 => ?_)
      have tx411 : x411.toInt = (I (w 0) 17).toInt := congrArg Int32.toInt ex411
      refine lv_goto (tgt := 45) hx hb dX7_count_22 (by decide) ?_
      exact W.iret (v := x411) hx hb hr (fun t ht hW => ⟨x411, rfl, trivial, ht⟩) (fun _ h => by cases h) dX7_count_45
  · refine lv_iconst (v := (-1)) hx hb dX7_count_12 (by decide) ?_
    exact W.iret (v := (-1)) hx hb hr (fun t ht hW => ⟨(-1), rfl, trivial, ht⟩) (fun _ h => by cases h) dX7_count_13
