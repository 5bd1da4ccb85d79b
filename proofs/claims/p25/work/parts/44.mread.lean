set_option maxHeartbeats 4000000 in
set_option maxRecDepth 100000 in
/-- isUp -/
theorem c_X7_isUp (l : Launch) (dC : Nat → ClassId) (dI : Nat → Nat → Nat) (cy : Nat → ClassId) (w : Nat → Nat) (L : List Nat) (K N : Nat → Nat) (T : Nat → Nat → Nat) (Q : Nat → Nat → Option Nat) (I J : Nat → Nat → Int32) (xn : Int32) (hM : MS w L K N T Q) : Met l yX7_isUp wsX7_isUp ({ frames := 1, cells := 0, slots := 0, locals := 27 }) (va_Pc [.ref (w 0), .int xn] (mB dC dI cy L (wF cy K N T I Q J))) (vp_Si (fun r => r = sp_iu (I (w 0) 16) xn)) 0 0 (fun _ => False) := by
  refine Met.ofW (cc := cX7_isUp) (maxL := 2) (ret := (some .boolean)) (by decide) rfl ?_
  intro p e s m args below meth c s₁ B hml hv
  obtain ⟨rfl, hP, hK⟩ := hv
  have hx := B.exec
  have hb := B.bytes
  have hr := B.returns
  have hts := atoms_spec (ws := wsX7_isUp) B.pre
  have hown : s.vm.findClass RX7 = some m.cls := findClass_of_methodNamed B.named
  have hlocks := B.notSynchronized
  have hi7 : ∀ w ∈ wsX70, w ∈ wsX7_isUp := by decide +kernel
  have hl := lv_entry ([.ref (w 0), .int xn]) (n := 2) (Nat.le_of_ble_eq_true rfl)
  rw [lg_entry_eq]
  generalize (lg_sl ([.ref (w 0), .int xn]) ++ List.replicate (2 - (lg_sl ([.ref (w 0), .int xn])).length) Slot.unset).toArray = ls at hl ⊢
  have hl : lv_has ls 2 [(0, .ref (w 0)), (1, .int xn)] := hl
  refine lv_iload_n hx hb dX7_isUp_0 rfl (lv_at hl 1 rfl) ?_
  refine lv_i2l (v := xn.toInt64) hx hb dX7_isUp_1 rfl ?_
  refine lv_lconst (v := 0) hx hb dX7_isUp_2 (by decide) ?_
  refine lv_ldc2 hx hb hown (hts (.constantLong RX7 74 4) (by decide +kernel)) dX7_isUp_3 ?_
  refine vp_callSi (W.runS (As := [.long xn.toInt64, .long 0, .long 4]) (rest := []) ⟨hx, hb, hml, hown, hts⟩ (c_X7_in l xn.toInt64 0 4) (va_cwS 3 hts gX7_isUp_X7_in rfl rfl rfl (by decide +kernel) ⟨Nat.le_of_ble_eq_true rfl, Nat.le_of_ble_eq_true rfl⟩) preEq rfl rfl hl.1 rfl (lv_room (Nat.le_of_ble_eq_true rfl)) dX7_isUp_6 ⟨Nat.le_of_ble_eq_true rfl, Nat.le_of_ble_eq_true rfl⟩) (fun r109 hr109 => ?_)
  subst hr109
  refine lv_if_eq (tgt := 28) hx hb dX7_isUp_9 (by decide) (fun c110 => ?_) (fun c110 => ?_)
  · refine lv_iconst (v := 0) hx hb dX7_isUp_28 (by decide) ?_
    exact W.zret (v := 0) hx hb hr (by decide) (fun t ht hW => ⟨0, rfl, by show _ = _; have kc110 := (sp_in_0 xn 0 4).mp c110; simp only [xk_eq, Int32.toInt_toInt64, xk_lt, xk_le, xk_0, xk_1, xk_2, xk_3, xk_4, xk_5, xk_6, xk_7, xk_8, xk_50, xl_0, xl_1, xl_3, xl_4, xl_5, xl_6, xl_7, xl_50] at kc110; unfold sp_iu; rw [if_neg (fun q => by omega)], ht⟩) (fun _ h => by cases h) dX7_isUp_29
  · have hin111 : vp_in xn 5 := xin_sp c110 (by decide)
    refine lv_aload_n hx hb dX7_isUp_12 rfl (lv_at hl 0 rfl) ?_
    obtain ⟨j112, hj112⟩ := wG_7 (cy := cy) (N := N) (T := T) (I := I) (Q := Q) (J := J) (hM.at 0 (by decide)) (hM.k 0 (by decide) rfl)
    refine va_get (D := (dC, dI)) (ci := 7) (v := .int (I (w 0) 16)) (C := RX7) (T := TX7) (N := 18) hx hb hts hi7 hown hK hP j112 hj112 rfl 16 (by decide) (hts (.fieldLink RX7 61 "TallyLogsModel" "up" "I") (by decide +kernel)) (fun _ h9 => h9) rfl dX7_isUp_13 ?_
    refine lv_topi (fun x113 ex113 => ?_)
    have tx113 : x113.toInt = (I (w 0) 16).toInt := congrArg Int32.toInt ex113
    refine lv_iload_n hx hb dX7_isUp_16 rfl (lv_at hl 1 rfl) ?_
    refine lv_ishr hx hb dX7_isUp_17 ?_
    refine lv_topi (fun v114 ev114 => ?_)
    refine lv_iconst (v := 1) hx hb dX7_isUp_18 (by decide) ?_
    refine lv_iand hx hb dX7_isUp_19 ?_
    refine lv_topi (fun v115 ev115 => ?_)
    refine lv_iconst (v := 1) hx hb dX7_isUp_20 (by decide) ?_
    refine lv_icmp_ne (tgt := 28) hx hb dX7_isUp_21 (by decide) (fun c116 => ?_) (fun c116 => ?_)
    · have kc116 : ¬ (v115.toInt = 1) := by have h9 := c116; rw [xk_eq, xk_1] at h9; exact h9
      refine lv_iconst (v := 0) hx hb dX7_isUp_28 (by decide) ?_
      exact W.zret (v := 0) hx hb hr (by decide) (fun t ht hW => ⟨0, rfl, by show _ = _; unfold sp_iu; rw [if_neg (fun q => c116 (by rw [ev115, ev114, ex113]; exact q.2.2))], ht⟩) (fun _ h => by cases h) dX7_isUp_29
    · have kc116 : v115.toInt = 1 := by have h9 := c116; rw [xk_eq, xk_1] at h9; exact h9
      refine lv_iconst (v := 1) hx hb dX7_isUp_24 (by decide) ?_
      refine lv_goto (tgt := 29) hx hb dX7_isUp_25 (by decide) ?_
      exact W.zret (v := 1) hx hb hr (by decide) (fun t ht hW => ⟨1, rfl, by show _ = _; have kc110 := (not_congr (sp_in_0 xn 0 4)).mp c110; simp only [xk_eq, Int32.toInt_toInt64, xk_lt, xk_le, xk_0, xk_1, xk_2, xk_3, xk_4, xk_5, xk_6, xk_7, xk_8, xk_50, xl_0, xl_1, xl_3, xl_4, xl_5, xl_6, xl_7, xl_50] at kc110; have q9 := c116; rw [ev115, ev114, ex113] at q9; unfold sp_iu; rw [if_pos ⟨by omega, by omega, q9⟩], ht⟩) (fun _ h => by cases h) dX7_isUp_29
set_option maxHeartbeats 4000000 in
set_option maxRecDepth 100000 in
/-- isThere -/
theorem c_X7_isThere (l : Launch) (dC : Nat → ClassId) (dI : Nat → Nat → Nat) (cy : Nat → ClassId) (w : Nat → Nat) (L : List Nat) (K N : Nat → Nat) (T : Nat → Nat → Nat) (Q : Nat → Nat → Option Nat) (I J : Nat → Nat → Int32) (xp : Int32) (hM : MS w L K N T Q) : Met l yX7_isThere wsX7_isThere ({ frames := 1, cells := 0, slots := 0, locals := 27 }) (va_Pc [.ref (w 0), .int xp] (mB dC dI cy L (wF cy K N T I Q J))) (vp_Si (fun r => r = sp_it (J (w 2)) xp)) 0 0 (fun _ => False) := by
  refine Met.ofW (cc := cX7_isThere) (maxL := 2) (ret := (some .boolean)) (by decide) rfl ?_
  intro p e s m args below meth c s₁ B hml hv
  obtain ⟨rfl, hP, hK⟩ := hv
  have hx := B.exec
  have hb := B.bytes
  have hr := B.returns
  have hts := atoms_spec (ws := wsX7_isThere) B.pre
  have hown : s.vm.findClass RX7 = some m.cls := findClass_of_methodNamed B.named
  have hlocks := B.notSynchronized
  have hi7 : ∀ w ∈ wsX70, w ∈ wsX7_isThere := by decide +kernel
  have hl := lv_entry ([.ref (w 0), .int xp]) (n := 2) (Nat.le_of_ble_eq_true rfl)
  rw [lg_entry_eq]
  generalize (lg_sl ([.ref (w 0), .int xp]) ++ List.replicate (2 - (lg_sl ([.ref (w 0), .int xp])).length) Slot.unset).toArray = ls at hl ⊢
  have hl : lv_has ls 2 [(0, .ref (w 0)), (1, .int xp)] := hl
  refine lv_iload_n hx hb dX7_isThere_0 rfl (lv_at hl 1 rfl) ?_
  refine lv_i2l (v := xp.toInt64) hx hb dX7_isThere_1 rfl ?_
  refine lv_lconst (v := 0) hx hb dX7_isThere_2 (by decide) ?_
  refine lv_ldc2 hx hb hown (hts (.constantLong RX7 80 3) (by decide +kernel)) dX7_isThere_3 ?_
  refine vp_callSi (W.runS (As := [.long xp.toInt64, .long 0, .long 3]) (rest := []) ⟨hx, hb, hml, hown, hts⟩ (c_X7_in l xp.toInt64 0 3) (va_cwS 3 hts gX7_isThere_X7_in rfl rfl rfl (by decide +kernel) ⟨Nat.le_of_ble_eq_true rfl, Nat.le_of_ble_eq_true rfl⟩) preEq rfl rfl hl.1 rfl (lv_room (Nat.le_of_ble_eq_true rfl)) dX7_isThere_6 ⟨Nat.le_of_ble_eq_true rfl, Nat.le_of_ble_eq_true rfl⟩) (fun r117 hr117 => ?_)
  subst hr117
  refine lv_if_eq (tgt := 25) hx hb dX7_isThere_9 (by decide) (fun c118 => ?_) (fun c118 => ?_)
  · refine lv_iconst (v := 0) hx hb dX7_isThere_25 (by decide) ?_
    exact W.zret (v := 0) hx hb hr (by decide) (fun t ht hW => ⟨0, rfl, by show _ = _; have kc118 := (sp_in_0 xp 0 3).mp c118; simp only [xk_eq, Int32.toInt_toInt64, xk_lt, xk_le, xk_0, xk_1, xk_2, xk_3, xk_4, xk_5, xk_6, xk_7, xk_8, xk_50, xl_0, xl_1, xl_3, xl_4, xl_5, xl_6, xl_7, xl_50] at kc118; unfold sp_it; rw [if_neg (fun q => by omega)], ht⟩) (fun _ h => by cases h) dX7_isThere_26
  · have hin119 : vp_in xp 4 := xin_sp c118 (by decide)
    refine lv_aload_n hx hb dX7_isThere_12 rfl (lv_at hl 0 rfl) ?_
    obtain ⟨j120, hj120⟩ := wG_7 (cy := cy) (N := N) (T := T) (I := I) (Q := Q) (J := J) (hM.at 0 (by decide)) (hM.k 0 (by decide) rfl)
    refine va_get (D := (dC, dI)) (ci := 7) (v := .ref (T (w 0) 1)) (C := RX7) (T := TX7) (N := 18) hx hb hts hi7 hown hK hP j120 hj120 rfl 1 (by decide) (hts (.fieldLink RX7 14 "TallyLogsModel" "there" "[Z") (by decide +kernel)) (fun _ h9 => h9) rfl dX7_isThere_13 ?_
    refine W.eq (g2 := F0 m 16 ls [.ref (w 2)]) (by rw [hM.t 1 (by decide)]) ?_
    refine lv_iload_n hx hb dX7_isThere_16 rfl (lv_at hl 1 rfl) ?_
    obtain ⟨j121, hj121⟩ := wG_21 (cy := cy) (N := N) (T := T) (I := I) (Q := Q) (J := J) (hM.at 2 (by decide)) (hM.k 2 (by decide) rfl)
    refine va_zald hx hb hK hP j121 0 hj121 rfl hin119 dX7_isThere_17 ?_
    refine lv_topi (fun x122 ex122 => ?_)
    refine lv_if_eq (tgt := 25) hx hb dX7_isThere_18 (by decide) (fun c123 => ?_) (fun c123 => ?_)
    · have kc123 : x122.toInt = 0 := by have h9 := c123; rw [xk_eq, xk_0] at h9; exact h9
      refine lv_iconst (v := 0) hx hb dX7_isThere_25 (by decide) ?_
      exact W.zret (v := 0) hx hb hr (by decide) (fun t ht hW => ⟨0, rfl, by show _ = _; unfold sp_it; rw [if_neg (fun q => q.2.2 (by rw [← ex122]; exact c123))], ht⟩) (fun _ h => by cases h) dX7_isThere_26
    · have kc123 : ¬ (x122.toInt = 0) := by have h9 := c123; rw [xk_eq, xk_0] at h9; exact h9
      refine lv_iconst (v := 1) hx hb dX7_isThere_21 (by decide) ?_
      refine lv_goto (tgt := 26) hx hb dX7_isThere_22 (by decide) ?_
      exact W.zret (v := 1) hx hb hr (by decide) (fun t ht hW => ⟨1, rfl, by show _ = _; have kc118 := (not_congr (sp_in_0 xp 0 3)).mp c118; simp only [xk_eq, Int32.toInt_toInt64, xk_lt, xk_le, xk_0, xk_1, xk_2, xk_3, xk_4, xk_5, xk_6, xk_7, xk_8, xk_50, xl_0, xl_1, xl_3, xl_4, xl_5, xl_6, xl_7, xl_50] at kc118; have q9 := c123; rw [ex122] at q9; unfold sp_it; rw [if_pos ⟨by omega, by omega, q9⟩], ht⟩) (fun _ h => by cases h) dX7_isThere_26
set_option maxHeartbeats 4000000 in
set_option maxRecDepth 100000 in
/-- isReplica -/
theorem c_X7_isReplica (l : Launch) (dC : Nat → ClassId) (dI : Nat → Nat → Nat) (cy : Nat → ClassId) (w : Nat → Nat) (L : List Nat) (K N : Nat → Nat) (T : Nat → Nat → Nat) (Q : Nat → Nat → Option Nat) (I J : Nat → Nat → Int32) (xn : Int32) (xp : Int32) (hM : MS w L K N T Q) : Met l yX7_isReplica wsX7_isReplica ({ frames := 2, cells := 0, slots := 0, locals := 50 }) (va_Pc [.ref (w 0), .int xn, .int xp] (mB dC dI cy L (wF cy K N T I Q J))) (vp_Si (fun r => r = 0 ∨ (vp_in xp 4 ∧ vp_in xn 5))) 0 0 (fun _ => False) := by
  refine Met.ofW (cc := cX7_isReplica) (maxL := 3) (ret := (some .boolean)) (by decide) rfl ?_
  intro p e s m args below meth c s₁ B hml hv
  obtain ⟨rfl, hP, hK⟩ := hv
  have hx := B.exec
  have hb := B.bytes
  have hr := B.returns
  have hts := atoms_spec (ws := wsX7_isReplica) B.pre
  have hown : s.vm.findClass RX7 = some m.cls := findClass_of_methodNamed B.named
  have hlocks := B.notSynchronized
  have hi7 : ∀ w ∈ wsX70, w ∈ wsX7_isReplica := by decide +kernel
  have hl := lv_entry ([.ref (w 0), .int xn, .int xp]) (n := 3) (Nat.le_of_ble_eq_true rfl)
  rw [lg_entry_eq]
  generalize (lg_sl ([.ref (w 0), .int xn, .int xp]) ++ List.replicate (3 - (lg_sl ([.ref (w 0), .int xn, .int xp])).length) Slot.unset).toArray = ls at hl ⊢
  have hl : lv_has ls 3 [(0, .ref (w 0)), (1, .int xn), (2, .int xp)] := hl
  refine lv_aload_n hx hb dX7_isReplica_0 rfl (lv_at hl 0 rfl) ?_
  refine lv_iload_n hx hb dX7_isReplica_1 rfl (lv_at hl 2 rfl) ?_
  obtain ⟨j125, hj125⟩ := wG_7 (cy := cy) (N := N) (T := T) (I := I) (Q := Q) (J := J) (hM.at 0 (by decide)) (hM.k 0 (by decide) rfl)
  refine vp_callSi (W.runV (As := [.int xp]) (rest := []) ⟨hx, hb, hml, hown, hts⟩ (c_X7_isThere l dC dI cy w L K N T Q I J xp hM) (cwV 1 hts gX7_isReplica_X7_isThere rfl rfl rfl (by decide +kernel) ⟨Nat.le_of_ble_eq_true rfl, Nat.le_of_ble_eq_true rfl⟩) ⟨mb_blind, va_recv hK hP (ci := 7) (q0 := j125) rfl hj125, fun U hU hW => ⟨rfl, mb_pre hP hK hU hW⟩⟩ rfl rfl hl.1 rfl (lv_room (Nat.le_of_ble_eq_true rfl)) dX7_isReplica_2 ⟨Nat.le_of_ble_eq_true rfl, Nat.le_of_ble_eq_true rfl⟩) (fun r124 hr124 => ?_)
  refine lv_if_eq (tgt := 38) hx hb dX7_isReplica_5 (by decide) (fun c126 => ?_) (fun c126 => ?_)
  · have kc126 : r124.toInt = 0 := by have h9 := c126; rw [xk_eq, xk_0] at h9; exact h9
    refine lv_iconst (v := 0) hx hb dX7_isReplica_38 (by decide) ?_
    exact W.zret (v := 0) hx hb hr (by decide) (fun t ht hW => ⟨0, rfl, Or.inl rfl, ht⟩) (fun _ h => by cases h) dX7_isReplica_39
  · have hth127 := sp_it1 (by rw [← hr124]; exact c126)
    have kc126 : ¬ (r124.toInt = 0) := by have h9 := c126; rw [xk_eq, xk_0] at h9; exact h9
    refine lv_iload_n hx hb dX7_isReplica_8 rfl (lv_at hl 1 rfl) ?_
    refine lv_i2l (v := xn.toInt64) hx hb dX7_isReplica_9 rfl ?_
    refine lv_lconst (v := 0) hx hb dX7_isReplica_10 (by decide) ?_
    refine lv_ldc2 hx hb hown (hts (.constantLong RX7 74 4) (by decide +kernel)) dX7_isReplica_11 ?_
    refine vp_callSi (W.runS (As := [.long xn.toInt64, .long 0, .long 4]) (rest := []) ⟨hx, hb, hml, hown, hts⟩ (c_X7_in l xn.toInt64 0 4) (va_cwS 3 hts gX7_isReplica_X7_in rfl rfl rfl (by decide +kernel) ⟨Nat.le_of_ble_eq_true rfl, Nat.le_of_ble_eq_true rfl⟩) preEq rfl rfl hl.1 rfl (lv_room (Nat.le_of_ble_eq_true rfl)) dX7_isReplica_14 ⟨Nat.le_of_ble_eq_true rfl, Nat.le_of_ble_eq_true rfl⟩) (fun r128 hr128 => ?_)
    subst hr128
    refine lv_if_eq (tgt := 38) hx hb dX7_isReplica_17 (by decide) (fun c129 => ?_) (fun c129 => ?_)
    · refine lv_iconst (v := 0) hx hb dX7_isReplica_38 (by decide) ?_
      exact W.zret (v := 0) hx hb hr (by decide) (fun t ht hW => ⟨0, rfl, Or.inl rfl, ht⟩) (fun _ h => by cases h) dX7_isReplica_39
    · have hin130 : vp_in xn 5 := xin_sp c129 (by decide)
      refine lv_aload_n hx hb dX7_isReplica_20 rfl (lv_at hl 0 rfl) ?_
      obtain ⟨j131, hj131⟩ := wG_7 (cy := cy) (N := N) (T := T) (I := I) (Q := Q) (J := J) (hM.at 0 (by decide)) (hM.k 0 (by decide) rfl)
      refine va_get (D := (dC, dI)) (ci := 7) (v := .ref (T (w 0) 2)) (C := RX7) (T := TX7) (N := 18) hx hb hts hi7 hown hK hP j131 hj131 rfl 2 (by decide) (hts (.fieldLink RX7 18 "TallyLogsModel" "replicas" "[I") (by decide +kernel)) (fun _ h9 => h9) rfl dX7_isReplica_21 ?_
      refine W.eq (g2 := F0 m 24 ls [.ref (w 3)]) (by rw [hM.t 2 (by decide)]) ?_
      refine lv_iload_n hx hb dX7_isReplica_24 rfl (lv_at hl 2 rfl) ?_
      obtain ⟨j132, hj132⟩ := wG_20 (cy := cy) (N := N) (T := T) (I := I) (Q := Q) (J := J) (hM.at 3 (by decide)) (hM.k 3 (by decide) rfl)
      refine va_iald hx hb hK hP j132 1 hj132 rfl (hM.inN (n := 4) 3 (by decide) rfl rfl hth127.1) dX7_isReplica_25 ?_
      refine lv_topi (fun x133 ex133 => ?_)
      refine lv_iload_n hx hb dX7_isReplica_26 rfl (lv_at hl 1 rfl) ?_
      refine lv_ishr hx hb dX7_isReplica_27 ?_
      refine lv_topi (fun v134 ev134 => ?_)
      refine lv_iconst (v := 1) hx hb dX7_isReplica_28 (by decide) ?_
      refine lv_iand hx hb dX7_isReplica_29 ?_
      refine lv_topi (fun v135 ev135 => ?_)
      refine lv_iconst (v := 1) hx hb dX7_isReplica_30 (by decide) ?_
      refine lv_icmp_ne (tgt := 38) hx hb dX7_isReplica_31 (by decide) (fun c136 => ?_) (fun c136 => ?_)
      · have kc136 : ¬ (v135.toInt = 1) := by have h9 := c136; rw [xk_eq, xk_1] at h9; exact h9
        refine lv_iconst (v := 0) hx hb dX7_isReplica_38 (by decide) ?_
        exact W.zret (v := 0) hx hb hr (by decide) (fun t ht hW => ⟨0, rfl, Or.inl rfl, ht⟩) (fun _ h => by cases h) dX7_isReplica_39
      · have kc136 : v135.toInt = 1 := by have h9 := c136; rw [xk_eq, xk_1] at h9; exact h9
        refine lv_iconst (v := 1) hx hb dX7_isReplica_34 (by decide) ?_
        refine lv_goto (tgt := 39) hx hb dX7_isReplica_35 (by decide) ?_
        exact W.zret (v := 1) hx hb hr (by decide) (fun t ht hW => ⟨1, rfl, Or.inr ⟨hth127.1, hin130⟩, ht⟩) (fun _ h => by cases h) dX7_isReplica_39
set_option maxHeartbeats 4000000 in
set_option maxRecDepth 100000 in
/-- own: null, or the log of the leader -/
theorem c_X7_own (l : Launch) (dC : Nat → ClassId) (dI : Nat → Nat → Nat) (cy : Nat → ClassId) (w : Nat → Nat) (L : List Nat) (K N : Nat → Nat) (T : Nat → Nat → Nat) (Q : Nat → Nat → Option Nat) (I J : Nat → Nat → Int32) (xp : Int32) (hM : MS w L K N T Q) (hp : vp_in xp 4) : Met l yX7_own wsX7_own ({ frames := 2, cells := 0, slots := 0, locals := 50 }) (va_Pc [.ref (w 0), .int xp] (mB dC dI cy L (wF cy K N T I Q J))) (va_Sq (fun r => r = sp_ow w (I (w 0) 16) (J (w 4) xp.toNatClampNeg) xp.toNatClampNeg)) 0 0 (fun _ => False) := by
  refine Met.ofW (cc := cX7_own) (maxL := 2) (ret := (some (.object "TallyLogsModel$Log"))) (by decide) rfl ?_
  intro p e s m args below meth c s₁ B hml hv
  obtain ⟨rfl, hP, hK⟩ := hv
  have hx := B.exec
  have hb := B.bytes
  have hr := B.returns
  have hts := atoms_spec (ws := wsX7_own) B.pre
  have hown : s.vm.findClass RX7 = some m.cls := findClass_of_methodNamed B.named
  have hlocks := B.notSynchronized
  have hi7 : ∀ w ∈ wsX70, w ∈ wsX7_own := by decide +kernel
  have hl := lv_entry ([.ref (w 0), .int xp]) (n := 2) (Nat.le_of_ble_eq_true rfl)
  rw [lg_entry_eq]
  generalize (lg_sl ([.ref (w 0), .int xp]) ++ List.replicate (2 - (lg_sl ([.ref (w 0), .int xp])).length) Slot.unset).toArray = ls at hl ⊢
  have hl : lv_has ls 2 [(0, .ref (w 0)), (1, .int xp)] := hl
  refine lv_aload_n hx hb dX7_own_0 rfl (lv_at hl 0 rfl) ?_
  obtain ⟨j137, hj137⟩ := wG_7 (cy := cy) (N := N) (T := T) (I := I) (Q := Q) (J := J) (hM.at 0 (by decide)) (hM.k 0 (by decide) rfl)
  refine va_get (D := (dC, dI)) (ci := 7) (v := .ref (T (w 0) 3)) (C := RX7) (T := TX7) (N := 18) hx hb hts hi7 hown hK hP j137 hj137 rfl 3 (by decide) (hts (.fieldLink RX7 22 "TallyLogsModel" "leader" "[I") (by decide +kernel)) (fun _ h9 => h9) rfl dX7_own_1 ?_
  refine W.eq (g2 := F0 m 4 ls [.ref (w 4)]) (by rw [hM.t 3 (by decide)]) ?_
  refine lv_iload_n hx hb dX7_own_4 rfl (lv_at hl 1 rfl) ?_
  obtain ⟨j138, hj138⟩ := wG_20 (cy := cy) (N := N) (T := T) (I := I) (Q := Q) (J := J) (hM.at 4 (by decide)) (hM.k 4 (by decide) rfl)
  refine va_iald hx hb hK hP j138 1 hj138 rfl (hM.inN (n := 4) 4 (by decide) rfl rfl hp) dX7_own_5 ?_
  refine lv_topi (fun x139 ex139 => ?_)
  refine lv_if_lt (tgt := 38) hx hb dX7_own_6 (by decide) (fun c140 => ?_) (fun c140 => ?_)
  · have kc140 : x139.toInt < 0 := by have h9 := c140; rw [xk_lt, xk_0] at h9; exact h9
    refine lv_null hx hb dX7_own_38 ?_
    exact W.aret (v := .null) hx hb hr (Or.inl ⟨_, rfl⟩) (Or.inl rfl) (fun t ht hW => ⟨none, rfl, by show _ = _; subst ex139; unfold sp_ow; rw [if_pos c140], ht⟩) (fun _ h => by cases h) dX7_own_39
  · have kc140 : ¬ (x139.toInt < 0) := by have h9 := c140; rw [xk_lt, xk_0] at h9; exact h9
    refine lv_aload_n hx hb dX7_own_9 rfl (lv_at hl 0 rfl) ?_
    refine lv_aload_n hx hb dX7_own_10 rfl (lv_at hl 0 rfl) ?_
    obtain ⟨j141, hj141⟩ := wG_7 (cy := cy) (N := N) (T := T) (I := I) (Q := Q) (J := J) (hM.at 0 (by decide)) (hM.k 0 (by decide) rfl)
    refine va_get (D := (dC, dI)) (ci := 7) (v := .ref (T (w 0) 3)) (C := RX7) (T := TX7) (N := 18) hx hb hts hi7 hown hK hP j141 hj141 rfl 3 (by decide) (hts (.fieldLink RX7 22 "TallyLogsModel" "leader" "[I") (by decide +kernel)) (fun _ h9 => h9) rfl dX7_own_11 ?_
    refine W.eq (g2 := F0 m 14 ls [.ref (w 4), .ref (w 0)]) (by rw [hM.t 3 (by decide)]) ?_
    refine lv_iload_n hx hb dX7_own_14 rfl (lv_at hl 1 rfl) ?_
    obtain ⟨j142, hj142⟩ := wG_20 (cy := cy) (N := N) (T := T) (I := I) (Q := Q) (J := J) (hM.at 4 (by decide)) (hM.k 4 (by decide) rfl)
    refine va_iald hx hb hK hP j142 1 hj142 rfl (hM.inN (n := 4) 4 (by decide) rfl rfl hp) dX7_own_15 ?_
    refine lv_topi (fun x143 ex143 => ?_)
    obtain ⟨j145, hj145⟩ := wG_7 (cy := cy) (N := N) (T := T) (I := I) (Q := Q) (J := J) (hM.at 0 (by decide)) (hM.k 0 (by decide) rfl)
    refine vp_callSi (W.runV (As := [.int x143]) (rest := []) ⟨hx, hb, hml, hown, hts⟩ (c_X7_isUp l dC dI cy w L K N T Q I J x143 hM) (cwV 1 hts gX7_own_X7_isUp rfl rfl rfl (by decide +kernel) ⟨Nat.le_of_ble_eq_true rfl, Nat.le_of_ble_eq_true rfl⟩) ⟨mb_blind, va_recv hK hP (ci := 7) (q0 := j145) rfl hj145, fun U hU hW => ⟨rfl, mb_pre hP hK hU hW⟩⟩ rfl rfl hl.1 rfl (lv_room (Nat.le_of_ble_eq_true rfl)) dX7_own_16 ⟨Nat.le_of_ble_eq_true rfl, Nat.le_of_ble_eq_true rfl⟩) (fun r144 hr144 => ?_)
    refine lv_if_eq (tgt := 38) hx hb dX7_own_19 (by decide) (fun c146 => ?_) (fun c146 => ?_)
    · have kc146 : r144.toInt = 0 := by have h9 := c146; rw [xk_eq, xk_0] at h9; exact h9
      refine lv_null hx hb dX7_own_38 ?_
      exact W.aret (v := .null) hx hb hr (Or.inl ⟨_, rfl⟩) (Or.inl rfl) (fun t ht hW => ⟨none, rfl, by show _ = _; subst ex139; subst ex143; unfold sp_ow; rw [if_neg c140, if_pos (hr144.symm.trans c146)], ht⟩) (fun _ h => by cases h) dX7_own_39
    · have hup147 := sp_iu1 (by rw [← hr144]; exact c146)
      have kc146 : ¬ (r144.toInt = 0) := by have h9 := c146; rw [xk_eq, xk_0] at h9; exact h9
      refine lv_aload_n hx hb dX7_own_22 rfl (lv_at hl 0 rfl) ?_
      obtain ⟨j148, hj148⟩ := wG_7 (cy := cy) (N := N) (T := T) (I := I) (Q := Q) (J := J) (hM.at 0 (by decide)) (hM.k 0 (by decide) rfl)
      refine va_get (D := (dC, dI)) (ci := 7) (v := .ref (T (w 0) 0)) (C := RX7) (T := TX7) (N := 18) hx hb hts hi7 hown hK hP j148 hj148 rfl 0 (by decide) (hts (.fieldLink RX7 11 "TallyLogsModel" "log" "[[LTallyLogsModel$Log;") (by decide +kernel)) (fun _ h9 => h9) rfl dX7_own_23 ?_
      refine W.eq (g2 := F0 m 26 ls [.ref (w 1)]) (by rw [hM.t 0 (by decide)]) ?_
      refine lv_iload_n hx hb dX7_own_26 rfl (lv_at hl 1 rfl) ?_
      obtain ⟨j149, hj149⟩ := wG_22 (cy := cy) (N := N) (T := T) (I := I) (Q := Q) (J := J) (hM.at 1 (by decide)) (hM.k 1 (by decide) rfl)
      refine xg_aldg hx hb hK hP j149 2 hj149 rfl hp dX7_own_27 ?_
      refine W.eq (g2 := F0 m 28 ls [.ref (w (17 + xp.toNatClampNeg))]) (by rw [hM.qo (vp_lt (n := 4) hp)]; rfl) ?_
      refine lv_aload_n hx hb dX7_own_28 rfl (lv_at hl 0 rfl) ?_
      obtain ⟨j150, hj150⟩ := wG_7 (cy := cy) (N := N) (T := T) (I := I) (Q := Q) (J := J) (hM.at 0 (by decide)) (hM.k 0 (by decide) rfl)
      refine va_get (D := (dC, dI)) (ci := 7) (v := .ref (T (w 0) 3)) (C := RX7) (T := TX7) (N := 18) hx hb hts hi7 hown hK hP j150 hj150 rfl 3 (by decide) (hts (.fieldLink RX7 22 "TallyLogsModel" "leader" "[I") (by decide +kernel)) (fun _ h9 => h9) rfl dX7_own_29 ?_
      refine W.eq (g2 := F0 m 32 ls [.ref (w 4), .ref (w (17 + xp.toNatClampNeg))]) (by rw [hM.t 3 (by decide)]) ?_
      refine lv_iload_n hx hb dX7_own_32 rfl (lv_at hl 1 rfl) ?_
      obtain ⟨j151, hj151⟩ := wG_20 (cy := cy) (N := N) (T := T) (I := I) (Q := Q) (J := J) (hM.at 4 (by decide)) (hM.k 4 (by decide) rfl)
      refine va_iald hx hb hK hP j151 1 hj151 rfl (hM.inN (n := 4) 4 (by decide) rfl rfl hp) dX7_own_33 ?_
      refine lv_topi (fun x152 ex152 => ?_)
      have hin153 : vp_in x152 5 := by rw [ex152, ← ex143]; exact hup147.1
      obtain ⟨j154, hj154⟩ := wG_23 (cy := cy) (N := N) (T := T) (I := I) (Q := Q) (J := J) (hM.row (vp_lt (n := 4) hp)).1 (hM.row (vp_lt (n := 4) hp)).2
      refine va_aldq hx hb hK hP j154 3 hj154 rfl hin153 dX7_own_34 ?_
      have hjl155 : (5 * xp.toNatClampNeg + x152.toNatClampNeg) < 20 := by have h1 := (vp_lt (n := 4) hp); have h2 := (vp_lt (n := 5) hin153); omega
      refine W.eq (g2 := F0 m 35 ls [.ref (w (21 + (5 * xp.toNatClampNeg + x152.toNatClampNeg)))]) (by rw [hM.qr (vp_lt (n := 4) hp) (vp_lt (n := 5) hin153)]; rfl) ?_
      refine lv_goto (tgt := 39) hx hb dX7_own_35 (by decide) ?_
      exact W.aret (v := .ref (w (21 + (5 * xp.toNatClampNeg + x152.toNatClampNeg)))) hx hb hr (Or.inl ⟨_, rfl⟩) (Or.inr ⟨_, rfl⟩) (fun t ht hW => ⟨some (w (21 + (5 * xp.toNatClampNeg + x152.toNatClampNeg))), rfl, by show _ = _; subst ex139; subst ex143; subst ex152; unfold sp_ow; rw [if_neg c140, if_neg (fun q => c146 (hr144.trans q))], ht⟩) (fun _ h => by cases h) dX7_own_39
set_option maxHeartbeats 4000000 in
set_option maxRecDepth 100000 in
/-- known -/
theorem c_X7_known (l : Launch) (dC : Nat → ClassId) (dI : Nat → Nat → Nat) (cy : Nat → ClassId) (w : Nat → Nat) (L : List Nat) (K N : Nat → Nat) (T : Nat → Nat → Nat) (Q : Nat → Nat → Option Nat) (I J : Nat → Nat → Int32) (xp : Int32) (xn : Int32) (hM : MS w L K N T Q) (hp : vp_in xp 4) (hn : vp_in xn 5) : Met l yX7_known wsX7_known ({ frames := 0, cells := 0, slots := 0, locals := 0 }) (va_Pc [.ref (w 0), .int xp, .int xn] (mB dC dI cy L (wF cy K N T I Q J))) (vp_Si (fun r => J (w 4) xp.toNatClampNeg = xn → r = I (w (21 + (5 * xp.toNatClampNeg + xn.toNatClampNeg))) 2)) 0 0 (fun _ => False) := by
  refine Met.ofW (cc := cX7_known) (maxL := 3) (ret := (some .int)) (by decide) rfl ?_
  intro p e s m args below meth c s₁ B hml hv
  obtain ⟨rfl, hP, hK⟩ := hv
  have hx := B.exec
  have hb := B.bytes
  have hr := B.returns
  have hts := atoms_spec (ws := wsX7_known) B.pre
  have hown : s.vm.findClass RX7 = some m.cls := findClass_of_methodNamed B.named
  have hlocks := B.notSynchronized
  have hi7 : ∀ w ∈ wsX70, w ∈ wsX7_known := by decide +kernel
  have hi6 : ∀ w ∈ wsX60, w ∈ wsX7_known := by decide +kernel
  have hl := lv_entry ([.ref (w 0), .int xp, .int xn]) (n := 3) (Nat.le_of_ble_eq_true rfl)
  rw [lg_entry_eq]
  generalize (lg_sl ([.ref (w 0), .int xp, .int xn]) ++ List.replicate (3 - (lg_sl ([.ref (w 0), .int xp, .int xn])).length) Slot.unset).toArray = ls at hl ⊢
  have hl : lv_has ls 3 [(0, .ref (w 0)), (1, .int xp), (2, .int xn)] := hl
  refine lv_iload_n hx hb dX7_known_0 rfl (lv_at hl 2 rfl) ?_
  refine lv_aload_n hx hb dX7_known_1 rfl (lv_at hl 0 rfl) ?_
  obtain ⟨j156, hj156⟩ := wG_7 (cy := cy) (N := N) (T := T) (I := I) (Q := Q) (J := J) (hM.at 0 (by decide)) (hM.k 0 (by decide) rfl)
  refine va_get (D := (dC, dI)) (ci := 7) (v := .ref (T (w 0) 3)) (C := RX7) (T := TX7) (N := 18) hx hb hts hi7 hown hK hP j156 hj156 rfl 3 (by decide) (hts (.fieldLink RX7 22 "TallyLogsModel" "leader" "[I") (by decide +kernel)) (fun _ h9 => h9) rfl dX7_known_2 ?_
  refine W.eq (g2 := F0 m 5 ls [.ref (w 4), .int xn]) (by rw [hM.t 3 (by decide)]) ?_
  refine lv_iload_n hx hb dX7_known_5 rfl (lv_at hl 1 rfl) ?_
  obtain ⟨j157, hj157⟩ := wG_20 (cy := cy) (N := N) (T := T) (I := I) (Q := Q) (J := J) (hM.at 4 (by decide)) (hM.k 4 (by decide) rfl)
  refine va_iald hx hb hK hP j157 1 hj157 rfl (hM.inN (n := 4) 4 (by decide) rfl rfl hp) dX7_known_6 ?_
  refine lv_topi (fun x158 ex158 => ?_)
  refine lv_icmp_ne (tgt := 24) hx hb dX7_known_7 (by decide) (fun c159 => ?_) (fun c159 => ?_)
  · have kc159 : ¬ (xn.toInt = x158.toInt) := by have h9 := c159; rw [xk_eq] at h9; exact h9
    refine lv_aload_n hx hb dX7_known_24 rfl (lv_at hl 0 rfl) ?_
    obtain ⟨j160, hj160⟩ := wG_7 (cy := cy) (N := N) (T := T) (I := I) (Q := Q) (J := J) (hM.at 0 (by decide)) (hM.k 0 (by decide) rfl)
    refine va_get (D := (dC, dI)) (ci := 7) (v := .ref (T (w 0) 0)) (C := RX7) (T := TX7) (N := 18) hx hb hts hi7 hown hK hP j160 hj160 rfl 0 (by decide) (hts (.fieldLink RX7 11 "TallyLogsModel" "log" "[[LTallyLogsModel$Log;") (by decide +kernel)) (fun _ h9 => h9) rfl dX7_known_25 ?_
    refine W.eq (g2 := F0 m 28 ls [.ref (w 1)]) (by rw [hM.t 0 (by decide)]) ?_
    refine lv_iload_n hx hb dX7_known_28 rfl (lv_at hl 1 rfl) ?_
    obtain ⟨j161, hj161⟩ := wG_22 (cy := cy) (N := N) (T := T) (I := I) (Q := Q) (J := J) (hM.at 1 (by decide)) (hM.k 1 (by decide) rfl)
    refine xg_aldg hx hb hK hP j161 2 hj161 rfl hp dX7_known_29 ?_
    refine W.eq (g2 := F0 m 30 ls [.ref (w (17 + xp.toNatClampNeg))]) (by rw [hM.qo (vp_lt (n := 4) hp)]; rfl) ?_
    refine lv_iload_n hx hb dX7_known_30 rfl (lv_at hl 2 rfl) ?_
    obtain ⟨j162, hj162⟩ := wG_23 (cy := cy) (N := N) (T := T) (I := I) (Q := Q) (J := J) (hM.row (vp_lt (n := 4) hp)).1 (hM.row (vp_lt (n := 4) hp)).2
    refine va_aldq hx hb hK hP j162 3 hj162 rfl hn dX7_known_31 ?_
    have hjl163 : (5 * xp.toNatClampNeg + xn.toNatClampNeg) < 20 := by have h1 := (vp_lt (n := 4) hp); have h2 := (vp_lt (n := 5) hn); omega
    refine W.eq (g2 := F0 m 32 ls [.ref (w (21 + (5 * xp.toNatClampNeg + xn.toNatClampNeg)))]) (by rw [hM.qr (vp_lt (n := 4) hp) (vp_lt (n := 5) hn)]; rfl) ?_
    obtain ⟨j164, hj164⟩ := wG_6 (cy := cy) (N := N) (T := T) (I := I) (Q := Q) (J := J) (hM.lg hjl163).1 (hM.lg hjl163).2
    refine va_get (D := (dC, dI)) (ci := 6) (v := .int (I (w (21 + (5 * xp.toNatClampNeg + xn.toNatClampNeg))) 5)) (C := RX6) (T := TX6) (N := 7) hx hb hts hi6 hown hK hP j164 hj164 rfl 5 (by decide) (hts (.fieldLink RX7 92 "TallyLogsModel$Log" "known" "I") (by decide +kernel)) (fun _ h9 => h9) rfl dX7_known_32 ?_
    refine lv_topi (fun x165 ex165 => ?_)
    have tx165 : x165.toInt = (I (w (21 + (5 * xp.toNatClampNeg + xn.toNatClampNeg))) 5).toInt := congrArg Int32.toInt ex165
    exact W.iret (v := x165) hx hb hr (fun t ht hW => ⟨x165, rfl, (fun h => absurd (by rw [ex158]; exact h.symm) c159), ht⟩) (fun _ h => by cases h) dX7_known_35
  · have kc159 : xn.toInt = x158.toInt := by have h9 := c159; rw [xk_eq] at h9; exact h9
    refine lv_aload_n hx hb dX7_known_10 rfl (lv_at hl 0 rfl) ?_
    obtain ⟨j166, hj166⟩ := wG_7 (cy := cy) (N := N) (T := T) (I := I) (Q := Q) (J := J) (hM.at 0 (by decide)) (hM.k 0 (by decide) rfl)
    refine va_get (D := (dC, dI)) (ci := 7) (v := .ref (T (w 0) 0)) (C := RX7) (T := TX7) (N := 18) hx hb hts hi7 hown hK hP j166 hj166 rfl 0 (by decide) (hts (.fieldLink RX7 11 "TallyLogsModel" "log" "[[LTallyLogsModel$Log;") (by decide +kernel)) (fun _ h9 => h9) rfl dX7_known_11 ?_
    refine W.eq (g2 := F0 m 14 ls [.ref (w 1)]) (by rw [hM.t 0 (by decide)]) ?_
    refine lv_iload_n hx hb dX7_known_14 rfl (lv_at hl 1 rfl) ?_
    obtain ⟨j167, hj167⟩ := wG_22 (cy := cy) (N := N) (T := T) (I := I) (Q := Q) (J := J) (hM.at 1 (by decide)) (hM.k 1 (by decide) rfl)
    refine xg_aldg hx hb hK hP j167 2 hj167 rfl hp dX7_known_15 ?_
    refine W.eq (g2 := F0 m 16 ls [.ref (w (17 + xp.toNatClampNeg))]) (by rw [hM.qo (vp_lt (n := 4) hp)]; rfl) ?_
    refine lv_iload_n hx hb dX7_known_16 rfl (lv_at hl 2 rfl) ?_
    obtain ⟨j168, hj168⟩ := wG_23 (cy := cy) (N := N) (T := T) (I := I) (Q := Q) (J := J) (hM.row (vp_lt (n := 4) hp)).1 (hM.row (vp_lt (n := 4) hp)).2
    refine va_aldq hx hb hK hP j168 3 hj168 rfl hn dX7_known_17 ?_
    have hjl169 : (5 * xp.toNatClampNeg + xn.toNatClampNeg) < 20 := by have h1 := (vp_lt (n := 4) hp); have h2 := (vp_lt (n := 5) hn); omega
    refine W.eq (g2 := F0 m 18 ls [.ref (w (21 + (5 * xp.toNatClampNeg + xn.toNatClampNeg)))]) (by rw [hM.qr (vp_lt (n := 4) hp) (vp_lt (n := 5) hn)]; rfl) ?_
    obtain ⟨j170, hj170⟩ := wG_6 (cy := cy) (N := N) (T := T) (I := I) (Q := Q) (J := J) (hM.lg hjl169).1 (hM.lg hjl169).2
    refine va_get (D := (dC, dI)) (ci := 6) (v := .int (I (w (21 + (5 * xp.toNatClampNeg + xn.toNatClampNeg))) 2)) (C := RX6) (T := TX6) (N := 7) hx hb hts hi6 hown hK hP j170 hj170 rfl 2 (by decide) (hts (.fieldLink RX7 89 "TallyLogsModel$Log" "end" "I") (by decide +kernel)) (fun _ h9 => h9) rfl dX7_known_18 ?_
    refine lv_topi (fun x171 ex171 => ?_)
    have tx171 : x171.toInt = (I (w (21 + (5 * xp.toNatClampNeg + xn.toNatClampNeg))) 2).toInt := congrArg Int32.toInt ex171
    refine lv_goto (tgt := 35) hx hb dX7_known_21 (by decide) ?_
    exact W.iret (v := x171) hx hb hr (fun t ht hW => ⟨x171, rfl, (fun _ => ex171), ht⟩) (fun _ h => by cases h) dX7_known_35
