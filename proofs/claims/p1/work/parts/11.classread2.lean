set_option maxHeartbeats 4000000 in
set_option maxRecDepth 100000 in
/-- produce -/
theorem c_X5_produce (l : Launch) (dC : Nat → ClassId) (dI : Nat → Nat → Nat) (v : Nat → Nat) (cy : Nat → ClassId) (xp : Int32) (hd : Int32) (sq : Int32) (ke : Int32) (va : Int32) (al : Int32) : Met l yX5_produce wsX5_produce ({ frames := 2, cells := 0, slots := 0, locals := 42 }) (va_Pc [.ref (v 0), .int xp, .int hd, .int sq, .int ke, .int va, .int al] (fxB dC dI v cy)) (vp_Si (fun r => r = (-1))) 0 0 (fun _ => False) := by
  refine Met.ofW (cc := cX5_produce) (maxL := 11) (ret := (some .int)) (by decide) rfl ?_
  intro p e s m args below meth c s₁ B hml hv
  obtain ⟨rfl, hP, hK⟩ := hv
  have hx := B.exec
  have hb := B.bytes
  have hr := B.returns
  have hts := atoms_spec (ws := wsX5_produce) B.pre
  have hown : s.vm.findClass RX5 = some m.cls := findClass_of_methodNamed B.named
  have hlocks := B.notSynchronized
  have hi5 : ∀ w ∈ wsX50, w ∈ wsX5_produce := by decide +kernel
  have hl := lv_entry ([.ref (v 0), .int xp, .int hd, .int sq, .int ke, .int va, .int al]) (n := 11) (Nat.le_of_ble_eq_true rfl)
  rw [lg_entry_eq]
  generalize (lg_sl ([.ref (v 0), .int xp, .int hd, .int sq, .int ke, .int va, .int al]) ++ List.replicate (11 - (lg_sl ([.ref (v 0), .int xp, .int hd, .int sq, .int ke, .int va, .int al])).length) Slot.unset).toArray = ls at hl ⊢
  have hl : lv_has ls 11 [(0, .ref (v 0)), (1, .int xp), (2, .int hd), (3, .int sq), (4, .int ke), (5, .int va), (6, .int al)] := hl
  refine lv_aload_n hx hb dX5_produce_0 rfl (lv_at hl 0 rfl) ?_
  refine lv_iload_n hx hb dX5_produce_1 rfl (lv_at hl 1 rfl) ?_
  refine va_csq (W.runV (As := [.int xp]) (rest := []) ⟨hx, hb, hml, hown, hts⟩ (c_X5_partitionAt l dC dI v cy xp) (cwV 1 hts gX5_produce_X5_partitionAt rfl rfl rfl (by decide +kernel) ⟨Nat.le_of_ble_eq_true rfl, Nat.le_of_ble_eq_true rfl⟩) ⟨fx_blind, va_recv hK hP (ci := 5) (q0 := 0) rfl rfl, fun U hU hW => ⟨rfl, fx_pre hP hK hU hW⟩⟩ rfl rfl hl.1 rfl (lv_room (Nat.le_of_ble_eq_true rfl)) dX5_produce_2 ⟨Nat.le_of_ble_eq_true rfl, Nat.le_of_ble_eq_true rfl⟩) (fun r138 hr138 => ?_)
  subst hr138
  refine W.eq (g2 := F0 m 5 ls [.null]) rfl ?_
  refine lv_astoreN (lv' := [(7, .null), (0, .ref (v 0)), (1, .int xp), (2, .int hd), (3, .int sq), (4, .int ke), (5, .int va), (6, .int al)]) hx hb dX5_produce_5 hl (by decide) rfl (fun ls hl => ?_)
  refine lv_aload_n hx hb dX5_produce_7 rfl (lv_at hl 1 rfl) ?_
  refine lv_iload_n hx hb dX5_produce_8 rfl (lv_at hl 3 rfl) ?_
  refine va_csq (W.runV (As := [.int hd]) (rest := []) ⟨hx, hb, hml, hown, hts⟩ (c_X5_producerOf l dC dI v cy hd) (cwV 1 hts gX5_produce_X5_producerOf rfl rfl rfl (by decide +kernel) ⟨Nat.le_of_ble_eq_true rfl, Nat.le_of_ble_eq_true rfl⟩) ⟨fx_blind, va_recv hK hP (ci := 5) (q0 := 0) rfl rfl, fun U hU hW => ⟨rfl, fx_pre hP hK hU hW⟩⟩ rfl rfl hl.1 rfl (lv_room (Nat.le_of_ble_eq_true rfl)) dX5_produce_9 ⟨Nat.le_of_ble_eq_true rfl, Nat.le_of_ble_eq_true rfl⟩) (fun r139 hr139 => ?_)
  subst hr139
  rcases pOf_cs v hd with ⟨hn140, ho140⟩ | ⟨j140, hj140, hn140, hp140, hm140, ho140⟩
  · rw [ho140]
    refine W.eq (g2 := F0 m 12 ls [.null]) rfl ?_
    refine lv_astoreN (lv' := [(8, .null), (7, .null), (0, .ref (v 0)), (1, .int xp), (2, .int hd), (3, .int sq), (4, .int ke), (5, .int va), (6, .int al)]) hx hb dX5_produce_12 hl (by decide) rfl (fun ls hl => ?_)
    refine lv_aloadN hx hb dX5_produce_14 (lv_at hl 1 rfl) ?_
    refine lv_ifnullN (tgt := 29) hx hb dX5_produce_16 (by decide) ?_
    refine lv_iconst (v := (-1)) hx hb dX5_produce_29 (by decide) ?_
    exact W.iret (v := (-1)) hx hb hr (fun t ht hW => ⟨(-1), rfl, rfl, ht⟩) (fun _ h => by cases h) dX5_produce_30
  · rw [ho140]
    refine W.eq (g2 := F0 m 12 ls [.ref (v (4 + j140))]) rfl ?_
    refine lv_astore (lv' := [(8, .ref (v (4 + j140))), (7, .null), (0, .ref (v 0)), (1, .int xp), (2, .int hd), (3, .int sq), (4, .int ke), (5, .int va), (6, .int al)]) hx hb dX5_produce_12 hl (by decide) rfl (fun ls hl => ?_)
    refine lv_aloadN hx hb dX5_produce_14 (lv_at hl 1 rfl) ?_
    refine lv_ifnullN (tgt := 29) hx hb dX5_produce_16 (by decide) ?_
    refine lv_iconst (v := (-1)) hx hb dX5_produce_29 (by decide) ?_
    exact W.iret (v := (-1)) hx hb hr (fun t ht hW => ⟨(-1), rfl, rfl, ht⟩) (fun _ h => by cases h) dX5_produce_30
set_option maxHeartbeats 4000000 in
set_option maxRecDepth 100000 in
/-- begin -/
theorem c_X5_begin (l : Launch) (dC : Nat → ClassId) (dI : Nat → Nat → Nat) (v : Nat → Nat) (cy : Nat → ClassId) (hd : Int32) : Met l yX5_begin wsX5_begin ({ frames := 2, cells := 0, slots := 0, locals := 42 }) (va_Pc [.ref (v 0), .int hd] (fxB dC dI v cy)) (vp_Si (fun r => r = sp_bg hd)) 0 0 (fun _ => False) := by
  refine Met.ofW (cc := cX5_begin) (maxL := 3) (ret := (some .int)) (by decide) rfl ?_
  intro p e s m args below meth c s₁ B hml hv
  obtain ⟨rfl, hP, hK⟩ := hv
  have hx := B.exec
  have hb := B.bytes
  have hr := B.returns
  have hts := atoms_spec (ws := wsX5_begin) B.pre
  have hown : s.vm.findClass RX5 = some m.cls := findClass_of_methodNamed B.named
  have hlocks := B.notSynchronized
  have hi3 : ∀ w ∈ wsX30, w ∈ wsX5_begin := by decide +kernel
  have hi5 : ∀ w ∈ wsX50, w ∈ wsX5_begin := by decide +kernel
  have hl := lv_entry ([.ref (v 0), .int hd]) (n := 3) (Nat.le_of_ble_eq_true rfl)
  rw [lg_entry_eq]
  generalize (lg_sl ([.ref (v 0), .int hd]) ++ List.replicate (3 - (lg_sl ([.ref (v 0), .int hd])).length) Slot.unset).toArray = ls at hl ⊢
  have hl : lv_has ls 3 [(0, .ref (v 0)), (1, .int hd)] := hl
  refine lv_aload_n hx hb dX5_begin_0 rfl (lv_at hl 0 rfl) ?_
  refine lv_iload_n hx hb dX5_begin_1 rfl (lv_at hl 1 rfl) ?_
  refine va_csq (W.runV (As := [.int hd]) (rest := []) ⟨hx, hb, hml, hown, hts⟩ (c_X5_producerOf l dC dI v cy hd) (cwV 1 hts gX5_begin_X5_producerOf rfl rfl rfl (by decide +kernel) ⟨Nat.le_of_ble_eq_true rfl, Nat.le_of_ble_eq_true rfl⟩) ⟨fx_blind, va_recv hK hP (ci := 5) (q0 := 0) rfl rfl, fun U hU hW => ⟨rfl, fx_pre hP hK hU hW⟩⟩ rfl rfl hl.1 rfl (lv_room (Nat.le_of_ble_eq_true rfl)) dX5_begin_2 ⟨Nat.le_of_ble_eq_true rfl, Nat.le_of_ble_eq_true rfl⟩) (fun r141 hr141 => ?_)
  subst hr141
  rcases pOf_cs v hd with ⟨hn142, ho142⟩ | ⟨j142, hj142, hn142, hp142, hm142, ho142⟩
  · rw [ho142]
    refine W.eq (g2 := F0 m 5 ls [.null]) rfl ?_
    refine lv_astore_nN (lv' := [(2, .null), (0, .ref (v 0)), (1, .int hd)]) hx hb dX5_begin_5 rfl hl (by decide) rfl (fun ls hl => ?_)
    refine lv_aload_nN hx hb dX5_begin_6 rfl (lv_at hl 0 rfl) ?_
    refine lv_ifnonnullN hx hb dX5_begin_7 ?_
    refine lv_iconst (v := (-1)) hx hb dX5_begin_10 (by decide) ?_
    exact W.iret (v := (-1)) hx hb hr (fun t ht hW => ⟨(-1), rfl, by rw [sp_bg, if_pos hn142], ht⟩) (fun _ h => by cases h) dX5_begin_11
  · rw [ho142]
    refine W.eq (g2 := F0 m 5 ls [.ref (v (4 + j142))]) rfl ?_
    refine lv_astore_n (lv' := [(2, .ref (v (4 + j142))), (0, .ref (v 0)), (1, .int hd)]) hx hb dX5_begin_5 rfl hl (by decide) rfl (fun ls hl => ?_)
    refine lv_aload_n hx hb dX5_begin_6 rfl (lv_at hl 0 rfl) ?_
    refine lv_ifnonnull (tgt := 12) hx hb dX5_begin_7 (by decide) ?_
    refine lv_aload_n hx hb dX5_begin_12 rfl (lv_at hl 0 rfl) ?_
    refine va_get (D := (dC, dI)) (ci := 3) (v := .int (-1)) (C := RX3) (T := TX3) (N := 6) hx hb hts hi3 hown hK hP (4 + j142) (fx_pr v cy j142 hj142) rfl 1 (by decide) (hts (.fieldLink RX5 75 "TallyLogs$Producer" "generation" "I") (by decide +kernel)) (fun _ h9 => h9) rfl dX5_begin_13 ?_
    refine lv_iload_n hx hb dX5_begin_16 rfl (lv_at hl 2 rfl) ?_
    refine vp_callSi (W.runS (As := [.int hd]) (rest := [.int (-1)]) ⟨hx, hb, hml, hown, hts⟩ (c_X5_generationOf l hd) (va_cwS 1 hts gX5_begin_X5_generationOf rfl rfl rfl (by decide +kernel) ⟨Nat.le_of_ble_eq_true rfl, Nat.le_of_ble_eq_true rfl⟩) preEq rfl rfl hl.1 rfl (lv_room (Nat.le_of_ble_eq_true rfl)) dX5_begin_17 ⟨Nat.le_of_ble_eq_true rfl, Nat.le_of_ble_eq_true rfl⟩) (fun r143 hr143 => ?_)
    subst hr143
    refine lv_icmp_ne (tgt := 30) hx hb dX5_begin_20 (by decide) (fun c144 => ?_) (fun c144 => ?_)
    rotate_left
    · exact absurd c144 (xneg1 hp142)
    refine lv_bipush (v := (-4)) hx hb dX5_begin_30 (by decide) ?_
    exact W.iret (v := (-4)) hx hb hr (fun t ht hW => ⟨(-4), rfl, by rw [sp_bg, if_neg (by rw [hn142]; decide)], ht⟩) (fun _ h => by cases h) dX5_begin_32
set_option maxHeartbeats 4000000 in
set_option maxRecDepth 100000 in
/-- finish -/
theorem c_X5_finish (l : Launch) (dC : Nat → ClassId) (dI : Nat → Nat → Nat) (v : Nat → Nat) (cy : Nat → ClassId) (hd : Int32) (cm : Int32) : Met l yX5_finish wsX5_finish ({ frames := 2, cells := 0, slots := 0, locals := 42 }) (va_Pc [.ref (v 0), .int hd, .int cm] (fxB dC dI v cy)) (vp_Si (fun r => r = sp_bg hd)) 0 0 (fun _ => False) := by
  refine Met.ofW (cc := cX5_finish) (maxL := 4) (ret := (some .int)) (by decide) rfl ?_
  intro p e s m args below meth c s₁ B hml hv
  obtain ⟨rfl, hP, hK⟩ := hv
  have hx := B.exec
  have hb := B.bytes
  have hr := B.returns
  have hts := atoms_spec (ws := wsX5_finish) B.pre
  have hown : s.vm.findClass RX5 = some m.cls := findClass_of_methodNamed B.named
  have hlocks := B.notSynchronized
  have hi3 : ∀ w ∈ wsX30, w ∈ wsX5_finish := by decide +kernel
  have hi5 : ∀ w ∈ wsX50, w ∈ wsX5_finish := by decide +kernel
  have hl := lv_entry ([.ref (v 0), .int hd, .int cm]) (n := 4) (Nat.le_of_ble_eq_true rfl)
  rw [lg_entry_eq]
  generalize (lg_sl ([.ref (v 0), .int hd, .int cm]) ++ List.replicate (4 - (lg_sl ([.ref (v 0), .int hd, .int cm])).length) Slot.unset).toArray = ls at hl ⊢
  have hl : lv_has ls 4 [(0, .ref (v 0)), (1, .int hd), (2, .int cm)] := hl
  refine lv_aload_n hx hb dX5_finish_0 rfl (lv_at hl 0 rfl) ?_
  refine lv_iload_n hx hb dX5_finish_1 rfl (lv_at hl 1 rfl) ?_
  refine va_csq (W.runV (As := [.int hd]) (rest := []) ⟨hx, hb, hml, hown, hts⟩ (c_X5_producerOf l dC dI v cy hd) (cwV 1 hts gX5_finish_X5_producerOf rfl rfl rfl (by decide +kernel) ⟨Nat.le_of_ble_eq_true rfl, Nat.le_of_ble_eq_true rfl⟩) ⟨fx_blind, va_recv hK hP (ci := 5) (q0 := 0) rfl rfl, fun U hU hW => ⟨rfl, fx_pre hP hK hU hW⟩⟩ rfl rfl hl.1 rfl (lv_room (Nat.le_of_ble_eq_true rfl)) dX5_finish_2 ⟨Nat.le_of_ble_eq_true rfl, Nat.le_of_ble_eq_true rfl⟩) (fun r145 hr145 => ?_)
  subst hr145
  rcases pOf_cs v hd with ⟨hn146, ho146⟩ | ⟨j146, hj146, hn146, hp146, hm146, ho146⟩
  · rw [ho146]
    refine W.eq (g2 := F0 m 5 ls [.null]) rfl ?_
    refine lv_astore_nN (lv' := [(3, .null), (0, .ref (v 0)), (1, .int hd), (2, .int cm)]) hx hb dX5_finish_5 rfl hl (by decide) rfl (fun ls hl => ?_)
    refine lv_aload_nN hx hb dX5_finish_6 rfl (lv_at hl 0 rfl) ?_
    refine lv_ifnonnullN hx hb dX5_finish_7 ?_
    refine lv_iconst (v := (-1)) hx hb dX5_finish_10 (by decide) ?_
    exact W.iret (v := (-1)) hx hb hr (fun t ht hW => ⟨(-1), rfl, by rw [sp_bg, if_pos hn146], ht⟩) (fun _ h => by cases h) dX5_finish_11
  · rw [ho146]
    refine W.eq (g2 := F0 m 5 ls [.ref (v (4 + j146))]) rfl ?_
    refine lv_astore_n (lv' := [(3, .ref (v (4 + j146))), (0, .ref (v 0)), (1, .int hd), (2, .int cm)]) hx hb dX5_finish_5 rfl hl (by decide) rfl (fun ls hl => ?_)
    refine lv_aload_n hx hb dX5_finish_6 rfl (lv_at hl 0 rfl) ?_
    refine lv_ifnonnull (tgt := 12) hx hb dX5_finish_7 (by decide) ?_
    refine lv_aload_n hx hb dX5_finish_12 rfl (lv_at hl 0 rfl) ?_
    refine va_get (D := (dC, dI)) (ci := 3) (v := .int (-1)) (C := RX3) (T := TX3) (N := 6) hx hb hts hi3 hown hK hP (4 + j146) (fx_pr v cy j146 hj146) rfl 1 (by decide) (hts (.fieldLink RX5 75 "TallyLogs$Producer" "generation" "I") (by decide +kernel)) (fun _ h9 => h9) rfl dX5_finish_13 ?_
    refine lv_iload_n hx hb dX5_finish_16 rfl (lv_at hl 2 rfl) ?_
    refine vp_callSi (W.runS (As := [.int hd]) (rest := [.int (-1)]) ⟨hx, hb, hml, hown, hts⟩ (c_X5_generationOf l hd) (va_cwS 1 hts gX5_finish_X5_generationOf rfl rfl rfl (by decide +kernel) ⟨Nat.le_of_ble_eq_true rfl, Nat.le_of_ble_eq_true rfl⟩) preEq rfl rfl hl.1 rfl (lv_room (Nat.le_of_ble_eq_true rfl)) dX5_finish_17 ⟨Nat.le_of_ble_eq_true rfl, Nat.le_of_ble_eq_true rfl⟩) (fun r147 hr147 => ?_)
    subst hr147
    refine lv_icmp_ne (tgt := 31) hx hb dX5_finish_20 (by decide) (fun c148 => ?_) (fun c148 => ?_)
    rotate_left
    · exact absurd c148 (xneg1 hp146)
    refine lv_bipush (v := (-4)) hx hb dX5_finish_31 (by decide) ?_
    exact W.iret (v := (-4)) hx hb hr (fun t ht hW => ⟨(-4), rfl, by rw [sp_bg, if_neg (by rw [hn146]; decide)], ht⟩) (fun _ h => by cases h) dX5_finish_33
set_option maxHeartbeats 4000000 in
set_option maxRecDepth 100000 in
/-- settle -/
theorem c_X5_settle (l : Launch) (dC : Nat → ClassId) (dI : Nat → Nat → Nat) (v : Nat → Nat) (cy : Nat → ClassId) (xk : Int32) : Met l yX5_settle wsX5_settle ({ frames := 1, cells := 0, slots := 0, locals := 21 }) (va_Pc [.ref (v 0), .int xk] (fxB dC dI v cy)) (vp_Si (fun r => r = sp_st xk)) 0 0 (fun _ => False) := by
  refine Met.ofW (cc := cX5_settle) (maxL := 4) (ret := (some .int)) (by decide) rfl ?_
  intro p e s m args below meth c s₁ B hml hv
  obtain ⟨rfl, hP, hK⟩ := hv
  have hx := B.exec
  have hb := B.bytes
  have hr := B.returns
  have hts := atoms_spec (ws := wsX5_settle) B.pre
  have hown : s.vm.findClass RX5 = some m.cls := findClass_of_methodNamed B.named
  have hlocks := B.notSynchronized
  have hi3 : ∀ w ∈ wsX30, w ∈ wsX5_settle := by decide +kernel
  have hi5 : ∀ w ∈ wsX50, w ∈ wsX5_settle := by decide +kernel
  have hl := lv_entry ([.ref (v 0), .int xk]) (n := 4) (Nat.le_of_ble_eq_true rfl)
  rw [lg_entry_eq]
  generalize (lg_sl ([.ref (v 0), .int xk]) ++ List.replicate (4 - (lg_sl ([.ref (v 0), .int xk])).length) Slot.unset).toArray = ls at hl ⊢
  have hl : lv_has ls 4 [(0, .ref (v 0)), (1, .int xk)] := hl
  refine lv_aload_n hx hb dX5_settle_0 rfl (lv_at hl 0 rfl) ?_
  refine lv_iload_n hx hb dX5_settle_1 rfl (lv_at hl 1 rfl) ?_
  refine va_csq (W.runV (As := [.int xk]) (rest := []) ⟨hx, hb, hml, hown, hts⟩ (c_X5_producerAt l dC dI v cy xk) (cwV 1 hts gX5_settle_X5_producerAt rfl rfl rfl (by decide +kernel) ⟨Nat.le_of_ble_eq_true rfl, Nat.le_of_ble_eq_true rfl⟩) ⟨fx_blind, va_recv hK hP (ci := 5) (q0 := 0) rfl rfl, fun U hU hW => ⟨rfl, fx_pre hP hK hU hW⟩⟩ rfl rfl hl.1 rfl (lv_room (Nat.le_of_ble_eq_true rfl)) dX5_settle_2 ⟨Nat.le_of_ble_eq_true rfl, Nat.le_of_ble_eq_true rfl⟩) (fun r149 hr149 => ?_)
  subst hr149
  rcases pAt_cs v xk with ⟨hn150, ho150⟩ | ⟨j150, hj150, hn150, ho150⟩
  · rw [ho150]
    refine W.eq (g2 := F0 m 5 ls [.null]) rfl ?_
    refine lv_astore_nN (lv' := [(2, .null), (0, .ref (v 0)), (1, .int xk)]) hx hb dX5_settle_5 rfl hl (by decide) rfl (fun ls hl => ?_)
    refine lv_aload_nN hx hb dX5_settle_6 rfl (lv_at hl 0 rfl) ?_
    refine lv_ifnonnullN hx hb dX5_settle_7 ?_
    refine lv_iconst (v := (-1)) hx hb dX5_settle_10 (by decide) ?_
    exact W.iret (v := (-1)) hx hb hr (fun t ht hW => ⟨(-1), rfl, by rw [sp_st, if_neg hn150], ht⟩) (fun _ h => by cases h) dX5_settle_11
  · rw [ho150]
    refine W.eq (g2 := F0 m 5 ls [.ref (v (4 + j150))]) rfl ?_
    refine lv_astore_n (lv' := [(2, .ref (v (4 + j150))), (0, .ref (v 0)), (1, .int xk)]) hx hb dX5_settle_5 rfl hl (by decide) rfl (fun ls hl => ?_)
    refine lv_aload_n hx hb dX5_settle_6 rfl (lv_at hl 0 rfl) ?_
    refine lv_ifnonnull (tgt := 12) hx hb dX5_settle_7 (by decide) ?_
    refine lv_aload_n hx hb dX5_settle_12 rfl (lv_at hl 0 rfl) ?_
    refine va_get (D := (dC, dI)) (ci := 3) (v := .int 0) (C := RX3) (T := TX3) (N := 6) hx hb hts hi3 hown hK hP (4 + j150) (fx_pr v cy j150 hj150) rfl 2 (by decide) (hts (.fieldLink RX5 78 "TallyLogs$Producer" "mode" "I") (by decide +kernel)) (fun _ h9 => h9) rfl dX5_settle_13 ?_
    refine lv_iconst (v := 2) hx hb dX5_settle_16 (by decide) ?_
    refine lv_icmp_eq (tgt := 23) hx hb dX5_settle_17 (by decide) (fun c151 => ?_) (fun c151 => ?_)
    · exact absurd c151 (by decide)
    refine lv_bipush (v := (-2)) hx hb dX5_settle_20 (by decide) ?_
    exact W.iret (v := (-2)) hx hb hr (fun t ht hW => ⟨(-2), rfl, by rw [sp_st, if_pos (by rw [hn150, nI_toInt (by omega)]; omega)], ht⟩) (fun _ h => by cases h) dX5_settle_22
set_option maxHeartbeats 4000000 in
set_option maxRecDepth 100000 in
/-- seen -/
theorem c_X5_seen (l : Launch) (dC : Nat → ClassId) (dI : Nat → Nat → Nat) (v : Nat → Nat) (cy : Nat → ClassId) (wh : Int32) : Met l yX5_seen wsX5_seen ({ frames := 0, cells := 0, slots := 0, locals := 0 }) (va_Pc [.ref (v 0), .int wh] (fxB dC dI v cy)) (vp_Si (fun r => r = 0)) 0 0 (fun _ => False) := by
  refine Met.ofW (cc := cX5_seen) (maxL := 2) (ret := (some .int)) (by decide) rfl ?_
  intro p e s m args below meth c s₁ B hml hv
  obtain ⟨rfl, hP, hK⟩ := hv
  have hx := B.exec
  have hb := B.bytes
  have hr := B.returns
  have hts := atoms_spec (ws := wsX5_seen) B.pre
  have hown : s.vm.findClass RX5 = some m.cls := findClass_of_methodNamed B.named
  have hlocks := B.notSynchronized
  have hi5 : ∀ w ∈ wsX50, w ∈ wsX5_seen := by decide +kernel
  have hl := lv_entry ([.ref (v 0), .int wh]) (n := 2) (Nat.le_of_ble_eq_true rfl)
  rw [lg_entry_eq]
  generalize (lg_sl ([.ref (v 0), .int wh]) ++ List.replicate (2 - (lg_sl ([.ref (v 0), .int wh])).length) Slot.unset).toArray = ls at hl ⊢
  have hl : lv_has ls 2 [(0, .ref (v 0)), (1, .int wh)] := hl
  refine lv_aload_n hx hb dX5_seen_0 rfl (lv_at hl 0 rfl) ?_
  refine va_get (D := (dC, dI)) (ci := 5) (v := .null) (C := RX5) (T := TX5) (N := 6) hx hb hts hi5 hown hK hP 0 rfl rfl 5 (by decide) (hts (.fieldLink RX5 34 "TallyLogs" "lastSeen" "LTallyLogs$Entry;") (by decide +kernel)) (fun _ h9 => h9) rfl dX5_seen_1 ?_
  refine lv_ifnonnullN hx hb dX5_seen_4 ?_
  refine lv_iconst (v := 0) hx hb dX5_seen_7 (by decide) ?_
  exact W.iret (v := 0) hx hb hr (fun t ht hW => ⟨0, rfl, rfl, ht⟩) (fun _ h => by cases h) dX5_seen_8
set_option maxHeartbeats 4000000 in
set_option maxRecDepth 100000 in
/-- owner -/
theorem c_X5_owner (l : Launch) (dC : Nat → ClassId) (dI : Nat → Nat → Nat) (v : Nat → Nat) (cy : Nat → ClassId) (xg : Int32) (xp : Int32) : Met l yX5_owner wsX5_owner ({ frames := 1, cells := 0, slots := 0, locals := 21 }) (va_Pc [.ref (v 0), .int xg, .int xp] (fxB dC dI v cy)) (vp_Si (fun r => r = (-1))) 0 0 (fun _ => False) := by
  refine Met.ofW (cc := cX5_owner) (maxL := 5) (ret := (some .int)) (by decide) rfl ?_
  intro p e s m args below meth c s₁ B hml hv
  obtain ⟨rfl, hP, hK⟩ := hv
  have hx := B.exec
  have hb := B.bytes
  have hr := B.returns
  have hts := atoms_spec (ws := wsX5_owner) B.pre
  have hown : s.vm.findClass RX5 = some m.cls := findClass_of_methodNamed B.named
  have hlocks := B.notSynchronized
  have hi5 : ∀ w ∈ wsX50, w ∈ wsX5_owner := by decide +kernel
  have hl := lv_entry ([.ref (v 0), .int xg, .int xp]) (n := 5) (Nat.le_of_ble_eq_true rfl)
  rw [lg_entry_eq]
  generalize (lg_sl ([.ref (v 0), .int xg, .int xp]) ++ List.replicate (5 - (lg_sl ([.ref (v 0), .int xg, .int xp])).length) Slot.unset).toArray = ls at hl ⊢
  have hl : lv_has ls 5 [(0, .ref (v 0)), (1, .int xg), (2, .int xp)] := hl
  refine lv_aload_n hx hb dX5_owner_0 rfl (lv_at hl 0 rfl) ?_
  refine lv_iload_n hx hb dX5_owner_1 rfl (lv_at hl 1 rfl) ?_
  refine va_csq (W.runV (As := [.int xg]) (rest := []) ⟨hx, hb, hml, hown, hts⟩ (c_X5_groupAt l dC dI v cy xg) (cwV 1 hts gX5_owner_X5_groupAt rfl rfl rfl (by decide +kernel) ⟨Nat.le_of_ble_eq_true rfl, Nat.le_of_ble_eq_true rfl⟩) ⟨fx_blind, va_recv hK hP (ci := 5) (q0 := 0) rfl rfl, fun U hU hW => ⟨rfl, fx_pre hP hK hU hW⟩⟩ rfl rfl hl.1 rfl (lv_room (Nat.le_of_ble_eq_true rfl)) dX5_owner_2 ⟨Nat.le_of_ble_eq_true rfl, Nat.le_of_ble_eq_true rfl⟩) (fun r152 hr152 => ?_)
  subst hr152
  rcases gAt_cs v xg with ⟨hn153, ho153⟩ | ⟨j153, hj153, hn153, ho153⟩
  · rw [ho153]
    refine W.eq (g2 := F0 m 5 ls [.null]) rfl ?_
    refine lv_astore_nN (lv' := [(3, .null), (0, .ref (v 0)), (1, .int xg), (2, .int xp)]) hx hb dX5_owner_5 rfl hl (by decide) rfl (fun ls hl => ?_)
    refine lv_aload_nN hx hb dX5_owner_6 rfl (lv_at hl 0 rfl) ?_
    refine lv_ifnullN (tgt := 18) hx hb dX5_owner_7 (by decide) ?_
    refine lv_iconst (v := (-1)) hx hb dX5_owner_18 (by decide) ?_
    exact W.iret (v := (-1)) hx hb hr (fun t ht hW => ⟨(-1), rfl, rfl, ht⟩) (fun _ h => by cases h) dX5_owner_19
  · rw [ho153]
    refine W.eq (g2 := F0 m 5 ls [.ref (v (10 + j153))]) rfl ?_
    refine lv_astore_n (lv' := [(3, .ref (v (10 + j153))), (0, .ref (v 0)), (1, .int xg), (2, .int xp)]) hx hb dX5_owner_5 rfl hl (by decide) rfl (fun ls hl => ?_)
    refine lv_aload_n hx hb dX5_owner_6 rfl (lv_at hl 0 rfl) ?_
    refine lv_ifnull hx hb dX5_owner_7 ?_
    refine lv_aload_n hx hb dX5_owner_10 rfl (lv_at hl 1 rfl) ?_
    refine lv_iload_n hx hb dX5_owner_11 rfl (lv_at hl 3 rfl) ?_
    refine va_csq (W.runV (As := [.int xp]) (rest := []) ⟨hx, hb, hml, hown, hts⟩ (c_X5_partitionAt l dC dI v cy xp) (cwV 1 hts gX5_owner_X5_partitionAt rfl rfl rfl (by decide +kernel) ⟨Nat.le_of_ble_eq_true rfl, Nat.le_of_ble_eq_true rfl⟩) ⟨fx_blind, va_recv hK hP (ci := 5) (q0 := 0) rfl rfl, fun U hU hW => ⟨rfl, fx_pre hP hK hU hW⟩⟩ rfl rfl hl.1 rfl (lv_room (Nat.le_of_ble_eq_true rfl)) dX5_owner_12 ⟨Nat.le_of_ble_eq_true rfl, Nat.le_of_ble_eq_true rfl⟩) (fun r154 hr154 => ?_)
    subst hr154
    refine W.eq (g2 := F0 m 15 ls [.null]) rfl ?_
    refine lv_ifnonnullN hx hb dX5_owner_15 ?_
    refine lv_iconst (v := (-1)) hx hb dX5_owner_18 (by decide) ?_
    exact W.iret (v := (-1)) hx hb hr (fun t ht hW => ⟨(-1), rfl, rfl, ht⟩) (fun _ h => by cases h) dX5_owner_19
set_option maxHeartbeats 4000000 in
set_option maxRecDepth 100000 in
/-- position -/
theorem c_X5_position (l : Launch) (dC : Nat → ClassId) (dI : Nat → Nat → Nat) (v : Nat → Nat) (cy : Nat → ClassId) (xg : Int32) (xp : Int32) : Met l yX5_position wsX5_position ({ frames := 1, cells := 0, slots := 0, locals := 21 }) (va_Pc [.ref (v 0), .int xg, .int xp] (fxB dC dI v cy)) (vp_Si (fun r => r = (-1))) 0 0 (fun _ => False) := by
  refine Met.ofW (cc := cX5_position) (maxL := 4) (ret := (some .int)) (by decide) rfl ?_
  intro p e s m args below meth c s₁ B hml hv
  obtain ⟨rfl, hP, hK⟩ := hv
  have hx := B.exec
  have hb := B.bytes
  have hr := B.returns
  have hts := atoms_spec (ws := wsX5_position) B.pre
  have hown : s.vm.findClass RX5 = some m.cls := findClass_of_methodNamed B.named
  have hlocks := B.notSynchronized
  have hi5 : ∀ w ∈ wsX50, w ∈ wsX5_position := by decide +kernel
  have hl := lv_entry ([.ref (v 0), .int xg, .int xp]) (n := 4) (Nat.le_of_ble_eq_true rfl)
  rw [lg_entry_eq]
  generalize (lg_sl ([.ref (v 0), .int xg, .int xp]) ++ List.replicate (4 - (lg_sl ([.ref (v 0), .int xg, .int xp])).length) Slot.unset).toArray = ls at hl ⊢
  have hl : lv_has ls 4 [(0, .ref (v 0)), (1, .int xg), (2, .int xp)] := hl
  refine lv_aload_n hx hb dX5_position_0 rfl (lv_at hl 0 rfl) ?_
  refine lv_iload_n hx hb dX5_position_1 rfl (lv_at hl 1 rfl) ?_
  refine va_csq (W.runV (As := [.int xg]) (rest := []) ⟨hx, hb, hml, hown, hts⟩ (c_X5_groupAt l dC dI v cy xg) (cwV 1 hts gX5_position_X5_groupAt rfl rfl rfl (by decide +kernel) ⟨Nat.le_of_ble_eq_true rfl, Nat.le_of_ble_eq_true rfl⟩) ⟨fx_blind, va_recv hK hP (ci := 5) (q0 := 0) rfl rfl, fun U hU hW => ⟨rfl, fx_pre hP hK hU hW⟩⟩ rfl rfl hl.1 rfl (lv_room (Nat.le_of_ble_eq_true rfl)) dX5_position_2 ⟨Nat.le_of_ble_eq_true rfl, Nat.le_of_ble_eq_true rfl⟩) (fun r155 hr155 => ?_)
  subst hr155
  rcases gAt_cs v xg with ⟨hn156, ho156⟩ | ⟨j156, hj156, hn156, ho156⟩
  · rw [ho156]
    refine W.eq (g2 := F0 m 5 ls [.null]) rfl ?_
    refine lv_astore_nN (lv' := [(3, .null), (0, .ref (v 0)), (1, .int xg), (2, .int xp)]) hx hb dX5_position_5 rfl hl (by decide) rfl (fun ls hl => ?_)
    refine lv_aload_nN hx hb dX5_position_6 rfl (lv_at hl 0 rfl) ?_
    refine lv_ifnullN (tgt := 18) hx hb dX5_position_7 (by decide) ?_
    refine lv_iconst (v := (-1)) hx hb dX5_position_18 (by decide) ?_
    exact W.iret (v := (-1)) hx hb hr (fun t ht hW => ⟨(-1), rfl, rfl, ht⟩) (fun _ h => by cases h) dX5_position_19
  · rw [ho156]
    refine W.eq (g2 := F0 m 5 ls [.ref (v (10 + j156))]) rfl ?_
    refine lv_astore_n (lv' := [(3, .ref (v (10 + j156))), (0, .ref (v 0)), (1, .int xg), (2, .int xp)]) hx hb dX5_position_5 rfl hl (by decide) rfl (fun ls hl => ?_)
    refine lv_aload_n hx hb dX5_position_6 rfl (lv_at hl 0 rfl) ?_
    refine lv_ifnull hx hb dX5_position_7 ?_
    refine lv_aload_n hx hb dX5_position_10 rfl (lv_at hl 1 rfl) ?_
    refine lv_iload_n hx hb dX5_position_11 rfl (lv_at hl 3 rfl) ?_
    refine va_csq (W.runV (As := [.int xp]) (rest := []) ⟨hx, hb, hml, hown, hts⟩ (c_X5_partitionAt l dC dI v cy xp) (cwV 1 hts gX5_position_X5_partitionAt rfl rfl rfl (by decide +kernel) ⟨Nat.le_of_ble_eq_true rfl, Nat.le_of_ble_eq_true rfl⟩) ⟨fx_blind, va_recv hK hP (ci := 5) (q0 := 0) rfl rfl, fun U hU hW => ⟨rfl, fx_pre hP hK hU hW⟩⟩ rfl rfl hl.1 rfl (lv_room (Nat.le_of_ble_eq_true rfl)) dX5_position_12 ⟨Nat.le_of_ble_eq_true rfl, Nat.le_of_ble_eq_true rfl⟩) (fun r157 hr157 => ?_)
    subst hr157
    refine W.eq (g2 := F0 m 15 ls [.null]) rfl ?_
    refine lv_ifnonnullN hx hb dX5_position_15 ?_
    refine lv_iconst (v := (-1)) hx hb dX5_position_18 (by decide) ?_
    exact W.iret (v := (-1)) hx hb hr (fun t ht hW => ⟨(-1), rfl, rfl, ht⟩) (fun _ h => by cases h) dX5_position_19
set_option maxHeartbeats 4000000 in
set_option maxRecDepth 100000 in
/-- move -/
theorem c_X5_move (l : Launch) (dC : Nat → ClassId) (dI : Nat → Nat → Nat) (v : Nat → Nat) (cy : Nat → ClassId) (xg : Int32) (xm : Int32) (ro : Int32) (xp : Int32) (xo : Int32) : Met l yX5_move wsX5_move ({ frames := 1, cells := 0, slots := 0, locals := 21 }) (va_Pc [.ref (v 0), .int xg, .int xm, .int ro, .int xp, .int xo] (fxB dC dI v cy)) (vp_Si (fun r => r = (-1))) 0 0 (fun _ => False) := by
  refine Met.ofW (cc := cX5_move) (maxL := 7) (ret := (some .int)) (by decide) rfl ?_
  intro p e s m args below meth c s₁ B hml hv
  obtain ⟨rfl, hP, hK⟩ := hv
  have hx := B.exec
  have hb := B.bytes
  have hr := B.returns
  have hts := atoms_spec (ws := wsX5_move) B.pre
  have hown : s.vm.findClass RX5 = some m.cls := findClass_of_methodNamed B.named
  have hlocks := B.notSynchronized
  have hi5 : ∀ w ∈ wsX50, w ∈ wsX5_move := by decide +kernel
  have hl := lv_entry ([.ref (v 0), .int xg, .int xm, .int ro, .int xp, .int xo]) (n := 7) (Nat.le_of_ble_eq_true rfl)
  rw [lg_entry_eq]
  generalize (lg_sl ([.ref (v 0), .int xg, .int xm, .int ro, .int xp, .int xo]) ++ List.replicate (7 - (lg_sl ([.ref (v 0), .int xg, .int xm, .int ro, .int xp, .int xo])).length) Slot.unset).toArray = ls at hl ⊢
  have hl : lv_has ls 7 [(0, .ref (v 0)), (1, .int xg), (2, .int xm), (3, .int ro), (4, .int xp), (5, .int xo)] := hl
  refine lv_aload_n hx hb dX5_move_0 rfl (lv_at hl 0 rfl) ?_
  refine lv_iload_n hx hb dX5_move_1 rfl (lv_at hl 1 rfl) ?_
  refine va_csq (W.runV (As := [.int xg]) (rest := []) ⟨hx, hb, hml, hown, hts⟩ (c_X5_groupAt l dC dI v cy xg) (cwV 1 hts gX5_move_X5_groupAt rfl rfl rfl (by decide +kernel) ⟨Nat.le_of_ble_eq_true rfl, Nat.le_of_ble_eq_true rfl⟩) ⟨fx_blind, va_recv hK hP (ci := 5) (q0 := 0) rfl rfl, fun U hU hW => ⟨rfl, fx_pre hP hK hU hW⟩⟩ rfl rfl hl.1 rfl (lv_room (Nat.le_of_ble_eq_true rfl)) dX5_move_2 ⟨Nat.le_of_ble_eq_true rfl, Nat.le_of_ble_eq_true rfl⟩) (fun r158 hr158 => ?_)
  subst hr158
  rcases gAt_cs v xg with ⟨hn159, ho159⟩ | ⟨j159, hj159, hn159, ho159⟩
  · rw [ho159]
    refine W.eq (g2 := F0 m 5 ls [.null]) rfl ?_
    refine lv_astoreN (lv' := [(6, .null), (0, .ref (v 0)), (1, .int xg), (2, .int xm), (3, .int ro), (4, .int xp), (5, .int xo)]) hx hb dX5_move_5 hl (by decide) rfl (fun ls hl => ?_)
    refine lv_aloadN hx hb dX5_move_7 (lv_at hl 0 rfl) ?_
    refine lv_ifnullN (tgt := 26) hx hb dX5_move_9 (by decide) ?_
    refine lv_iconst (v := (-1)) hx hb dX5_move_26 (by decide) ?_
    exact W.iret (v := (-1)) hx hb hr (fun t ht hW => ⟨(-1), rfl, rfl, ht⟩) (fun _ h => by cases h) dX5_move_27
  · rw [ho159]
    refine W.eq (g2 := F0 m 5 ls [.ref (v (10 + j159))]) rfl ?_
    refine lv_astore (lv' := [(6, .ref (v (10 + j159))), (0, .ref (v 0)), (1, .int xg), (2, .int xm), (3, .int ro), (4, .int xp), (5, .int xo)]) hx hb dX5_move_5 hl (by decide) rfl (fun ls hl => ?_)
    refine lv_aload hx hb dX5_move_7 (lv_at hl 0 rfl) ?_
    refine lv_ifnull hx hb dX5_move_9 ?_
    refine lv_aload_n hx hb dX5_move_12 rfl (lv_at hl 1 rfl) ?_
    refine lv_iload hx hb dX5_move_13 (lv_at hl 5 rfl) ?_
    refine va_csq (W.runV (As := [.int xp]) (rest := []) ⟨hx, hb, hml, hown, hts⟩ (c_X5_partitionAt l dC dI v cy xp) (cwV 1 hts gX5_move_X5_partitionAt rfl rfl rfl (by decide +kernel) ⟨Nat.le_of_ble_eq_true rfl, Nat.le_of_ble_eq_true rfl⟩) ⟨fx_blind, va_recv hK hP (ci := 5) (q0 := 0) rfl rfl, fun U hU hW => ⟨rfl, fx_pre hP hK hU hW⟩⟩ rfl rfl hl.1 rfl (lv_room (Nat.le_of_ble_eq_true rfl)) dX5_move_15 ⟨Nat.le_of_ble_eq_true rfl, Nat.le_of_ble_eq_true rfl⟩) (fun r160 hr160 => ?_)
    subst hr160
    refine W.eq (g2 := F0 m 18 ls [.null]) rfl ?_
    refine lv_ifnullN (tgt := 26) hx hb dX5_move_18 (by decide) ?_
    refine lv_iconst (v := (-1)) hx hb dX5_move_26 (by decide) ?_
    exact W.iret (v := (-1)) hx hb hr (fun t ht hW => ⟨(-1), rfl, rfl, ht⟩) (fun _ h => by cases h) dX5_move_27
set_option maxHeartbeats 4000000 in
set_option maxRecDepth 100000 in
/-- flush -/
theorem c_X5_flush (l : Launch) (dC : Nat → ClassId) (dI : Nat → Nat → Nat) (v : Nat → Nat) (cy : Nat → ClassId) (xn : Int32) (xp : Int32) : Met l yX5_flush wsX5_flush ({ frames := 2, cells := 0, slots := 0, locals := 44 }) (va_Pc [.ref (v 0), .int xn, .int xp] (fxB dC dI v cy)) (vp_Si (fun r => r = (-1))) 0 0 (fun _ => False) := by
  refine Met.ofW (cc := cX5_flush) (maxL := 5) (ret := (some .int)) (by decide) rfl ?_
  intro p e s m args below meth c s₁ B hml hv
  obtain ⟨rfl, hP, hK⟩ := hv
  have hx := B.exec
  have hb := B.bytes
  have hr := B.returns
  have hts := atoms_spec (ws := wsX5_flush) B.pre
  have hown : s.vm.findClass RX5 = some m.cls := findClass_of_methodNamed B.named
  have hlocks := B.notSynchronized
  have hi5 : ∀ w ∈ wsX50, w ∈ wsX5_flush := by decide +kernel
  have hl := lv_entry ([.ref (v 0), .int xn, .int xp]) (n := 5) (Nat.le_of_ble_eq_true rfl)
  rw [lg_entry_eq]
  generalize (lg_sl ([.ref (v 0), .int xn, .int xp]) ++ List.replicate (5 - (lg_sl ([.ref (v 0), .int xn, .int xp])).length) Slot.unset).toArray = ls at hl ⊢
  have hl : lv_has ls 5 [(0, .ref (v 0)), (1, .int xn), (2, .int xp)] := hl
  refine lv_aload_n hx hb dX5_flush_0 rfl (lv_at hl 0 rfl) ?_
  refine lv_iload_n hx hb dX5_flush_1 rfl (lv_at hl 1 rfl) ?_
  refine lv_iload_n hx hb dX5_flush_2 rfl (lv_at hl 2 rfl) ?_
  refine va_csq (W.runV (As := [.int xn, .int xp]) (rest := []) ⟨hx, hb, hml, hown, hts⟩ (c_X5_replicaOf l dC dI v cy xn xp) (cwV 2 hts gX5_flush_X5_replicaOf rfl rfl rfl (by decide +kernel) ⟨Nat.le_of_ble_eq_true rfl, Nat.le_of_ble_eq_true rfl⟩) ⟨fx_blind, va_recv hK hP (ci := 5) (q0 := 0) rfl rfl, fun U hU hW => ⟨rfl, fx_pre hP hK hU hW⟩⟩ rfl rfl hl.1 rfl (lv_room (Nat.le_of_ble_eq_true rfl)) dX5_flush_3 ⟨Nat.le_of_ble_eq_true rfl, Nat.le_of_ble_eq_true rfl⟩) (fun r161 hr161 => ?_)
  subst hr161
  refine W.eq (g2 := F0 m 6 ls [.null]) rfl ?_
  refine lv_astore_nN (lv' := [(3, .null), (0, .ref (v 0)), (1, .int xn), (2, .int xp)]) hx hb dX5_flush_6 rfl hl (by decide) rfl (fun ls hl => ?_)
  refine lv_aload_nN hx hb dX5_flush_7 rfl (lv_at hl 0 rfl) ?_
  refine lv_ifnullN (tgt := 22) hx hb dX5_flush_8 (by decide) ?_
  refine lv_iconst (v := (-1)) hx hb dX5_flush_22 (by decide) ?_
  exact W.iret (v := (-1)) hx hb hr (fun t ht hW => ⟨(-1), rfl, rfl, ht⟩) (fun _ h => by cases h) dX5_flush_23
set_option maxHeartbeats 4000000 in
set_option maxRecDepth 100000 in
/-- log -/
theorem c_X5_log (l : Launch) (dC : Nat → ClassId) (dI : Nat → Nat → Nat) (v : Nat → Nat) (cy : Nat → ClassId) (xn : Int32) (xp : Int32) (wh : Int32) : Met l yX5_log wsX5_log ({ frames := 2, cells := 0, slots := 0, locals := 44 }) (va_Pc [.ref (v 0), .int xn, .int xp, .int wh] (fxB dC dI v cy)) (vp_Si (fun r => r = (-1))) 0 0 (fun _ => False) := by
  refine Met.ofW (cc := cX5_log) (maxL := 6) (ret := (some .int)) (by decide) rfl ?_
  intro p e s m args below meth c s₁ B hml hv
  obtain ⟨rfl, hP, hK⟩ := hv
  have hx := B.exec
  have hb := B.bytes
  have hr := B.returns
  have hts := atoms_spec (ws := wsX5_log) B.pre
  have hown : s.vm.findClass RX5 = some m.cls := findClass_of_methodNamed B.named
  have hlocks := B.notSynchronized
  have hi5 : ∀ w ∈ wsX50, w ∈ wsX5_log := by decide +kernel
  have hl := lv_entry ([.ref (v 0), .int xn, .int xp, .int wh]) (n := 6) (Nat.le_of_ble_eq_true rfl)
  rw [lg_entry_eq]
  generalize (lg_sl ([.ref (v 0), .int xn, .int xp, .int wh]) ++ List.replicate (6 - (lg_sl ([.ref (v 0), .int xn, .int xp, .int wh])).length) Slot.unset).toArray = ls at hl ⊢
  have hl : lv_has ls 6 [(0, .ref (v 0)), (1, .int xn), (2, .int xp), (3, .int wh)] := hl
  refine lv_aload_n hx hb dX5_log_0 rfl (lv_at hl 0 rfl) ?_
  refine lv_iload_n hx hb dX5_log_1 rfl (lv_at hl 2 rfl) ?_
  refine va_csq (W.runV (As := [.int xp]) (rest := []) ⟨hx, hb, hml, hown, hts⟩ (c_X5_partitionAt l dC dI v cy xp) (cwV 1 hts gX5_log_X5_partitionAt rfl rfl rfl (by decide +kernel) ⟨Nat.le_of_ble_eq_true rfl, Nat.le_of_ble_eq_true rfl⟩) ⟨fx_blind, va_recv hK hP (ci := 5) (q0 := 0) rfl rfl, fun U hU hW => ⟨rfl, fx_pre hP hK hU hW⟩⟩ rfl rfl hl.1 rfl (lv_room (Nat.le_of_ble_eq_true rfl)) dX5_log_2 ⟨Nat.le_of_ble_eq_true rfl, Nat.le_of_ble_eq_true rfl⟩) (fun r162 hr162 => ?_)
  subst hr162
  refine W.eq (g2 := F0 m 5 ls [.null]) rfl ?_
  refine lv_astoreN (lv' := [(4, .null), (0, .ref (v 0)), (1, .int xn), (2, .int xp), (3, .int wh)]) hx hb dX5_log_5 hl (by decide) rfl (fun ls hl => ?_)
  refine lv_aload_n hx hb dX5_log_7 rfl (lv_at hl 1 rfl) ?_
  refine lv_iload_n hx hb dX5_log_8 rfl (lv_at hl 2 rfl) ?_
  refine lv_iload_n hx hb dX5_log_9 rfl (lv_at hl 3 rfl) ?_
  refine va_csq (W.runV (As := [.int xn, .int xp]) (rest := []) ⟨hx, hb, hml, hown, hts⟩ (c_X5_replicaOf l dC dI v cy xn xp) (cwV 2 hts gX5_log_X5_replicaOf rfl rfl rfl (by decide +kernel) ⟨Nat.le_of_ble_eq_true rfl, Nat.le_of_ble_eq_true rfl⟩) ⟨fx_blind, va_recv hK hP (ci := 5) (q0 := 0) rfl rfl, fun U hU hW => ⟨rfl, fx_pre hP hK hU hW⟩⟩ rfl rfl hl.1 rfl (lv_room (Nat.le_of_ble_eq_true rfl)) dX5_log_10 ⟨Nat.le_of_ble_eq_true rfl, Nat.le_of_ble_eq_true rfl⟩) (fun r163 hr163 => ?_)
  subst hr163
  refine W.eq (g2 := F0 m 13 ls [.null]) rfl ?_
  refine lv_astoreN (lv' := [(5, .null), (4, .null), (0, .ref (v 0)), (1, .int xn), (2, .int xp), (3, .int wh)]) hx hb dX5_log_13 hl (by decide) rfl (fun ls hl => ?_)
  refine lv_aloadN hx hb dX5_log_15 (lv_at hl 1 rfl) ?_
  refine lv_ifnullN (tgt := 25) hx hb dX5_log_17 (by decide) ?_
  refine lv_iconst (v := (-1)) hx hb dX5_log_25 (by decide) ?_
  exact W.iret (v := (-1)) hx hb hr (fun t ht hW => ⟨(-1), rfl, rfl, ht⟩) (fun _ h => by cases h) dX5_log_26
set_option maxHeartbeats 4000000 in
set_option maxRecDepth 100000 in
/-- record -/
theorem c_X5_record (l : Launch) (dC : Nat → ClassId) (dI : Nat → Nat → Nat) (v : Nat → Nat) (cy : Nat → ClassId) (xn : Int32) (xp : Int32) (xo : Int32) (wh : Int32) : Met l yX5_record wsX5_record ({ frames := 2, cells := 0, slots := 0, locals := 44 }) (va_Pc [.ref (v 0), .int xn, .int xp, .int xo, .int wh] (fxB dC dI v cy)) (vp_Sl (fun r => r = 1099511627776)) 0 0 (fun _ => False) := by
  refine Met.ofW (cc := cX5_record) (maxL := 7) (ret := (some .long)) (by decide) rfl ?_
  intro p e s m args below meth c s₁ B hml hv
  obtain ⟨rfl, hP, hK⟩ := hv
  have hx := B.exec
  have hb := B.bytes
  have hr := B.returns
  have hts := atoms_spec (ws := wsX5_record) B.pre
  have hown : s.vm.findClass RX5 = some m.cls := findClass_of_methodNamed B.named
  have hlocks := B.notSynchronized
  have hi5 : ∀ w ∈ wsX50, w ∈ wsX5_record := by decide +kernel
  have hl := lv_entry ([.ref (v 0), .int xn, .int xp, .int xo, .int wh]) (n := 7) (Nat.le_of_ble_eq_true rfl)
  rw [lg_entry_eq]
  generalize (lg_sl ([.ref (v 0), .int xn, .int xp, .int xo, .int wh]) ++ List.replicate (7 - (lg_sl ([.ref (v 0), .int xn, .int xp, .int xo, .int wh])).length) Slot.unset).toArray = ls at hl ⊢
  have hl : lv_has ls 7 [(0, .ref (v 0)), (1, .int xn), (2, .int xp), (3, .int xo), (4, .int wh)] := hl
  refine lv_aload_n hx hb dX5_record_0 rfl (lv_at hl 0 rfl) ?_
  refine lv_iload_n hx hb dX5_record_1 rfl (lv_at hl 1 rfl) ?_
  refine lv_iload_n hx hb dX5_record_2 rfl (lv_at hl 2 rfl) ?_
  refine va_csq (W.runV (As := [.int xn, .int xp]) (rest := []) ⟨hx, hb, hml, hown, hts⟩ (c_X5_replicaOf l dC dI v cy xn xp) (cwV 2 hts gX5_record_X5_replicaOf rfl rfl rfl (by decide +kernel) ⟨Nat.le_of_ble_eq_true rfl, Nat.le_of_ble_eq_true rfl⟩) ⟨fx_blind, va_recv hK hP (ci := 5) (q0 := 0) rfl rfl, fun U hU hW => ⟨rfl, fx_pre hP hK hU hW⟩⟩ rfl rfl hl.1 rfl (lv_room (Nat.le_of_ble_eq_true rfl)) dX5_record_3 ⟨Nat.le_of_ble_eq_true rfl, Nat.le_of_ble_eq_true rfl⟩) (fun r164 hr164 => ?_)
  subst hr164
  refine W.eq (g2 := F0 m 6 ls [.null]) rfl ?_
  refine lv_astoreN (lv' := [(5, .null), (0, .ref (v 0)), (1, .int xn), (2, .int xp), (3, .int xo), (4, .int wh)]) hx hb dX5_record_6 hl (by decide) rfl (fun ls hl => ?_)
  refine lv_aloadN hx hb dX5_record_8 (lv_at hl 0 rfl) ?_
  refine lv_ifnonnullN hx hb dX5_record_10 ?_
  refine lv_null hx hb dX5_record_13 ?_
  refine lv_goto (tgt := 23) hx hb dX5_record_14 (by decide) ?_
  refine lv_astoreN (lv' := [(6, .null), (5, .null), (0, .ref (v 0)), (1, .int xn), (2, .int xp), (3, .int xo), (4, .int wh)]) hx hb dX5_record_23 hl (by decide) rfl (fun ls hl => ?_)
  refine lv_aloadN hx hb dX5_record_25 (lv_at hl 0 rfl) ?_
  refine lv_ifnonnullN hx hb dX5_record_27 ?_
  refine lv_ldc2 hx hb hown (hts (.constantLong RX5 239 1099511627776) (by decide +kernel)) dX5_record_30 ?_
  exact W.lret (v := 1099511627776) hx hb hr (fun t ht hW => ⟨1099511627776, rfl, rfl, ht⟩) (fun _ h => by cases h) dX5_record_33
set_option maxHeartbeats 4000000 in
set_option maxRecDepth 100000 in
/-- restart: all nodes are up -/
theorem c_X5_restart (l : Launch) (dC : Nat → ClassId) (dI : Nat → Nat → Nat) (v : Nat → Nat) (cy : Nat → ClassId) (xn : Int32) : Met l yX5_restart wsX5_restart ({ frames := 1, cells := 0, slots := 0, locals := 21 }) (va_Pc [.ref (v 0), .int xn] (fxB dC dI v cy)) (vp_Si (fun r => r = (-1))) 0 0 (fun _ => False) := by
  refine Met.ofW (cc := cX5_restart) (maxL := 4) (ret := (some .int)) (by decide) rfl ?_
  intro p e s m args below meth c s₁ B hml hv
  obtain ⟨rfl, hP, hK⟩ := hv
  have hx := B.exec
  have hb := B.bytes
  have hr := B.returns
  have hts := atoms_spec (ws := wsX5_restart) B.pre
  have hown : s.vm.findClass RX5 = some m.cls := findClass_of_methodNamed B.named
  have hlocks := B.notSynchronized
  have hi5 : ∀ w ∈ wsX50, w ∈ wsX5_restart := by decide +kernel
  have hl := lv_entry ([.ref (v 0), .int xn]) (n := 4) (Nat.le_of_ble_eq_true rfl)
  rw [lg_entry_eq]
  generalize (lg_sl ([.ref (v 0), .int xn]) ++ List.replicate (4 - (lg_sl ([.ref (v 0), .int xn])).length) Slot.unset).toArray = ls at hl ⊢
  have hl : lv_has ls 4 [(0, .ref (v 0)), (1, .int xn)] := hl
  refine lv_iload_n hx hb dX5_restart_0 rfl (lv_at hl 1 rfl) ?_
  refine lv_if_lt (tgt := 20) hx hb dX5_restart_1 (by decide) (fun c165 => ?_) (fun c165 => ?_)
  · refine lv_iconst (v := (-1)) hx hb dX5_restart_20 (by decide) ?_
    exact W.iret (v := (-1)) hx hb hr (fun t ht hW => ⟨(-1), rfl, rfl, ht⟩) (fun _ h => by cases h) dX5_restart_21
  · refine lv_iload_n hx hb dX5_restart_4 rfl (lv_at hl 1 rfl) ?_
    refine lv_iconst (v := 5) hx hb dX5_restart_5 (by decide) ?_
    refine lv_icmp_ge (tgt := 20) hx hb dX5_restart_6 (by decide) (fun c166 => ?_) (fun c166 => ?_)
    · refine lv_iconst (v := (-1)) hx hb dX5_restart_20 (by decide) ?_
      exact W.iret (v := (-1)) hx hb hr (fun t ht hW => ⟨(-1), rfl, rfl, ht⟩) (fun _ h => by cases h) dX5_restart_21
    · refine lv_aload_n hx hb dX5_restart_9 rfl (lv_at hl 0 rfl) ?_
      refine va_get (D := (dC, dI)) (ci := 5) (v := .int 31) (C := RX5) (T := TX5) (N := 6) hx hb hts hi5 hown hK hP 0 rfl rfl 3 (by decide) (hts (.fieldLink RX5 27 "TallyLogs" "up" "I") (by decide +kernel)) (fun _ h9 => h9) rfl dX5_restart_10 ?_
      refine lv_iload_n hx hb dX5_restart_13 rfl (lv_at hl 1 rfl) ?_
      refine vp_callSi (W.runS (As := [.int 31, .int xn]) (rest := []) ⟨hx, hb, hml, hown, hts⟩ (c_X5_contains l 31 xn) (va_cwS 2 hts gX5_restart_X5_contains rfl rfl rfl (by decide +kernel) ⟨Nat.le_of_ble_eq_true rfl, Nat.le_of_ble_eq_true rfl⟩) preEq rfl rfl hl.1 rfl (lv_room (Nat.le_of_ble_eq_true rfl)) dX5_restart_14 ⟨Nat.le_of_ble_eq_true rfl, Nat.le_of_ble_eq_true rfl⟩) (fun r167 hr167 => ?_)
      subst hr167
      refine lv_if_eq (tgt := 22) hx hb dX5_restart_17 (by decide) (fun c168 => ?_) (fun c168 => ?_)
      · exact absurd c168 (fun q => absurd ⟨by have kc165 := c165; have kc166 := c166; simp only [xk_lt, xk_le, xk_0, xk_1, xk_2, xk_3, xk_4, xk_5, xk_6, xk_7, xk_8, xk_50] at kc165 kc166; omega, by have kc165 := c165; have kc166 := c166; simp only [xk_lt, xk_le, xk_0, xk_1, xk_2, xk_3, xk_4, xk_5, xk_6, xk_7, xk_8, xk_50] at kc165 kc166; omega⟩ ((xup_iff xn).mp q))
      refine lv_iconst (v := (-1)) hx hb dX5_restart_20 (by decide) ?_
      exact W.iret (v := (-1)) hx hb hr (fun t ht hW => ⟨(-1), rfl, rfl, ht⟩) (fun _ h => by cases h) dX5_restart_21
set_option maxHeartbeats 4000000 in
set_option maxRecDepth 100000 in
/-- count -/
theorem c_X5_count (l : Launch) (dC : Nat → ClassId) (dI : Nat → Nat → Nat) (v : Nat → Nat) (cy : Nat → ClassId) (wh : Int32) : Met l yX5_count wsX5_count ({ frames := 1, cells := 0, slots := 0, locals := 21 }) (va_Pc [.ref (v 0), .int wh] (fxB dC dI v cy)) (vp_Si (fun r => r = sp_ct wh)) 0 0 (fun _ => False) := by
  refine Met.ofW (cc := cX5_count) (maxL := 3) (ret := (some .int)) (by decide) rfl ?_
  intro p e s m args below meth c s₁ B hml hv
  obtain ⟨rfl, hP, hK⟩ := hv
  have hx := B.exec
  have hb := B.bytes
  have hr := B.returns
  have hts := atoms_spec (ws := wsX5_count) B.pre
  have hown : s.vm.findClass RX5 = some m.cls := findClass_of_methodNamed B.named
  have hlocks := B.notSynchronized
  have hi3 : ∀ w ∈ wsX30, w ∈ wsX5_count := by decide +kernel
  have hi5 : ∀ w ∈ wsX50, w ∈ wsX5_count := by decide +kernel
  have hl := lv_entry ([.ref (v 0), .int wh]) (n := 3) (Nat.le_of_ble_eq_true rfl)
  rw [lg_entry_eq]
  generalize (lg_sl ([.ref (v 0), .int wh]) ++ List.replicate (3 - (lg_sl ([.ref (v 0), .int wh])).length) Slot.unset).toArray = ls at hl ⊢
  have hl : lv_has ls 3 [(0, .ref (v 0)), (1, .int wh)] := hl
  refine lv_iload_n hx hb dX5_count_0 rfl (lv_at hl 1 rfl) ?_
  refine lv_if_ne (tgt := 9) hx hb dX5_count_1 (by decide) (fun c169 => ?_) (fun c169 => ?_)
  · refine lv_iload_n hx hb dX5_count_9 rfl (lv_at hl 1 rfl) ?_
    refine lv_iconst (v := 1) hx hb dX5_count_10 (by decide) ?_
    refine lv_icmp_ne (tgt := 19) hx hb dX5_count_11 (by decide) (fun c170 => ?_) (fun c170 => ?_)
    · refine lv_iload_n hx hb dX5_count_19 rfl (lv_at hl 1 rfl) ?_
      refine lv_iconst (v := 2) hx hb dX5_count_20 (by decide) ?_
      refine lv_icmp_lt (tgt := 30) hx hb dX5_count_21 (by decide) (fun c171 => ?_) (fun c171 => ?_)
      · refine lv_iconst (v := (-1)) hx hb dX5_count_30 (by decide) ?_
        exact W.iret (v := (-1)) hx hb hr (fun t ht hW => ⟨(-1), rfl, by show _ = _; have kc169 := c169; have kc170 := c170; have kc171 := c171; simp only [xk_eq, xk_lt, xk_le, xk_0, xk_1, xk_2, xk_3, xk_4, xk_5, xk_6, xk_7, xk_8, xk_50] at kc169 kc170 kc171; unfold sp_ct; (repeat' split); all_goals first | rfl | omega | (exfalso; omega) | contradiction, ht⟩) (fun _ h => by cases h) dX5_count_31
      · refine lv_iload_n hx hb dX5_count_24 rfl (lv_at hl 1 rfl) ?_
        refine lv_bipush (v := 8) hx hb dX5_count_25 (by decide) ?_
        refine lv_icmp_lt (tgt := 32) hx hb dX5_count_27 (by decide) (fun c172 => ?_) (fun c172 => ?_)
        · refine lv_aload_n hx hb dX5_count_32 rfl (lv_at hl 0 rfl) ?_
          refine lv_iload_n hx hb dX5_count_33 rfl (lv_at hl 1 rfl) ?_
          refine lv_iconst (v := 2) hx hb dX5_count_34 (by decide) ?_
          refine lv_isub hx hb dX5_count_35 ?_
          refine lv_topi (fun v173 ev173 => ?_)
          refine va_csq (W.runV (As := [.int v173]) (rest := []) ⟨hx, hb, hml, hown, hts⟩ (c_X5_producerAt l dC dI v cy v173) (cwV 1 hts gX5_count_X5_producerAt rfl rfl rfl (by decide +kernel) ⟨Nat.le_of_ble_eq_true rfl, Nat.le_of_ble_eq_true rfl⟩) ⟨fx_blind, va_recv hK hP (ci := 5) (q0 := 0) rfl rfl, fun U hU hW => ⟨rfl, fx_pre hP hK hU hW⟩⟩ rfl rfl hl.1 rfl (lv_room (Nat.le_of_ble_eq_true rfl)) dX5_count_36 ⟨Nat.le_of_ble_eq_true rfl, Nat.le_of_ble_eq_true rfl⟩) (fun r174 hr174 => ?_)
          subst hr174
          rcases pAt_cs v v173 with ⟨hn175, ho175⟩ | ⟨j175, hj175, hn175, ho175⟩
          · rw [ho175]
            refine W.eq (g2 := F0 m 39 ls [.null]) rfl ?_
            refine lv_astore_nN (lv' := [(2, .null), (0, .ref (v 0)), (1, .int wh)]) hx hb dX5_count_39 rfl hl (by decide) rfl (fun ls hl => ?_)
            refine lv_aload_nN hx hb dX5_count_40 rfl (lv_at hl 0 rfl) ?_
            refine lv_ifnonnullN hx hb dX5_count_41 ?_
            refine lv_iconst (v := (-1)) hx hb dX5_count_44 (by decide) ?_
            refine lv_goto (tgt := 52) hx hb dX5_count_45 (by decide) ?_
            exact W.iret (v := (-1)) hx hb hr (fun t ht hW => ⟨(-1), rfl, absurd (by rw [ev173]; exact xct c171 c172) hn175, ht⟩) (fun _ h => by cases h) dX5_count_52
          · rw [ho175]
            refine W.eq (g2 := F0 m 39 ls [.ref (v (4 + j175))]) rfl ?_
            refine lv_astore_n (lv' := [(2, .ref (v (4 + j175))), (0, .ref (v 0)), (1, .int wh)]) hx hb dX5_count_39 rfl hl (by decide) rfl (fun ls hl => ?_)
            refine lv_aload_n hx hb dX5_count_40 rfl (lv_at hl 0 rfl) ?_
            refine lv_ifnonnull (tgt := 48) hx hb dX5_count_41 (by decide) ?_
            refine lv_aload_n hx hb dX5_count_48 rfl (lv_at hl 0 rfl) ?_
            refine va_get (D := (dC, dI)) (ci := 3) (v := .int 0) (C := RX3) (T := TX3) (N := 6) hx hb hts hi3 hown hK hP (4 + j175) (fx_pr v cy j175 hj175) rfl 2 (by decide) (hts (.fieldLink RX5 78 "TallyLogs$Producer" "mode" "I") (by decide +kernel)) (fun _ h9 => h9) rfl dX5_count_49 ?_
            exact W.iret (v := 0) hx hb hr (fun t ht hW => ⟨0, rfl, by show _ = _; have kc169 := c169; have kc170 := c170; have kc171 := c171; have kc172 := c172; simp only [xk_eq, xk_lt, xk_le, xk_0, xk_1, xk_2, xk_3, xk_4, xk_5, xk_6, xk_7, xk_8, xk_50] at kc169 kc170 kc171 kc172; unfold sp_ct; (repeat' split); all_goals first | rfl | omega | (exfalso; omega) | contradiction, ht⟩) (fun _ h => by cases h) dX5_count_52
        · refine lv_iconst (v := (-1)) hx hb dX5_count_30 (by decide) ?_
          exact W.iret (v := (-1)) hx hb hr (fun t ht hW => ⟨(-1), rfl, by show _ = _; have kc169 := c169; have kc170 := c170; have kc171 := c171; have kc172 := c172; simp only [xk_eq, xk_lt, xk_le, xk_0, xk_1, xk_2, xk_3, xk_4, xk_5, xk_6, xk_7, xk_8, xk_50] at kc169 kc170 kc171 kc172; unfold sp_ct; (repeat' split); all_goals first | rfl | omega | (exfalso; omega) | contradiction, ht⟩) (fun _ h => by cases h) dX5_count_31
    · refine lv_aload_n hx hb dX5_count_14 rfl (lv_at hl 0 rfl) ?_
      refine va_get (D := (dC, dI)) (ci := 5) (v := .int 31) (C := RX5) (T := TX5) (N := 6) hx hb hts hi5 hown hK hP 0 rfl rfl 3 (by decide) (hts (.fieldLink RX5 27 "TallyLogs" "up" "I") (by decide +kernel)) (fun _ h9 => h9) rfl dX5_count_15 ?_
      exact W.iret (v := 31) hx hb hr (fun t ht hW => ⟨31, rfl, by show _ = _; have kc169 := c169; have kc170 := c170; simp only [xk_eq, xk_lt, xk_le, xk_0, xk_1, xk_2, xk_3, xk_4, xk_5, xk_6, xk_7, xk_8, xk_50] at kc169 kc170; unfold sp_ct; (repeat' split); all_goals first | rfl | omega | (exfalso; omega) | contradiction, ht⟩) (fun _ h => by cases h) dX5_count_18
  · refine lv_aload_n hx hb dX5_count_4 rfl (lv_at hl 0 rfl) ?_
    refine va_get (D := (dC, dI)) (ci := 5) (v := .int 0) (C := RX5) (T := TX5) (N := 6) hx hb hts hi5 hown hK hP 0 rfl rfl 4 (by decide) (hts (.fieldLink RX5 31 "TallyLogs" "now" "I") (by decide +kernel)) (fun _ h9 => h9) rfl dX5_count_5 ?_
    exact W.iret (v := 0) hx hb hr (fun t ht hW => ⟨0, rfl, by show _ = _; have kc169 := c169; simp only [xk_eq, xk_lt, xk_le, xk_0, xk_1, xk_2, xk_3, xk_4, xk_5, xk_6, xk_7, xk_8, xk_50] at kc169; unfold sp_ct; (repeat' split); all_goals first | rfl | omega | (exfalso; omega) | contradiction, ht⟩) (fun _ h => by cases h) dX5_count_8
