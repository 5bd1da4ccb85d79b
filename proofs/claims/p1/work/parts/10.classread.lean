set_option maxHeartbeats 4000000 in
set_option maxRecDepth 100000 in
/-- partitionAt(p): no partition yet -/
theorem c_X5_partitionAt (l : Launch) (dC : Nat → ClassId) (dI : Nat → Nat → Nat) (v : Nat → Nat) (cy : Nat → ClassId) (xp : Int32) : Met l yX5_partitionAt wsX5_partitionAt ({ frames := 0, cells := 0, slots := 0, locals := 0 }) (va_Pc [.ref (v 0), .int xp] (fxB dC dI v cy)) (va_Sq (fun r => r = none)) 0 0 (fun _ => False) := by
  refine Met.ofW (cc := cX5_partitionAt) (maxL := 2) (ret := (some (.object "TallyLogs$Partition"))) (by decide) rfl ?_
  intro p e s m args below meth c s₁ B hml hv
  obtain ⟨rfl, hP, hK⟩ := hv
  have hx := B.exec
  have hb := B.bytes
  have hr := B.returns
  have hts := atoms_spec (ws := wsX5_partitionAt) B.pre
  have hown : s.vm.findClass RX5 = some m.cls := findClass_of_methodNamed B.named
  have hlocks := B.notSynchronized
  have hi5 : ∀ w ∈ wsX50, w ∈ wsX5_partitionAt := by decide +kernel
  have hl := lv_entry ([.ref (v 0), .int xp]) (n := 2) (Nat.le_of_ble_eq_true rfl)
  rw [lg_entry_eq]
  generalize (lg_sl ([.ref (v 0), .int xp]) ++ List.replicate (2 - (lg_sl ([.ref (v 0), .int xp])).length) Slot.unset).toArray = ls at hl ⊢
  have hl : lv_has ls 2 [(0, .ref (v 0)), (1, .int xp)] := hl
  refine lv_iload_n hx hb dX5_partitionAt_0 rfl (lv_at hl 1 rfl) ?_
  refine lv_if_lt (tgt := 9) hx hb dX5_partitionAt_1 (by decide) (fun c119 => ?_) (fun c119 => ?_)
  · refine lv_null hx hb dX5_partitionAt_9 ?_
    refine lv_goto (tgt := 19) hx hb dX5_partitionAt_10 (by decide) ?_
    exact W.aret (v := .null) hx hb hr (Or.inl ⟨_, rfl⟩) (Or.inl rfl) (fun t ht hW => ⟨none, rfl, rfl, ht⟩) (fun _ h => by cases h) dX5_partitionAt_19
  · refine lv_iload_n hx hb dX5_partitionAt_4 rfl (lv_at hl 1 rfl) ?_
    refine lv_iconst (v := 4) hx hb dX5_partitionAt_5 (by decide) ?_
    refine lv_icmp_lt (tgt := 13) hx hb dX5_partitionAt_6 (by decide) (fun c120 => ?_) (fun c120 => ?_)
    · refine lv_aload_n hx hb dX5_partitionAt_13 rfl (lv_at hl 0 rfl) ?_
      refine va_get (D := (dC, dI)) (ci := 5) (v := .ref (v 1)) (C := RX5) (T := TX5) (N := 6) hx hb hts hi5 hown hK hP 0 rfl rfl 0 (by decide) (hts (.fieldLink RX5 11 "TallyLogs" "partitions" "[LTallyLogs$Partition;") (by decide +kernel)) (fun _ h9 => h9) rfl dX5_partitionAt_14 ?_
      refine lv_iload_n hx hb dX5_partitionAt_17 rfl (lv_at hl 1 rfl) ?_
      have hin121 : vp_in xp 4 := xin_of (by have kc119 := c119; have kc120 := c120; simp only [xk_lt, xk_le, xk_0, xk_1, xk_2, xk_3, xk_4, xk_5, xk_6, xk_7, xk_8, xk_50] at kc119 kc120; omega) (by have kc119 := c119; have kc120 := c120; simp only [xk_lt, xk_le, xk_0, xk_1, xk_2, xk_3, xk_4, xk_5, xk_6, xk_7, xk_8, xk_50] at kc119 kc120; omega)
      refine va_aldq hx hb hK hP 1 0 rfl rfl hin121 dX5_partitionAt_18 ?_
      refine W.eq (g2 := F0 m 19 ls [.null]) rfl ?_
      exact W.aret (v := .null) hx hb hr (Or.inl ⟨_, rfl⟩) (Or.inl rfl) (fun t ht hW => ⟨none, rfl, rfl, ht⟩) (fun _ h => by cases h) dX5_partitionAt_19
    · refine lv_null hx hb dX5_partitionAt_9 ?_
      refine lv_goto (tgt := 19) hx hb dX5_partitionAt_10 (by decide) ?_
      exact W.aret (v := .null) hx hb hr (Or.inl ⟨_, rfl⟩) (Or.inl rfl) (fun t ht hW => ⟨none, rfl, rfl, ht⟩) (fun _ h => by cases h) dX5_partitionAt_19
set_option maxHeartbeats 4000000 in
set_option maxRecDepth 100000 in
/-- producerAt(k) -/
theorem c_X5_producerAt (l : Launch) (dC : Nat → ClassId) (dI : Nat → Nat → Nat) (v : Nat → Nat) (cy : Nat → ClassId) (xk : Int32) : Met l yX5_producerAt wsX5_producerAt ({ frames := 0, cells := 0, slots := 0, locals := 0 }) (va_Pc [.ref (v 0), .int xk] (fxB dC dI v cy)) (va_Sq (fun r => r = pAt v xk)) 0 0 (fun _ => False) := by
  refine Met.ofW (cc := cX5_producerAt) (maxL := 2) (ret := (some (.object "TallyLogs$Producer"))) (by decide) rfl ?_
  intro p e s m args below meth c s₁ B hml hv
  obtain ⟨rfl, hP, hK⟩ := hv
  have hx := B.exec
  have hb := B.bytes
  have hr := B.returns
  have hts := atoms_spec (ws := wsX5_producerAt) B.pre
  have hown : s.vm.findClass RX5 = some m.cls := findClass_of_methodNamed B.named
  have hlocks := B.notSynchronized
  have hi5 : ∀ w ∈ wsX50, w ∈ wsX5_producerAt := by decide +kernel
  have hl := lv_entry ([.ref (v 0), .int xk]) (n := 2) (Nat.le_of_ble_eq_true rfl)
  rw [lg_entry_eq]
  generalize (lg_sl ([.ref (v 0), .int xk]) ++ List.replicate (2 - (lg_sl ([.ref (v 0), .int xk])).length) Slot.unset).toArray = ls at hl ⊢
  have hl : lv_has ls 2 [(0, .ref (v 0)), (1, .int xk)] := hl
  refine lv_iload_n hx hb dX5_producerAt_0 rfl (lv_at hl 1 rfl) ?_
  refine lv_if_lt (tgt := 10) hx hb dX5_producerAt_1 (by decide) (fun c122 => ?_) (fun c122 => ?_)
  · refine lv_null hx hb dX5_producerAt_10 ?_
    refine lv_goto (tgt := 20) hx hb dX5_producerAt_11 (by decide) ?_
    exact W.aret (v := .null) hx hb hr (Or.inl ⟨_, rfl⟩) (Or.inl rfl) (fun t ht hW => ⟨none, rfl, by rw [pAt, if_pos c122], ht⟩) (fun _ h => by cases h) dX5_producerAt_20
  · refine lv_iload_n hx hb dX5_producerAt_4 rfl (lv_at hl 1 rfl) ?_
    refine lv_bipush (v := 6) hx hb dX5_producerAt_5 (by decide) ?_
    refine lv_icmp_lt (tgt := 14) hx hb dX5_producerAt_7 (by decide) (fun c123 => ?_) (fun c123 => ?_)
    · refine lv_aload_n hx hb dX5_producerAt_14 rfl (lv_at hl 0 rfl) ?_
      refine va_get (D := (dC, dI)) (ci := 5) (v := .ref (v 2)) (C := RX5) (T := TX5) (N := 6) hx hb hts hi5 hown hK hP 0 rfl rfl 1 (by decide) (hts (.fieldLink RX5 17 "TallyLogs" "producers" "[LTallyLogs$Producer;") (by decide +kernel)) (fun _ h9 => h9) rfl dX5_producerAt_15 ?_
      have hin124 : vp_in xk 6 := xin_of (by have kc122 := c122; have kc123 := c123; simp only [xk_lt, xk_le, xk_0, xk_1, xk_2, xk_3, xk_4, xk_5, xk_6, xk_7, xk_8, xk_50] at kc122 kc123; omega) (by have kc122 := c122; have kc123 := c123; simp only [xk_lt, xk_le, xk_0, xk_1, xk_2, xk_3, xk_4, xk_5, xk_6, xk_7, xk_8, xk_50] at kc122 kc123; omega)
      refine lv_iload_n hx hb dX5_producerAt_18 rfl (lv_at hl 1 rfl) ?_
      refine va_aldq hx hb hK hP 2 1 rfl rfl hin124 dX5_producerAt_19 ?_
      refine W.eq (g2 := F0 m 20 ls [va_rf ((fR v) xk.toNatClampNeg)]) rfl ?_
      exact W.aret (v := va_rf ((fR v) xk.toNatClampNeg)) hx hb hr (Or.inl ⟨_, rfl⟩) (va_rf_or _) (fun t ht hW => ⟨_, rfl, by rw [pAt, if_neg c122, if_pos c123], ht⟩) (fun _ h => by cases h) dX5_producerAt_20
    · refine lv_null hx hb dX5_producerAt_10 ?_
      refine lv_goto (tgt := 20) hx hb dX5_producerAt_11 (by decide) ?_
      exact W.aret (v := .null) hx hb hr (Or.inl ⟨_, rfl⟩) (Or.inl rfl) (fun t ht hW => ⟨none, rfl, by rw [pAt, if_neg c122, if_neg c123], ht⟩) (fun _ h => by cases h) dX5_producerAt_20
set_option maxHeartbeats 4000000 in
set_option maxRecDepth 100000 in
/-- groupAt(group) -/
theorem c_X5_groupAt (l : Launch) (dC : Nat → ClassId) (dI : Nat → Nat → Nat) (v : Nat → Nat) (cy : Nat → ClassId) (xk : Int32) : Met l yX5_groupAt wsX5_groupAt ({ frames := 0, cells := 0, slots := 0, locals := 0 }) (va_Pc [.ref (v 0), .int xk] (fxB dC dI v cy)) (va_Sq (fun r => r = gAt v xk)) 0 0 (fun _ => False) := by
  refine Met.ofW (cc := cX5_groupAt) (maxL := 2) (ret := (some (.object "TallyLogs$Group"))) (by decide) rfl ?_
  intro p e s m args below meth c s₁ B hml hv
  obtain ⟨rfl, hP, hK⟩ := hv
  have hx := B.exec
  have hb := B.bytes
  have hr := B.returns
  have hts := atoms_spec (ws := wsX5_groupAt) B.pre
  have hown : s.vm.findClass RX5 = some m.cls := findClass_of_methodNamed B.named
  have hlocks := B.notSynchronized
  have hi5 : ∀ w ∈ wsX50, w ∈ wsX5_groupAt := by decide +kernel
  have hl := lv_entry ([.ref (v 0), .int xk]) (n := 2) (Nat.le_of_ble_eq_true rfl)
  rw [lg_entry_eq]
  generalize (lg_sl ([.ref (v 0), .int xk]) ++ List.replicate (2 - (lg_sl ([.ref (v 0), .int xk])).length) Slot.unset).toArray = ls at hl ⊢
  have hl : lv_has ls 2 [(0, .ref (v 0)), (1, .int xk)] := hl
  refine lv_iload_n hx hb dX5_groupAt_0 rfl (lv_at hl 1 rfl) ?_
  refine lv_if_lt (tgt := 9) hx hb dX5_groupAt_1 (by decide) (fun c125 => ?_) (fun c125 => ?_)
  · refine lv_null hx hb dX5_groupAt_9 ?_
    refine lv_goto (tgt := 19) hx hb dX5_groupAt_10 (by decide) ?_
    exact W.aret (v := .null) hx hb hr (Or.inl ⟨_, rfl⟩) (Or.inl rfl) (fun t ht hW => ⟨none, rfl, by rw [gAt, if_pos c125], ht⟩) (fun _ h => by cases h) dX5_groupAt_19
  · refine lv_iload_n hx hb dX5_groupAt_4 rfl (lv_at hl 1 rfl) ?_
    refine lv_iconst (v := 4) hx hb dX5_groupAt_5 (by decide) ?_
    refine lv_icmp_lt (tgt := 13) hx hb dX5_groupAt_6 (by decide) (fun c126 => ?_) (fun c126 => ?_)
    · refine lv_aload_n hx hb dX5_groupAt_13 rfl (lv_at hl 0 rfl) ?_
      refine va_get (D := (dC, dI)) (ci := 5) (v := .ref (v 3)) (C := RX5) (T := TX5) (N := 6) hx hb hts hi5 hown hK hP 0 rfl rfl 2 (by decide) (hts (.fieldLink RX5 23 "TallyLogs" "groups" "[LTallyLogs$Group;") (by decide +kernel)) (fun _ h9 => h9) rfl dX5_groupAt_14 ?_
      refine lv_iload_n hx hb dX5_groupAt_17 rfl (lv_at hl 1 rfl) ?_
      have hin127 : vp_in xk 4 := xin_of (by have kc125 := c125; have kc126 := c126; simp only [xk_lt, xk_le, xk_0, xk_1, xk_2, xk_3, xk_4, xk_5, xk_6, xk_7, xk_8, xk_50] at kc125 kc126; omega) (by have kc125 := c125; have kc126 := c126; simp only [xk_lt, xk_le, xk_0, xk_1, xk_2, xk_3, xk_4, xk_5, xk_6, xk_7, xk_8, xk_50] at kc125 kc126; omega)
      refine va_aldq hx hb hK hP 3 2 rfl rfl hin127 dX5_groupAt_18 ?_
      refine W.eq (g2 := F0 m 19 ls [va_rf ((fG v) xk.toNatClampNeg)]) rfl ?_
      exact W.aret (v := va_rf ((fG v) xk.toNatClampNeg)) hx hb hr (Or.inl ⟨_, rfl⟩) (va_rf_or _) (fun t ht hW => ⟨_, rfl, by rw [gAt, if_neg c125, if_pos c126], ht⟩) (fun _ h => by cases h) dX5_groupAt_19
    · refine lv_null hx hb dX5_groupAt_9 ?_
      refine lv_goto (tgt := 19) hx hb dX5_groupAt_10 (by decide) ?_
      exact W.aret (v := .null) hx hb hr (Or.inl ⟨_, rfl⟩) (Or.inl rfl) (fun t ht hW => ⟨none, rfl, by rw [gAt, if_neg c125, if_neg c126], ht⟩) (fun _ h => by cases h) dX5_groupAt_19
set_option maxHeartbeats 4000000 in
set_option maxRecDepth 100000 in
/-- producerOf(handle) -/
theorem c_X5_producerOf (l : Launch) (dC : Nat → ClassId) (dI : Nat → Nat → Nat) (v : Nat → Nat) (cy : Nat → ClassId) (hd : Int32) : Met l yX5_producerOf wsX5_producerOf ({ frames := 1, cells := 0, slots := 0, locals := 21 }) (va_Pc [.ref (v 0), .int hd] (fxB dC dI v cy)) (va_Sq (fun r => r = pOf v hd)) 0 0 (fun _ => False) := by
  refine Met.ofW (cc := cX5_producerOf) (maxL := 2) (ret := (some (.object "TallyLogs$Producer"))) (by decide) rfl ?_
  intro p e s m args below meth c s₁ B hml hv
  obtain ⟨rfl, hP, hK⟩ := hv
  have hx := B.exec
  have hb := B.bytes
  have hr := B.returns
  have hts := atoms_spec (ws := wsX5_producerOf) B.pre
  have hown : s.vm.findClass RX5 = some m.cls := findClass_of_methodNamed B.named
  have hlocks := B.notSynchronized
  have hi5 : ∀ w ∈ wsX50, w ∈ wsX5_producerOf := by decide +kernel
  have hl := lv_entry ([.ref (v 0), .int hd]) (n := 2) (Nat.le_of_ble_eq_true rfl)
  rw [lg_entry_eq]
  generalize (lg_sl ([.ref (v 0), .int hd]) ++ List.replicate (2 - (lg_sl ([.ref (v 0), .int hd])).length) Slot.unset).toArray = ls at hl ⊢
  have hl : lv_has ls 2 [(0, .ref (v 0)), (1, .int hd)] := hl
  refine lv_iload_n hx hb dX5_producerOf_0 rfl (lv_at hl 1 rfl) ?_
  refine lv_if_ge (tgt := 8) hx hb dX5_producerOf_1 (by decide) (fun c128 => ?_) (fun c128 => ?_)
  · refine lv_aload_n hx hb dX5_producerOf_8 rfl (lv_at hl 0 rfl) ?_
    refine lv_iload_n hx hb dX5_producerOf_9 rfl (lv_at hl 1 rfl) ?_
    refine lv_bipush (v := 8) hx hb dX5_producerOf_10 (by decide) ?_
    refine lv_irem hx hb dX5_producerOf_12 (by decide) ?_
    refine lv_topi (fun v129 ev129 => ?_)
    refine va_csq (W.runV (As := [.int v129]) (rest := []) ⟨hx, hb, hml, hown, hts⟩ (c_X5_producerAt l dC dI v cy v129) (cwV 1 hts gX5_producerOf_X5_producerAt rfl rfl rfl (by decide +kernel) ⟨Nat.le_of_ble_eq_true rfl, Nat.le_of_ble_eq_true rfl⟩) ⟨fx_blind, va_recv hK hP (ci := 5) (q0 := 0) rfl rfl, fun U hU hW => ⟨rfl, fx_pre hP hK hU hW⟩⟩ rfl rfl hl.1 rfl (lv_room (Nat.le_of_ble_eq_true rfl)) dX5_producerOf_13 ⟨Nat.le_of_ble_eq_true rfl, Nat.le_of_ble_eq_true rfl⟩) (fun r130 hr130 => ?_)
    subst hr130
    exact W.aret (v := va_rf (pAt v v129)) hx hb hr (Or.inl ⟨_, rfl⟩) (va_rf_or _) (fun t ht hW => ⟨_, rfl, by subst ev129; rw [pOf, if_pos c128], ht⟩) (fun _ h => by cases h) dX5_producerOf_16
  · refine lv_null hx hb dX5_producerOf_4 ?_
    refine lv_goto (tgt := 16) hx hb dX5_producerOf_5 (by decide) ?_
    exact W.aret (v := .null) hx hb hr (Or.inl ⟨_, rfl⟩) (Or.inl rfl) (fun t ht hW => ⟨none, rfl, by rw [pOf, if_neg c128], ht⟩) (fun _ h => by cases h) dX5_producerOf_16
set_option maxHeartbeats 4000000 in
set_option maxRecDepth 100000 in
/-- replicaOf(n, p) -/
theorem c_X5_replicaOf (l : Launch) (dC : Nat → ClassId) (dI : Nat → Nat → Nat) (v : Nat → Nat) (cy : Nat → ClassId) (xn : Int32) (xp : Int32) : Met l yX5_replicaOf wsX5_replicaOf ({ frames := 1, cells := 0, slots := 0, locals := 21 }) (va_Pc [.ref (v 0), .int xn, .int xp] (fxB dC dI v cy)) (va_Sq (fun r => r = none)) 0 0 (fun _ => False) := by
  refine Met.ofW (cc := cX5_replicaOf) (maxL := 4) (ret := (some (.object "TallyLogs$Replica"))) (by decide) rfl ?_
  intro p e s m args below meth c s₁ B hml hv
  obtain ⟨rfl, hP, hK⟩ := hv
  have hx := B.exec
  have hb := B.bytes
  have hr := B.returns
  have hts := atoms_spec (ws := wsX5_replicaOf) B.pre
  have hown : s.vm.findClass RX5 = some m.cls := findClass_of_methodNamed B.named
  have hlocks := B.notSynchronized
  have hi5 : ∀ w ∈ wsX50, w ∈ wsX5_replicaOf := by decide +kernel
  have hl := lv_entry ([.ref (v 0), .int xn, .int xp]) (n := 4) (Nat.le_of_ble_eq_true rfl)
  rw [lg_entry_eq]
  generalize (lg_sl ([.ref (v 0), .int xn, .int xp]) ++ List.replicate (4 - (lg_sl ([.ref (v 0), .int xn, .int xp])).length) Slot.unset).toArray = ls at hl ⊢
  have hl : lv_has ls 4 [(0, .ref (v 0)), (1, .int xn), (2, .int xp)] := hl
  refine lv_aload_n hx hb dX5_replicaOf_0 rfl (lv_at hl 0 rfl) ?_
  refine lv_iload_n hx hb dX5_replicaOf_1 rfl (lv_at hl 2 rfl) ?_
  refine va_csq (W.runV (As := [.int xp]) (rest := []) ⟨hx, hb, hml, hown, hts⟩ (c_X5_partitionAt l dC dI v cy xp) (cwV 1 hts gX5_replicaOf_X5_partitionAt rfl rfl rfl (by decide +kernel) ⟨Nat.le_of_ble_eq_true rfl, Nat.le_of_ble_eq_true rfl⟩) ⟨fx_blind, va_recv hK hP (ci := 5) (q0 := 0) rfl rfl, fun U hU hW => ⟨rfl, fx_pre hP hK hU hW⟩⟩ rfl rfl hl.1 rfl (lv_room (Nat.le_of_ble_eq_true rfl)) dX5_replicaOf_2 ⟨Nat.le_of_ble_eq_true rfl, Nat.le_of_ble_eq_true rfl⟩) (fun r131 hr131 => ?_)
  subst hr131
  refine W.eq (g2 := F0 m 5 ls [.null]) rfl ?_
  refine lv_astore_nN (lv' := [(3, .null), (0, .ref (v 0)), (1, .int xn), (2, .int xp)]) hx hb dX5_replicaOf_5 rfl hl (by decide) rfl (fun ls hl => ?_)
  refine lv_aload_nN hx hb dX5_replicaOf_6 rfl (lv_at hl 0 rfl) ?_
  refine lv_ifnonnullN hx hb dX5_replicaOf_7 ?_
  refine lv_null hx hb dX5_replicaOf_10 ?_
  refine lv_goto (tgt := 19) hx hb dX5_replicaOf_11 (by decide) ?_
  exact W.aret (v := .null) hx hb hr (Or.inl ⟨_, rfl⟩) (Or.inl rfl) (fun t ht hW => ⟨none, rfl, rfl, ht⟩) (fun _ h => by cases h) dX5_replicaOf_19
set_option maxHeartbeats 4000000 in
set_option maxRecDepth 100000 in
/-- elect -/
theorem c_X5_elect (l : Launch) (dC : Nat → ClassId) (dI : Nat → Nat → Nat) (v : Nat → Nat) (cy : Nat → ClassId) (xp : Int32) (un : Int32) : Met l yX5_elect wsX5_elect ({ frames := 1, cells := 0, slots := 0, locals := 21 }) (va_Pc [.ref (v 0), .int xp, .int un] (fxB dC dI v cy)) (vp_Si (fun r => r = (-1))) 0 0 (fun _ => False) := by
  refine Met.ofW (cc := cX5_elect) (maxL := 5) (ret := (some .int)) (by decide) rfl ?_
  intro p e s m args below meth c s₁ B hml hv
  obtain ⟨rfl, hP, hK⟩ := hv
  have hx := B.exec
  have hb := B.bytes
  have hr := B.returns
  have hts := atoms_spec (ws := wsX5_elect) B.pre
  have hown : s.vm.findClass RX5 = some m.cls := findClass_of_methodNamed B.named
  have hlocks := B.notSynchronized
  have hi5 : ∀ w ∈ wsX50, w ∈ wsX5_elect := by decide +kernel
  have hl := lv_entry ([.ref (v 0), .int xp, .int un]) (n := 5) (Nat.le_of_ble_eq_true rfl)
  rw [lg_entry_eq]
  generalize (lg_sl ([.ref (v 0), .int xp, .int un]) ++ List.replicate (5 - (lg_sl ([.ref (v 0), .int xp, .int un])).length) Slot.unset).toArray = ls at hl ⊢
  have hl : lv_has ls 5 [(0, .ref (v 0)), (1, .int xp), (2, .int un)] := hl
  refine lv_aload_n hx hb dX5_elect_0 rfl (lv_at hl 0 rfl) ?_
  refine lv_iload_n hx hb dX5_elect_1 rfl (lv_at hl 1 rfl) ?_
  refine va_csq (W.runV (As := [.int xp]) (rest := []) ⟨hx, hb, hml, hown, hts⟩ (c_X5_partitionAt l dC dI v cy xp) (cwV 1 hts gX5_elect_X5_partitionAt rfl rfl rfl (by decide +kernel) ⟨Nat.le_of_ble_eq_true rfl, Nat.le_of_ble_eq_true rfl⟩) ⟨fx_blind, va_recv hK hP (ci := 5) (q0 := 0) rfl rfl, fun U hU hW => ⟨rfl, fx_pre hP hK hU hW⟩⟩ rfl rfl hl.1 rfl (lv_room (Nat.le_of_ble_eq_true rfl)) dX5_elect_2 ⟨Nat.le_of_ble_eq_true rfl, Nat.le_of_ble_eq_true rfl⟩) (fun r132 hr132 => ?_)
  subst hr132
  refine W.eq (g2 := F0 m 5 ls [.null]) rfl ?_
  refine lv_astore_nN (lv' := [(3, .null), (0, .ref (v 0)), (1, .int xp), (2, .int un)]) hx hb dX5_elect_5 rfl hl (by decide) rfl (fun ls hl => ?_)
  refine lv_aload_nN hx hb dX5_elect_6 rfl (lv_at hl 0 rfl) ?_
  refine lv_ifnonnullN hx hb dX5_elect_7 ?_
  refine lv_iconst (v := (-1)) hx hb dX5_elect_10 (by decide) ?_
  exact W.iret (v := (-1)) hx hb hr (fun t ht hW => ⟨(-1), rfl, rfl, ht⟩) (fun _ h => by cases h) dX5_elect_11
set_option maxHeartbeats 4000000 in
set_option maxRecDepth 100000 in
/-- safe -/
theorem c_X5_safe (l : Launch) (dC : Nat → ClassId) (dI : Nat → Nat → Nat) (v : Nat → Nat) (cy : Nat → ClassId) (xp : Int32) (xo : Int32) : Met l yX5_safe wsX5_safe ({ frames := 1, cells := 0, slots := 0, locals := 21 }) (va_Pc [.ref (v 0), .int xp, .int xo] (fxB dC dI v cy)) (vp_Si (fun r => r = (-1))) 0 0 (fun _ => False) := by
  refine Met.ofW (cc := cX5_safe) (maxL := 5) (ret := (some .int)) (by decide) rfl ?_
  intro p e s m args below meth c s₁ B hml hv
  obtain ⟨rfl, hP, hK⟩ := hv
  have hx := B.exec
  have hb := B.bytes
  have hr := B.returns
  have hts := atoms_spec (ws := wsX5_safe) B.pre
  have hown : s.vm.findClass RX5 = some m.cls := findClass_of_methodNamed B.named
  have hlocks := B.notSynchronized
  have hi5 : ∀ w ∈ wsX50, w ∈ wsX5_safe := by decide +kernel
  have hl := lv_entry ([.ref (v 0), .int xp, .int xo]) (n := 5) (Nat.le_of_ble_eq_true rfl)
  rw [lg_entry_eq]
  generalize (lg_sl ([.ref (v 0), .int xp, .int xo]) ++ List.replicate (5 - (lg_sl ([.ref (v 0), .int xp, .int xo])).length) Slot.unset).toArray = ls at hl ⊢
  have hl : lv_has ls 5 [(0, .ref (v 0)), (1, .int xp), (2, .int xo)] := hl
  refine lv_aload_n hx hb dX5_safe_0 rfl (lv_at hl 0 rfl) ?_
  refine lv_iload_n hx hb dX5_safe_1 rfl (lv_at hl 1 rfl) ?_
  refine va_csq (W.runV (As := [.int xp]) (rest := []) ⟨hx, hb, hml, hown, hts⟩ (c_X5_partitionAt l dC dI v cy xp) (cwV 1 hts gX5_safe_X5_partitionAt rfl rfl rfl (by decide +kernel) ⟨Nat.le_of_ble_eq_true rfl, Nat.le_of_ble_eq_true rfl⟩) ⟨fx_blind, va_recv hK hP (ci := 5) (q0 := 0) rfl rfl, fun U hU hW => ⟨rfl, fx_pre hP hK hU hW⟩⟩ rfl rfl hl.1 rfl (lv_room (Nat.le_of_ble_eq_true rfl)) dX5_safe_2 ⟨Nat.le_of_ble_eq_true rfl, Nat.le_of_ble_eq_true rfl⟩) (fun r133 hr133 => ?_)
  subst hr133
  refine W.eq (g2 := F0 m 5 ls [.null]) rfl ?_
  refine lv_astore_nN (lv' := [(3, .null), (0, .ref (v 0)), (1, .int xp), (2, .int xo)]) hx hb dX5_safe_5 rfl hl (by decide) rfl (fun ls hl => ?_)
  refine lv_aload_nN hx hb dX5_safe_6 rfl (lv_at hl 0 rfl) ?_
  refine lv_ifnonnullN hx hb dX5_safe_7 ?_
  refine lv_iconst (v := (-1)) hx hb dX5_safe_10 (by decide) ?_
  exact W.iret (v := (-1)) hx hb hr (fun t ht hW => ⟨(-1), rfl, rfl, ht⟩) (fun _ h => by cases h) dX5_safe_11
set_option maxHeartbeats 4000000 in
set_option maxRecDepth 100000 in
/-- follow -/
theorem c_X5_follow (l : Launch) (dC : Nat → ClassId) (dI : Nat → Nat → Nat) (v : Nat → Nat) (cy : Nat → ClassId) (xn : Int32) (xp : Int32) : Met l yX5_follow wsX5_follow ({ frames := 1, cells := 0, slots := 0, locals := 21 }) (va_Pc [.ref (v 0), .int xn, .int xp] (fxB dC dI v cy)) (vp_Si (fun r => r = (-1))) 0 0 (fun _ => False) := by
  refine Met.ofW (cc := cX5_follow) (maxL := 6) (ret := (some .int)) (by decide) rfl ?_
  intro p e s m args below meth c s₁ B hml hv
  obtain ⟨rfl, hP, hK⟩ := hv
  have hx := B.exec
  have hb := B.bytes
  have hr := B.returns
  have hts := atoms_spec (ws := wsX5_follow) B.pre
  have hown : s.vm.findClass RX5 = some m.cls := findClass_of_methodNamed B.named
  have hlocks := B.notSynchronized
  have hi5 : ∀ w ∈ wsX50, w ∈ wsX5_follow := by decide +kernel
  have hl := lv_entry ([.ref (v 0), .int xn, .int xp]) (n := 6) (Nat.le_of_ble_eq_true rfl)
  rw [lg_entry_eq]
  generalize (lg_sl ([.ref (v 0), .int xn, .int xp]) ++ List.replicate (6 - (lg_sl ([.ref (v 0), .int xn, .int xp])).length) Slot.unset).toArray = ls at hl ⊢
  have hl : lv_has ls 6 [(0, .ref (v 0)), (1, .int xn), (2, .int xp)] := hl
  refine lv_aload_n hx hb dX5_follow_0 rfl (lv_at hl 0 rfl) ?_
  refine lv_iload_n hx hb dX5_follow_1 rfl (lv_at hl 2 rfl) ?_
  refine va_csq (W.runV (As := [.int xp]) (rest := []) ⟨hx, hb, hml, hown, hts⟩ (c_X5_partitionAt l dC dI v cy xp) (cwV 1 hts gX5_follow_X5_partitionAt rfl rfl rfl (by decide +kernel) ⟨Nat.le_of_ble_eq_true rfl, Nat.le_of_ble_eq_true rfl⟩) ⟨fx_blind, va_recv hK hP (ci := 5) (q0 := 0) rfl rfl, fun U hU hW => ⟨rfl, fx_pre hP hK hU hW⟩⟩ rfl rfl hl.1 rfl (lv_room (Nat.le_of_ble_eq_true rfl)) dX5_follow_2 ⟨Nat.le_of_ble_eq_true rfl, Nat.le_of_ble_eq_true rfl⟩) (fun r134 hr134 => ?_)
  subst hr134
  refine W.eq (g2 := F0 m 5 ls [.null]) rfl ?_
  refine lv_astore_nN (lv' := [(3, .null), (0, .ref (v 0)), (1, .int xn), (2, .int xp)]) hx hb dX5_follow_5 rfl hl (by decide) rfl (fun ls hl => ?_)
  refine lv_aload_nN hx hb dX5_follow_6 rfl (lv_at hl 0 rfl) ?_
  refine lv_ifnonnullN hx hb dX5_follow_7 ?_
  refine lv_iconst (v := (-1)) hx hb dX5_follow_10 (by decide) ?_
  exact W.iret (v := (-1)) hx hb hr (fun t ht hW => ⟨(-1), rfl, rfl, ht⟩) (fun _ h => by cases h) dX5_follow_11
set_option maxHeartbeats 4000000 in
set_option maxRecDepth 100000 in
/-- consume -/
theorem c_X5_consume (l : Launch) (dC : Nat → ClassId) (dI : Nat → Nat → Nat) (v : Nat → Nat) (cy : Nat → ClassId) (xp : Int32) (xo : Int32) (cm : Int32) : Met l yX5_consume wsX5_consume ({ frames := 1, cells := 0, slots := 0, locals := 21 }) (va_Pc [.ref (v 0), .int xp, .int xo, .int cm] (fxB dC dI v cy)) (vp_Si (fun r => r = (-1))) 0 0 (fun _ => False) := by
  refine Met.ofW (cc := cX5_consume) (maxL := 8) (ret := (some .int)) (by decide) rfl ?_
  intro p e s m args below meth c s₁ B hml hv
  obtain ⟨rfl, hP, hK⟩ := hv
  have hx := B.exec
  have hb := B.bytes
  have hr := B.returns
  have hts := atoms_spec (ws := wsX5_consume) B.pre
  have hown : s.vm.findClass RX5 = some m.cls := findClass_of_methodNamed B.named
  have hlocks := B.notSynchronized
  have hi5 : ∀ w ∈ wsX50, w ∈ wsX5_consume := by decide +kernel
  have hl := lv_entry ([.ref (v 0), .int xp, .int xo, .int cm]) (n := 8) (Nat.le_of_ble_eq_true rfl)
  rw [lg_entry_eq]
  generalize (lg_sl ([.ref (v 0), .int xp, .int xo, .int cm]) ++ List.replicate (8 - (lg_sl ([.ref (v 0), .int xp, .int xo, .int cm])).length) Slot.unset).toArray = ls at hl ⊢
  have hl : lv_has ls 8 [(0, .ref (v 0)), (1, .int xp), (2, .int xo), (3, .int cm)] := hl
  refine lv_aload_n hx hb dX5_consume_0 rfl (lv_at hl 0 rfl) ?_
  refine lv_iload_n hx hb dX5_consume_1 rfl (lv_at hl 1 rfl) ?_
  refine va_csq (W.runV (As := [.int xp]) (rest := []) ⟨hx, hb, hml, hown, hts⟩ (c_X5_partitionAt l dC dI v cy xp) (cwV 1 hts gX5_consume_X5_partitionAt rfl rfl rfl (by decide +kernel) ⟨Nat.le_of_ble_eq_true rfl, Nat.le_of_ble_eq_true rfl⟩) ⟨fx_blind, va_recv hK hP (ci := 5) (q0 := 0) rfl rfl, fun U hU hW => ⟨rfl, fx_pre hP hK hU hW⟩⟩ rfl rfl hl.1 rfl (lv_room (Nat.le_of_ble_eq_true rfl)) dX5_consume_2 ⟨Nat.le_of_ble_eq_true rfl, Nat.le_of_ble_eq_true rfl⟩) (fun r135 hr135 => ?_)
  subst hr135
  refine W.eq (g2 := F0 m 5 ls [.null]) rfl ?_
  refine lv_astoreN (lv' := [(4, .null), (0, .ref (v 0)), (1, .int xp), (2, .int xo), (3, .int cm)]) hx hb dX5_consume_5 hl (by decide) rfl (fun ls hl => ?_)
  refine lv_aloadN hx hb dX5_consume_7 (lv_at hl 0 rfl) ?_
  refine lv_ifnonnullN hx hb dX5_consume_9 ?_
  refine lv_iconst (v := (-1)) hx hb dX5_consume_12 (by decide) ?_
  exact W.iret (v := (-1)) hx hb hr (fun t ht hW => ⟨(-1), rfl, rfl, ht⟩) (fun _ h => by cases h) dX5_consume_13
set_option maxHeartbeats 4000000 in
set_option maxRecDepth 100000 in
/-- trim -/
theorem c_X5_trim (l : Launch) (dC : Nat → ClassId) (dI : Nat → Nat → Nat) (v : Nat → Nat) (cy : Nat → ClassId) (xp : Int32) (xo : Int32) : Met l yX5_trim wsX5_trim ({ frames := 1, cells := 0, slots := 0, locals := 21 }) (va_Pc [.ref (v 0), .int xp, .int xo] (fxB dC dI v cy)) (vp_Si (fun r => r = (-1))) 0 0 (fun _ => False) := by
  refine Met.ofW (cc := cX5_trim) (maxL := 5) (ret := (some .int)) (by decide) rfl ?_
  intro p e s m args below meth c s₁ B hml hv
  obtain ⟨rfl, hP, hK⟩ := hv
  have hx := B.exec
  have hb := B.bytes
  have hr := B.returns
  have hts := atoms_spec (ws := wsX5_trim) B.pre
  have hown : s.vm.findClass RX5 = some m.cls := findClass_of_methodNamed B.named
  have hlocks := B.notSynchronized
  have hi5 : ∀ w ∈ wsX50, w ∈ wsX5_trim := by decide +kernel
  have hl := lv_entry ([.ref (v 0), .int xp, .int xo]) (n := 5) (Nat.le_of_ble_eq_true rfl)
  rw [lg_entry_eq]
  generalize (lg_sl ([.ref (v 0), .int xp, .int xo]) ++ List.replicate (5 - (lg_sl ([.ref (v 0), .int xp, .int xo])).length) Slot.unset).toArray = ls at hl ⊢
  have hl : lv_has ls 5 [(0, .ref (v 0)), (1, .int xp), (2, .int xo)] := hl
  refine lv_aload_n hx hb dX5_trim_0 rfl (lv_at hl 0 rfl) ?_
  refine lv_iload_n hx hb dX5_trim_1 rfl (lv_at hl 1 rfl) ?_
  refine va_csq (W.runV (As := [.int xp]) (rest := []) ⟨hx, hb, hml, hown, hts⟩ (c_X5_partitionAt l dC dI v cy xp) (cwV 1 hts gX5_trim_X5_partitionAt rfl rfl rfl (by decide +kernel) ⟨Nat.le_of_ble_eq_true rfl, Nat.le_of_ble_eq_true rfl⟩) ⟨fx_blind, va_recv hK hP (ci := 5) (q0 := 0) rfl rfl, fun U hU hW => ⟨rfl, fx_pre hP hK hU hW⟩⟩ rfl rfl hl.1 rfl (lv_room (Nat.le_of_ble_eq_true rfl)) dX5_trim_2 ⟨Nat.le_of_ble_eq_true rfl, Nat.le_of_ble_eq_true rfl⟩) (fun r136 hr136 => ?_)
  subst hr136
  refine W.eq (g2 := F0 m 5 ls [.null]) rfl ?_
  refine lv_astore_nN (lv' := [(3, .null), (0, .ref (v 0)), (1, .int xp), (2, .int xo)]) hx hb dX5_trim_5 rfl hl (by decide) rfl (fun ls hl => ?_)
  refine lv_aload_nN hx hb dX5_trim_6 rfl (lv_at hl 0 rfl) ?_
  refine lv_ifnonnullN hx hb dX5_trim_7 ?_
  refine lv_iconst (v := (-1)) hx hb dX5_trim_10 (by decide) ?_
  exact W.iret (v := (-1)) hx hb hr (fun t ht hW => ⟨(-1), rfl, rfl, ht⟩) (fun _ h => by cases h) dX5_trim_11
set_option maxHeartbeats 4000000 in
set_option maxRecDepth 100000 in
/-- state -/
theorem c_X5_state (l : Launch) (dC : Nat → ClassId) (dI : Nat → Nat → Nat) (v : Nat → Nat) (cy : Nat → ClassId) (xp : Int32) (wh : Int32) : Met l yX5_state wsX5_state ({ frames := 1, cells := 0, slots := 0, locals := 21 }) (va_Pc [.ref (v 0), .int xp, .int wh] (fxB dC dI v cy)) (vp_Si (fun r => r = (-1))) 0 0 (fun _ => False) := by
  refine Met.ofW (cc := cX5_state) (maxL := 4) (ret := (some .int)) (by decide) rfl ?_
  intro p e s m args below meth c s₁ B hml hv
  obtain ⟨rfl, hP, hK⟩ := hv
  have hx := B.exec
  have hb := B.bytes
  have hr := B.returns
  have hts := atoms_spec (ws := wsX5_state) B.pre
  have hown : s.vm.findClass RX5 = some m.cls := findClass_of_methodNamed B.named
  have hlocks := B.notSynchronized
  have hi5 : ∀ w ∈ wsX50, w ∈ wsX5_state := by decide +kernel
  have hl := lv_entry ([.ref (v 0), .int xp, .int wh]) (n := 4) (Nat.le_of_ble_eq_true rfl)
  rw [lg_entry_eq]
  generalize (lg_sl ([.ref (v 0), .int xp, .int wh]) ++ List.replicate (4 - (lg_sl ([.ref (v 0), .int xp, .int wh])).length) Slot.unset).toArray = ls at hl ⊢
  have hl : lv_has ls 4 [(0, .ref (v 0)), (1, .int xp), (2, .int wh)] := hl
  refine lv_aload_n hx hb dX5_state_0 rfl (lv_at hl 0 rfl) ?_
  refine lv_iload_n hx hb dX5_state_1 rfl (lv_at hl 1 rfl) ?_
  refine va_csq (W.runV (As := [.int xp]) (rest := []) ⟨hx, hb, hml, hown, hts⟩ (c_X5_partitionAt l dC dI v cy xp) (cwV 1 hts gX5_state_X5_partitionAt rfl rfl rfl (by decide +kernel) ⟨Nat.le_of_ble_eq_true rfl, Nat.le_of_ble_eq_true rfl⟩) ⟨fx_blind, va_recv hK hP (ci := 5) (q0 := 0) rfl rfl, fun U hU hW => ⟨rfl, fx_pre hP hK hU hW⟩⟩ rfl rfl hl.1 rfl (lv_room (Nat.le_of_ble_eq_true rfl)) dX5_state_2 ⟨Nat.le_of_ble_eq_true rfl, Nat.le_of_ble_eq_true rfl⟩) (fun r137 hr137 => ?_)
  subst hr137
  refine W.eq (g2 := F0 m 5 ls [.null]) rfl ?_
  refine lv_astore_nN (lv' := [(3, .null), (0, .ref (v 0)), (1, .int xp), (2, .int wh)]) hx hb dX5_state_5 rfl hl (by decide) rfl (fun ls hl => ?_)
  refine lv_aload_nN hx hb dX5_state_6 rfl (lv_at hl 0 rfl) ?_
  refine lv_ifnonnullN hx hb dX5_state_7 ?_
  refine lv_iconst (v := (-1)) hx hb dX5_state_10 (by decide) ?_
  exact W.iret (v := (-1)) hx hb hr (fun t ht hW => ⟨(-1), rfl, rfl, ht⟩) (fun _ h => by cases h) dX5_state_11
