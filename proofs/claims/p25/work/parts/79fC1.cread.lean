set_option maxHeartbeats 4000000 in
set_option maxRecDepth 100000 in
/-- Replica.entryAt, exactly -/
theorem g_X4_entryAt (l : Launch) (dC : Nat → ClassId) (dI : Nat → Nat → Nat) (cy : Nat → ClassId) (v : Nat → Nat) (L : List Nat) (K N : Nat → Nat) (T : Nat → Nat → Nat) (I : Nat → Nat → Int32) (Q : Nat → Nat → Option Nat) (J : Nat → Nat → Int32) (pa ra : Nat → Nat) (kx : Nat → Prop) (σ : SG) (Gp Gn : Nat) (xo : Int32) (hE : REP v pa ra L K N T I Q J kx σ) (hp : Gp < 4) (hn : Gn < 5) (hl9 : lvj σ Gp Gn) (hN9 : LN (σ.2.1 (5 * Gp + Gn))) : Met l yX4_entryAt wsX4_entryAt ({ frames := 1, cells := 0, slots := 0, locals := 22 }) (va_Pc [.ref (ra (5 * Gp + Gn)), .int xo] (pB dC dI cy L (pF cy K N T I Q J))) (va_Sq (fun r => EAp L K I σ (5 * Gp + Gn) xo r)) 0 0 (fun _ => False) := by
  refine Met.ofW (cc := cX4_entryAt) (maxL := 2) (ret := (some (.object "TallyLogs$Entry"))) (by decide) rfl ?_
  intro p e s m args below meth c s₁ B hml hv
  obtain ⟨rfl, hP, hK, hN⟩ := hv
  have hx := B.exec
  have hb := B.bytes
  have hr := B.returns
  have hts := atoms_spec (ws := wsX4_entryAt) B.pre
  have hown : s.vm.findClass RX4 = some m.cls := findClass_of_methodNamed B.named
  have hlocks := B.notSynchronized
  have hi4 : ∀ w ∈ wsX40, w ∈ wsX4_entryAt := by decide +kernel
  have hl := lv_entry ([.ref (ra (5 * Gp + Gn)), .int xo]) (n := 2) (Nat.le_of_ble_eq_true rfl)
  rw [lg_entry_eq]
  generalize (lg_sl ([.ref (ra (5 * Gp + Gn)), .int xo]) ++ List.replicate (2 - (lg_sl ([.ref (ra (5 * Gp + Gn)), .int xo])).length) Slot.unset).toArray = ls at hl ⊢
  have hl : lv_has ls 2 [(0, .ref (ra (5 * Gp + Gn))), (1, .int xo)] := hl
  have hn28 := hN.1
  have hn30 := hN.2.1
  have hn37 := hN.2.2.1
  have hC := hE.ct
  obtain ⟨n1g, n2g, n3g, n4g⟩ := id hN9
  refine lv_iload_n hx hb dX4_entryAt_0 rfl (lv_at hl 1 rfl) ?_
  refine lv_aload_n hx hb dX4_entryAt_1 rfl (lv_at hl 0 rfl) ?_
  obtain ⟨j500001, hj500001⟩ := pG_4 (cy := cy) (N := N) (T := T) (I := I) (Q := Q) (J := J) (hE.rL hp hn hl9).1 (hE.rL hp hn hl9).2
  refine va_get (D := (dC, dI)) (ci := 4) (v := .int (I (ra (5 * Gp + Gn)) 1)) (C := RX4) (T := TX4) (N := 7) hx hb hts hi4 hown hK hP j500001 hj500001 rfl 1 (by decide) (hts (.fieldLink RX4 17 "TallyLogs$Replica" "start" "I") (by decide +kernel)) (fun _ h9 => h9) rfl dX4_entryAt_2 ?_
  refine lv_topi (fun x500002 ex500002 => ?_)
  have sx500002 : x500002 = σ.2.1 (5 * Gp + Gn) 1 := ex500002.trans (hE.g hp hn hl9 (by decide) (by decide) (by decide))
  have ux500002 := sx500002
  have tx500002 : x500002.toInt = (σ.2.1 (5 * Gp + Gn) 1).toInt := congrArg Int32.toInt sx500002
  refine lv_icmp_lt (tgt := 16) hx hb dX4_entryAt_5 (by decide) (fun c500003 => ?_) (fun c500003 => ?_)
  · have kc500003 : xo.toInt < x500002.toInt := by have h9 := c500003; rw [xk_lt] at h9; exact h9
    refine lv_null hx hb dX4_entryAt_16 ?_
    refine lv_goto (tgt := 31) hx hb dX4_entryAt_17 (by decide) ?_
    exact W.aret (v := .null) hx hb hr (Or.inl ⟨_, rfl⟩) (Or.inl rfl) (fun t ht hW => ⟨none, rfl, Or.inl ⟨fun q => by omega, rfl⟩, ht⟩) (fun _ h => by cases h) dX4_entryAt_31
  · have kc500003 : ¬ (xo.toInt < x500002.toInt) := by have h9 := c500003; rw [xk_lt] at h9; exact h9
    refine lv_iload_n hx hb dX4_entryAt_8 rfl (lv_at hl 1 rfl) ?_
    refine lv_aload_n hx hb dX4_entryAt_9 rfl (lv_at hl 0 rfl) ?_
    obtain ⟨j500004, hj500004⟩ := pG_4 (cy := cy) (N := N) (T := T) (I := I) (Q := Q) (J := J) (hE.rL hp hn hl9).1 (hE.rL hp hn hl9).2
    refine va_get (D := (dC, dI)) (ci := 4) (v := .int (I (ra (5 * Gp + Gn)) 2)) (C := RX4) (T := TX4) (N := 7) hx hb hts hi4 hown hK hP j500004 hj500004 rfl 2 (by decide) (hts (.fieldLink RX4 21 "TallyLogs$Replica" "end" "I") (by decide +kernel)) (fun _ h9 => h9) rfl dX4_entryAt_10 ?_
    refine lv_topi (fun x500005 ex500005 => ?_)
    have sx500005 : x500005 = σ.2.1 (5 * Gp + Gn) 2 := ex500005.trans (hE.g hp hn hl9 (by decide) (by decide) (by decide))
    have ux500005 := sx500005
    have tx500005 : x500005.toInt = (σ.2.1 (5 * Gp + Gn) 2).toInt := congrArg Int32.toInt sx500005
    refine lv_icmp_lt (tgt := 20) hx hb dX4_entryAt_13 (by decide) (fun c500006 => ?_) (fun c500006 => ?_)
    · have kc500006 : xo.toInt < x500005.toInt := by have h9 := c500006; rw [xk_lt] at h9; exact h9
      refine lv_aload_n hx hb dX4_entryAt_20 rfl (lv_at hl 0 rfl) ?_
      obtain ⟨j500007, hj500007⟩ := pG_4 (cy := cy) (N := N) (T := T) (I := I) (Q := Q) (J := J) (hE.rL hp hn hl9).1 (hE.rL hp hn hl9).2
      refine va_get (D := (dC, dI)) (ci := 4) (v := .ref (T (ra (5 * Gp + Gn)) 0)) (C := RX4) (T := TX4) (N := 7) hx hb hts hi4 hown hK hP j500007 hj500007 rfl 0 (by decide) (hts (.fieldLink RX4 11 "TallyLogs$Replica" "slots" "[LTallyLogs$Entry;") (by decide +kernel)) (fun _ h9 => h9) rfl dX4_entryAt_21 ?_
      obtain ⟨t500008, et500008⟩ : ∃ t, t = T (ra (5 * Gp + Gn)) 0 := ⟨_, rfl⟩
      have hLt500008 : t500008 ∈ L := by rw [et500008]; exact (hC.2.2.2.2.2.2.1 (ra (5 * Gp + Gn)) (hE.rL hp hn hl9).1 (hE.rL hp hn hl9).2).1
      have hkt500008 : K t500008 = 8 := by rw [et500008]; exact (hC.2.2.2.2.2.2.1 (ra (5 * Gp + Gn)) (hE.rL hp hn hl9).1 (hE.rL hp hn hl9).2).2
      refine W.eq (g2 := F0 m 24 ls [.ref t500008]) (by rw [et500008]) ?_
      refine lv_iload_n hx hb dX4_entryAt_24 rfl (lv_at hl 1 rfl) ?_
      refine lv_bipush (v := 60) hx hb dX4_entryAt_25 (by decide) ?_
      refine vp_callSi (W.runS (As := [.int xo, .int 60]) (rest := [.ref t500008]) ⟨hx, hb, hml, hown, hts⟩ (c_J9_floorMod_7cf53 l xo) (va_cwS 2 hts gX4_entryAt_J9_floorMod_7cf53 rfl rfl rfl (by decide +kernel) ⟨Nat.le_of_ble_eq_true rfl, Nat.le_of_ble_eq_true rfl⟩) preEq rfl rfl hl.1 rfl (lv_room (Nat.le_of_ble_eq_true rfl)) dX4_entryAt_27 ⟨Nat.le_of_ble_eq_true rfl, Nat.le_of_ble_eq_true rfl⟩) (fun r500009 hr500009 => ?_)
      have hinr500009 : vp_in r500009 60 := by rw [hr500009]; exact sp_fm_in _
      obtain ⟨b500010, hq500010, hb500010, hbf500010⟩ := hE.e hp hn hl9 (o := xo.toNatClampNeg) (zb_le (by omega)) (lt_ze (by omega) (by omega))
      have hqq500010 : Q t500008 r500009.toNatClampNeg = some b500010 := by rw [et500008, hr500009, sp_fm_n (by omega)]; exact hq500010
      obtain ⟨j500011, hj500011⟩ := pG_8 (cy := cy) (N := N) (T := T) (I := I) (Q := Q) (J := J) hLt500008 hkt500008
      refine va_aldq hx hb hK hP j500011 1 hj500011 rfl hinr500009 dX4_entryAt_30 ?_
      refine W.eq (g2 := F0 m 31 ls [.ref b500010]) (by rw [hqq500010]; rfl) ?_
      exact W.aret (v := .ref b500010) hx hb hr (Or.inl ⟨_, rfl⟩) (Or.inr ⟨_, rfl⟩) (fun t ht hW => ⟨some b500010, rfl, Or.inr ⟨b500010, rfl, hb500010, ⟨by omega, by omega⟩, hbf500010⟩, ht⟩) (fun _ h => by cases h) dX4_entryAt_31
    · have kc500006 : ¬ (xo.toInt < x500005.toInt) := by have h9 := c500006; rw [xk_lt] at h9; exact h9
      refine lv_null hx hb dX4_entryAt_16 ?_
      refine lv_goto (tgt := 31) hx hb dX4_entryAt_17 (by decide) ?_
      exact W.aret (v := .null) hx hb hr (Or.inl ⟨_, rfl⟩) (Or.inl rfl) (fun t ht hW => ⟨none, rfl, Or.inl ⟨fun q => by omega, rfl⟩, ht⟩) (fun _ h => by cases h) dX4_entryAt_31
set_option maxHeartbeats 4000000 in
set_option maxRecDepth 100000 in
/-- Replica.held, exactly -/
theorem g_X4_held (l : Launch) (dC : Nat → ClassId) (dI : Nat → Nat → Nat) (cy : Nat → ClassId) (v : Nat → Nat) (L : List Nat) (K N : Nat → Nat) (T : Nat → Nat → Nat) (I : Nat → Nat → Int32) (Q : Nat → Nat → Option Nat) (J : Nat → Nat → Int32) (pa ra : Nat → Nat) (kx : Nat → Prop) (σ : SG) (Gp Gn : Nat) (hE : REP v pa ra L K N T I Q J kx σ) (hp : Gp < 4) (hn : Gn < 5) (hl9 : lvj σ Gp Gn) (hN9 : LN (σ.2.1 (5 * Gp + Gn))) : Met l yX4_held wsX4_held ({ frames := 0, cells := 0, slots := 0, locals := 0 }) (va_Pc [.ref (ra (5 * Gp + Gn))] (pB dC dI cy L (pF cy K N T I Q J))) (vp_Si (fun r => r = σ.2.1 (5 * Gp + Gn) 2 - σ.2.1 (5 * Gp + Gn) 1)) 0 0 (fun _ => False) := by
  refine Met.ofW (cc := cX4_held) (maxL := 1) (ret := (some .int)) (by decide) rfl ?_
  intro p e s m args below meth c s₁ B hml hv
  obtain ⟨rfl, hP, hK, hN⟩ := hv
  have hx := B.exec
  have hb := B.bytes
  have hr := B.returns
  have hts := atoms_spec (ws := wsX4_held) B.pre
  have hown : s.vm.findClass RX4 = some m.cls := findClass_of_methodNamed B.named
  have hlocks := B.notSynchronized
  have hi4 : ∀ w ∈ wsX40, w ∈ wsX4_held := by decide +kernel
  have hl := lv_entry ([.ref (ra (5 * Gp + Gn))]) (n := 1) (Nat.le_of_ble_eq_true rfl)
  rw [lg_entry_eq]
  generalize (lg_sl ([.ref (ra (5 * Gp + Gn))]) ++ List.replicate (1 - (lg_sl ([.ref (ra (5 * Gp + Gn))])).length) Slot.unset).toArray = ls at hl ⊢
  have hl : lv_has ls 1 [(0, .ref (ra (5 * Gp + Gn)))] := hl
  have hn28 := hN.1
  have hn30 := hN.2.1
  have hn37 := hN.2.2.1
  have hC := hE.ct
  obtain ⟨n1g, n2g, n3g, n4g⟩ := id hN9
  refine lv_aload_n hx hb dX4_held_0 rfl (lv_at hl 0 rfl) ?_
  obtain ⟨j500012, hj500012⟩ := pG_4 (cy := cy) (N := N) (T := T) (I := I) (Q := Q) (J := J) (hE.rL hp hn hl9).1 (hE.rL hp hn hl9).2
  refine va_get (D := (dC, dI)) (ci := 4) (v := .int (I (ra (5 * Gp + Gn)) 2)) (C := RX4) (T := TX4) (N := 7) hx hb hts hi4 hown hK hP j500012 hj500012 rfl 2 (by decide) (hts (.fieldLink RX4 21 "TallyLogs$Replica" "end" "I") (by decide +kernel)) (fun _ h9 => h9) rfl dX4_held_1 ?_
  refine lv_topi (fun x500013 ex500013 => ?_)
  have sx500013 : x500013 = σ.2.1 (5 * Gp + Gn) 2 := ex500013.trans (hE.g hp hn hl9 (by decide) (by decide) (by decide))
  have ux500013 := sx500013
  have tx500013 : x500013.toInt = (σ.2.1 (5 * Gp + Gn) 2).toInt := congrArg Int32.toInt sx500013
  refine lv_aload_n hx hb dX4_held_4 rfl (lv_at hl 0 rfl) ?_
  obtain ⟨j500014, hj500014⟩ := pG_4 (cy := cy) (N := N) (T := T) (I := I) (Q := Q) (J := J) (hE.rL hp hn hl9).1 (hE.rL hp hn hl9).2
  refine va_get (D := (dC, dI)) (ci := 4) (v := .int (I (ra (5 * Gp + Gn)) 1)) (C := RX4) (T := TX4) (N := 7) hx hb hts hi4 hown hK hP j500014 hj500014 rfl 1 (by decide) (hts (.fieldLink RX4 17 "TallyLogs$Replica" "start" "I") (by decide +kernel)) (fun _ h9 => h9) rfl dX4_held_5 ?_
  refine lv_topi (fun x500015 ex500015 => ?_)
  have sx500015 : x500015 = σ.2.1 (5 * Gp + Gn) 1 := ex500015.trans (hE.g hp hn hl9 (by decide) (by decide) (by decide))
  have ux500015 := sx500015
  have tx500015 : x500015.toInt = (σ.2.1 (5 * Gp + Gn) 1).toInt := congrArg Int32.toInt sx500015
  refine lv_isub hx hb dX4_held_8 ?_
  refine lv_topi (fun v500016 ev500016 => ?_)
  exact W.iret (v := v500016) hx hb hr (fun t ht hW => ⟨v500016, rfl, by show _ = _; rw [ev500016, sx500013, sx500015], ht⟩) (fun _ h => by cases h) dX4_held_9
set_option maxHeartbeats 4000000 in
set_option maxRecDepth 100000 in
/-- Replica.isFull, exactly -/
theorem g_X4_isFull (l : Launch) (dC : Nat → ClassId) (dI : Nat → Nat → Nat) (cy : Nat → ClassId) (v : Nat → Nat) (L : List Nat) (K N : Nat → Nat) (T : Nat → Nat → Nat) (I : Nat → Nat → Int32) (Q : Nat → Nat → Option Nat) (J : Nat → Nat → Int32) (pa ra : Nat → Nat) (kx : Nat → Prop) (σ : SG) (Gp Gn : Nat) (hE : REP v pa ra L K N T I Q J kx σ) (hp : Gp < 4) (hn : Gn < 5) (hl9 : lvj σ Gp Gn) (hN9 : LN (σ.2.1 (5 * Gp + Gn))) : Met l yX4_isFull wsX4_isFull ({ frames := 1, cells := 0, slots := 0, locals := 20 }) (va_Pc [.ref (ra (5 * Gp + Gn))] (pB dC dI cy L (pF cy K N T I Q J))) (vp_Si (fun r => r = if σ.2.1 (5 * Gp + Gn) 2 - σ.2.1 (5 * Gp + Gn) 1 < 60 then 0 else 1)) 0 0 (fun _ => False) := by
  refine Met.ofW (cc := cX4_isFull) (maxL := 1) (ret := (some .boolean)) (by decide) rfl ?_
  intro p e s m args below meth c s₁ B hml hv
  obtain ⟨rfl, hP, hK, hN⟩ := hv
  have hx := B.exec
  have hb := B.bytes
  have hr := B.returns
  have hts := atoms_spec (ws := wsX4_isFull) B.pre
  have hown : s.vm.findClass RX4 = some m.cls := findClass_of_methodNamed B.named
  have hlocks := B.notSynchronized
  have hi4 : ∀ w ∈ wsX40, w ∈ wsX4_isFull := by decide +kernel
  have hl := lv_entry ([.ref (ra (5 * Gp + Gn))]) (n := 1) (Nat.le_of_ble_eq_true rfl)
  rw [lg_entry_eq]
  generalize (lg_sl ([.ref (ra (5 * Gp + Gn))]) ++ List.replicate (1 - (lg_sl ([.ref (ra (5 * Gp + Gn))])).length) Slot.unset).toArray = ls at hl ⊢
  have hl : lv_has ls 1 [(0, .ref (ra (5 * Gp + Gn)))] := hl
  have hn28 := hN.1
  have hn30 := hN.2.1
  have hn37 := hN.2.2.1
  have hC := hE.ct
  obtain ⟨n1g, n2g, n3g, n4g⟩ := id hN9
  refine lv_aload_n hx hb dX4_isFull_0 rfl (lv_at hl 0 rfl) ?_
  obtain ⟨j500018, hj500018⟩ := pG_4 (cy := cy) (N := N) (T := T) (I := I) (Q := Q) (J := J) (hE.rL hp hn hl9).1 (hE.rL hp hn hl9).2
  refine vp_callSi (W.runV (As := []) (rest := []) ⟨hx, hb, hml, hown, hts⟩ (g_X4_held l dC dI cy v L K N T I Q J pa ra kx σ Gp Gn hE hp hn hl9 hN9) (cwV 0 hts gX4_isFull_X4_held rfl rfl rfl (by decide +kernel) ⟨Nat.le_of_ble_eq_true rfl, Nat.le_of_ble_eq_true rfl⟩) ⟨pb_blind, va_recv hK hP (ci := 4) (q0 := j500018) rfl hj500018, fun U hU hW => ⟨rfl, pb_pre hP hK hN hU hW⟩⟩ rfl rfl hl.1 rfl (lv_room (Nat.le_of_ble_eq_true rfl)) dX4_isFull_1 ⟨Nat.le_of_ble_eq_true rfl, Nat.le_of_ble_eq_true rfl⟩) (fun r500017 hr500017 => ?_)
  refine lv_bipush (v := 60) hx hb dX4_isFull_4 (by decide) ?_
  refine lv_icmp_lt (tgt := 13) hx hb dX4_isFull_6 (by decide) (fun c500019 => ?_) (fun c500019 => ?_)
  · have kc500019 : r500017.toInt < 60 := by have h9 := c500019; rw [xk_lt, (show (60 : Int32).toInt = 60 by decide)] at h9; exact h9
    refine lv_iconst (v := 0) hx hb dX4_isFull_13 (by decide) ?_
    exact W.zret (v := 0) hx hb hr (by decide) (fun t ht hW => ⟨0, rfl, by show _ = _; rw [if_pos (by have k9 := c500019; rw [hr500017] at k9; exact k9)], ht⟩) (fun _ h => by cases h) dX4_isFull_14
  · have kc500019 : ¬ (r500017.toInt < 60) := by have h9 := c500019; rw [xk_lt, (show (60 : Int32).toInt = 60 by decide)] at h9; exact h9
    refine lv_iconst (v := 1) hx hb dX4_isFull_9 (by decide) ?_
    refine lv_goto (tgt := 14) hx hb dX4_isFull_10 (by decide) ?_
    exact W.zret (v := 1) hx hb hr (by decide) (fun t ht hW => ⟨1, rfl, by show _ = _; rw [if_neg (by have k9 := c500019; rw [hr500017] at k9; exact k9)], ht⟩) (fun _ h => by cases h) dX4_isFull_14
set_option maxHeartbeats 4000000 in
set_option maxRecDepth 100000 in
/-- Entry.isDataBy, exactly -/
theorem g_X0_isDataBy (l : Launch) (dC : Nat → ClassId) (dI : Nat → Nat → Nat) (cy : Nat → ClassId) (v : Nat → Nat) (L : List Nat) (K N : Nat → Nat) (T : Nat → Nat → Nat) (I : Nat → Nat → Int32) (Q : Nat → Nat → Option Nat) (J : Nat → Nat → Int32) (a : Nat) (ka kb : Int32) (hC : CT v L K N T I Q) (ha : a ∈ L) (hk : K a = 0) : Met l yX0_isDataBy wsX0_isDataBy ({ frames := 0, cells := 0, slots := 0, locals := 0 }) (va_Pc [.ref a, .int ka, .int kb] (pB dC dI cy L (pF cy K N T I Q J))) (vp_Si (fun r => r = if I a 1 = 0 ∧ I a 2 = ka ∧ I a 3 = kb then 1 else 0)) 0 0 (fun _ => False) := by
  refine Met.ofW (cc := cX0_isDataBy) (maxL := 3) (ret := (some .boolean)) (by decide) rfl ?_
  intro p e s m args below meth c s₁ B hml hv
  obtain ⟨rfl, hP, hK, hN⟩ := hv
  have hx := B.exec
  have hb := B.bytes
  have hr := B.returns
  have hts := atoms_spec (ws := wsX0_isDataBy) B.pre
  have hown : s.vm.findClass RX0 = some m.cls := findClass_of_methodNamed B.named
  have hlocks := B.notSynchronized
  have hi0 : ∀ w ∈ wsX00, w ∈ wsX0_isDataBy := by decide +kernel
  have hl := lv_entry ([.ref a, .int ka, .int kb]) (n := 3) (Nat.le_of_ble_eq_true rfl)
  rw [lg_entry_eq]
  generalize (lg_sl ([.ref a, .int ka, .int kb]) ++ List.replicate (3 - (lg_sl ([.ref a, .int ka, .int kb])).length) Slot.unset).toArray = ls at hl ⊢
  have hl : lv_has ls 3 [(0, .ref a), (1, .int ka), (2, .int kb)] := hl
  have hn28 := hN.1
  have hn30 := hN.2.1
  have hn37 := hN.2.2.1
  refine lv_aload_n hx hb dX0_isDataBy_0 rfl (lv_at hl 0 rfl) ?_
  obtain ⟨j500020, hj500020⟩ := pG_0 (cy := cy) (N := N) (T := T) (I := I) (Q := Q) (J := J) ha hk
  refine va_get (D := (dC, dI)) (ci := 0) (v := .int (I a 1)) (C := RX0) (T := TX0) (N := 8) hx hb hts hi0 hown hK hP j500020 hj500020 rfl 1 (by decide) (hts (.fieldLink RX0 15 "TallyLogs$Entry" "kind" "I") (by decide +kernel)) (fun _ h9 => h9) rfl dX0_isDataBy_1 ?_
  refine lv_topi (fun x500021 ex500021 => ?_)
  refine lv_if_ne (tgt := 27) hx hb dX0_isDataBy_4 (by decide) (fun c500022 => ?_) (fun c500022 => ?_)
  · have kc500022 : ¬ (x500021.toInt = 0) := by have h9 := c500022; rw [xk_eq, xk_0] at h9; exact h9
    refine lv_iconst (v := 0) hx hb dX0_isDataBy_27 (by decide) ?_
    exact W.zret (v := 0) hx hb hr (by decide) (fun t ht hW => ⟨0, rfl, by show _ = _; rw [if_neg (fun q => c500022 (by rw [ex500021]; exact q.1))], ht⟩) (fun _ h => by cases h) dX0_isDataBy_28
  · have kc500022 : x500021.toInt = 0 := by have h9 := c500022; rw [xk_eq, xk_0] at h9; exact h9
    refine lv_aload_n hx hb dX0_isDataBy_7 rfl (lv_at hl 0 rfl) ?_
    obtain ⟨j500023, hj500023⟩ := pG_0 (cy := cy) (N := N) (T := T) (I := I) (Q := Q) (J := J) ha hk
    refine va_get (D := (dC, dI)) (ci := 0) (v := .int (I a 2)) (C := RX0) (T := TX0) (N := 8) hx hb hts hi0 hown hK hP j500023 hj500023 rfl 2 (by decide) (hts (.fieldLink RX0 18 "TallyLogs$Entry" "producer" "I") (by decide +kernel)) (fun _ h9 => h9) rfl dX0_isDataBy_8 ?_
    refine lv_topi (fun x500024 ex500024 => ?_)
    refine lv_iload_n hx hb dX0_isDataBy_11 rfl (lv_at hl 1 rfl) ?_
    refine lv_icmp_ne (tgt := 27) hx hb dX0_isDataBy_12 (by decide) (fun c500025 => ?_) (fun c500025 => ?_)
    · have kc500025 : ¬ (x500024.toInt = ka.toInt) := by have h9 := c500025; rw [xk_eq] at h9; exact h9
      refine lv_iconst (v := 0) hx hb dX0_isDataBy_27 (by decide) ?_
      exact W.zret (v := 0) hx hb hr (by decide) (fun t ht hW => ⟨0, rfl, by show _ = _; rw [if_neg (fun q => c500025 (by rw [ex500024]; exact q.2.1))], ht⟩) (fun _ h => by cases h) dX0_isDataBy_28
    · have kc500025 : x500024.toInt = ka.toInt := by have h9 := c500025; rw [xk_eq] at h9; exact h9
      refine lv_aload_n hx hb dX0_isDataBy_15 rfl (lv_at hl 0 rfl) ?_
      obtain ⟨j500026, hj500026⟩ := pG_0 (cy := cy) (N := N) (T := T) (I := I) (Q := Q) (J := J) ha hk
      refine va_get (D := (dC, dI)) (ci := 0) (v := .int (I a 3)) (C := RX0) (T := TX0) (N := 8) hx hb hts hi0 hown hK hP j500026 hj500026 rfl 3 (by decide) (hts (.fieldLink RX0 21 "TallyLogs$Entry" "generation" "I") (by decide +kernel)) (fun _ h9 => h9) rfl dX0_isDataBy_16 ?_
      refine lv_topi (fun x500027 ex500027 => ?_)
      refine lv_iload_n hx hb dX0_isDataBy_19 rfl (lv_at hl 2 rfl) ?_
      refine lv_icmp_ne (tgt := 27) hx hb dX0_isDataBy_20 (by decide) (fun c500028 => ?_) (fun c500028 => ?_)
      · have kc500028 : ¬ (x500027.toInt = kb.toInt) := by have h9 := c500028; rw [xk_eq] at h9; exact h9
        refine lv_iconst (v := 0) hx hb dX0_isDataBy_27 (by decide) ?_
        exact W.zret (v := 0) hx hb hr (by decide) (fun t ht hW => ⟨0, rfl, by show _ = _; rw [if_neg (fun q => c500028 (by rw [ex500027]; exact q.2.2))], ht⟩) (fun _ h => by cases h) dX0_isDataBy_28
      · have kc500028 : x500027.toInt = kb.toInt := by have h9 := c500028; rw [xk_eq] at h9; exact h9
        refine lv_iconst (v := 1) hx hb dX0_isDataBy_23 (by decide) ?_
        refine lv_goto (tgt := 28) hx hb dX0_isDataBy_24 (by decide) ?_
        exact W.zret (v := 1) hx hb hr (by decide) (fun t ht hW => ⟨1, rfl, by show _ = _; rw [if_pos ⟨(by have k9 := c500022; rw [ex500021] at k9; exact k9), (by have k9 := c500025; rw [ex500024] at k9; exact k9), (by have k9 := c500028; rw [ex500027] at k9; exact k9)⟩], ht⟩) (fun _ h => by cases h) dX0_isDataBy_28
set_option maxHeartbeats 4000000 in
set_option maxRecDepth 100000 in
/-- Entry.isEndOf, exactly -/
theorem g_X0_isEndOf (l : Launch) (dC : Nat → ClassId) (dI : Nat → Nat → Nat) (cy : Nat → ClassId) (v : Nat → Nat) (L : List Nat) (K N : Nat → Nat) (T : Nat → Nat → Nat) (I : Nat → Nat → Int32) (Q : Nat → Nat → Option Nat) (J : Nat → Nat → Int32) (a eb : Nat) (hC : CT v L K N T I Q) (ha : a ∈ L) (hk : K a = 0) (hb0 : eb ∈ L) (hkb : K eb = 0) : Met l yX0_isEndOf wsX0_isEndOf ({ frames := 0, cells := 0, slots := 0, locals := 0 }) (va_Pc [.ref a, .ref eb] (pB dC dI cy L (pF cy K N T I Q J))) (vp_Si (fun r => r = if ¬ I a 1 = 0 ∧ I a 2 = I eb 2 ∧ I a 3 = I eb 3 then 1 else 0)) 0 0 (fun _ => False) := by
  refine Met.ofW (cc := cX0_isEndOf) (maxL := 2) (ret := (some .boolean)) (by decide) rfl ?_
  intro p e s m args below meth c s₁ B hml hv
  obtain ⟨rfl, hP, hK, hN⟩ := hv
  have hx := B.exec
  have hb := B.bytes
  have hr := B.returns
  have hts := atoms_spec (ws := wsX0_isEndOf) B.pre
  have hown : s.vm.findClass RX0 = some m.cls := findClass_of_methodNamed B.named
  have hlocks := B.notSynchronized
  have hi0 : ∀ w ∈ wsX00, w ∈ wsX0_isEndOf := by decide +kernel
  have hl := lv_entry ([.ref a, .ref eb]) (n := 2) (Nat.le_of_ble_eq_true rfl)
  rw [lg_entry_eq]
  generalize (lg_sl ([.ref a, .ref eb]) ++ List.replicate (2 - (lg_sl ([.ref a, .ref eb])).length) Slot.unset).toArray = ls at hl ⊢
  have hl : lv_has ls 2 [(0, .ref a), (1, .ref eb)] := hl
  have hn28 := hN.1
  have hn30 := hN.2.1
  have hn37 := hN.2.2.1
  refine lv_aload_n hx hb dX0_isEndOf_0 rfl (lv_at hl 0 rfl) ?_
  obtain ⟨j500029, hj500029⟩ := pG_0 (cy := cy) (N := N) (T := T) (I := I) (Q := Q) (J := J) ha hk
  refine va_get (D := (dC, dI)) (ci := 0) (v := .int (I a 1)) (C := RX0) (T := TX0) (N := 8) hx hb hts hi0 hown hK hP j500029 hj500029 rfl 1 (by decide) (hts (.fieldLink RX0 15 "TallyLogs$Entry" "kind" "I") (by decide +kernel)) (fun _ h9 => h9) rfl dX0_isEndOf_1 ?_
  refine lv_topi (fun x500030 ex500030 => ?_)
  refine lv_if_eq (tgt := 33) hx hb dX0_isEndOf_4 (by decide) (fun c500031 => ?_) (fun c500031 => ?_)
  · have kc500031 : x500030.toInt = 0 := by have h9 := c500031; rw [xk_eq, xk_0] at h9; exact h9
    refine lv_iconst (v := 0) hx hb dX0_isEndOf_33 (by decide) ?_
    exact W.zret (v := 0) hx hb hr (by decide) (fun t ht hW => ⟨0, rfl, by show _ = _; rw [if_neg (fun q => q.1 (by have k9 := c500031; rw [ex500030] at k9; exact k9))], ht⟩) (fun _ h => by cases h) dX0_isEndOf_34
  · have kc500031 : ¬ (x500030.toInt = 0) := by have h9 := c500031; rw [xk_eq, xk_0] at h9; exact h9
    refine lv_aload_n hx hb dX0_isEndOf_7 rfl (lv_at hl 0 rfl) ?_
    obtain ⟨j500032, hj500032⟩ := pG_0 (cy := cy) (N := N) (T := T) (I := I) (Q := Q) (J := J) ha hk
    refine va_get (D := (dC, dI)) (ci := 0) (v := .int (I a 2)) (C := RX0) (T := TX0) (N := 8) hx hb hts hi0 hown hK hP j500032 hj500032 rfl 2 (by decide) (hts (.fieldLink RX0 18 "TallyLogs$Entry" "producer" "I") (by decide +kernel)) (fun _ h9 => h9) rfl dX0_isEndOf_8 ?_
    refine lv_topi (fun x500033 ex500033 => ?_)
    refine lv_aload_n hx hb dX0_isEndOf_11 rfl (lv_at hl 1 rfl) ?_
    obtain ⟨j500034, hj500034⟩ := pG_0 (cy := cy) (N := N) (T := T) (I := I) (Q := Q) (J := J) hb0 hkb
    refine va_get (D := (dC, dI)) (ci := 0) (v := .int (I eb 2)) (C := RX0) (T := TX0) (N := 8) hx hb hts hi0 hown hK hP j500034 hj500034 rfl 2 (by decide) (hts (.fieldLink RX0 18 "TallyLogs$Entry" "producer" "I") (by decide +kernel)) (fun _ h9 => h9) rfl dX0_isEndOf_12 ?_
    refine lv_topi (fun x500035 ex500035 => ?_)
    refine lv_icmp_ne (tgt := 33) hx hb dX0_isEndOf_15 (by decide) (fun c500036 => ?_) (fun c500036 => ?_)
    · have kc500036 : ¬ (x500033.toInt = x500035.toInt) := by have h9 := c500036; rw [xk_eq] at h9; exact h9
      refine lv_iconst (v := 0) hx hb dX0_isEndOf_33 (by decide) ?_
      exact W.zret (v := 0) hx hb hr (by decide) (fun t ht hW => ⟨0, rfl, by show _ = _; rw [if_neg (fun q => c500036 (by rw [ex500033, ex500035]; exact q.2.1))], ht⟩) (fun _ h => by cases h) dX0_isEndOf_34
    · have kc500036 : x500033.toInt = x500035.toInt := by have h9 := c500036; rw [xk_eq] at h9; exact h9
      refine lv_aload_n hx hb dX0_isEndOf_18 rfl (lv_at hl 0 rfl) ?_
      obtain ⟨j500037, hj500037⟩ := pG_0 (cy := cy) (N := N) (T := T) (I := I) (Q := Q) (J := J) ha hk
      refine va_get (D := (dC, dI)) (ci := 0) (v := .int (I a 3)) (C := RX0) (T := TX0) (N := 8) hx hb hts hi0 hown hK hP j500037 hj500037 rfl 3 (by decide) (hts (.fieldLink RX0 21 "TallyLogs$Entry" "generation" "I") (by decide +kernel)) (fun _ h9 => h9) rfl dX0_isEndOf_19 ?_
      refine lv_topi (fun x500038 ex500038 => ?_)
      refine lv_aload_n hx hb dX0_isEndOf_22 rfl (lv_at hl 1 rfl) ?_
      obtain ⟨j500039, hj500039⟩ := pG_0 (cy := cy) (N := N) (T := T) (I := I) (Q := Q) (J := J) hb0 hkb
      refine va_get (D := (dC, dI)) (ci := 0) (v := .int (I eb 3)) (C := RX0) (T := TX0) (N := 8) hx hb hts hi0 hown hK hP j500039 hj500039 rfl 3 (by decide) (hts (.fieldLink RX0 21 "TallyLogs$Entry" "generation" "I") (by decide +kernel)) (fun _ h9 => h9) rfl dX0_isEndOf_23 ?_
      refine lv_topi (fun x500040 ex500040 => ?_)
      refine lv_icmp_ne (tgt := 33) hx hb dX0_isEndOf_26 (by decide) (fun c500041 => ?_) (fun c500041 => ?_)
      · have kc500041 : ¬ (x500038.toInt = x500040.toInt) := by have h9 := c500041; rw [xk_eq] at h9; exact h9
        refine lv_iconst (v := 0) hx hb dX0_isEndOf_33 (by decide) ?_
        exact W.zret (v := 0) hx hb hr (by decide) (fun t ht hW => ⟨0, rfl, by show _ = _; rw [if_neg (fun q => c500041 (by rw [ex500038, ex500040]; exact q.2.2))], ht⟩) (fun _ h => by cases h) dX0_isEndOf_34
      · have kc500041 : x500038.toInt = x500040.toInt := by have h9 := c500041; rw [xk_eq] at h9; exact h9
        refine lv_iconst (v := 1) hx hb dX0_isEndOf_29 (by decide) ?_
        refine lv_goto (tgt := 34) hx hb dX0_isEndOf_30 (by decide) ?_
        exact W.zret (v := 1) hx hb hr (by decide) (fun t ht hW => ⟨1, rfl, by show _ = _; rw [if_pos ⟨(by have k9 := c500031; rw [ex500030] at k9; exact k9), (by have k9 := c500036; rw [ex500033, ex500035] at k9; exact k9), (by have k9 := c500041; rw [ex500038, ex500040] at k9; exact k9)⟩], ht⟩) (fun _ h => by cases h) dX0_isEndOf_34
