set_option maxHeartbeats 4000000 in
set_option maxRecDepth 100000 in
/-- Log.get: a field of a record that is there -/
theorem c_X6_get (l : Launch) (dC : Nat → ClassId) (dI : Nat → Nat → Nat) (cy : Nat → ClassId) (w : Nat → Nat) (L : List Nat) (K N : Nat → Nat) (T : Nat → Nat → Nat) (Q : Nat → Nat → Option Nat) (I J : Nat → Nat → Int32) (ja : Nat) (xo : Int32) (xf : Int32) (hM : MS w L K N T Q) (hja : ja < 20) (h1 : (I (w (21 + ja)) 1).toInt ≤ xo.toInt) (h2 : xo.toInt < (I (w (21 + ja)) 1).toInt + 80) (h3 : vp_in xf 8) : Met l yX6_get wsX6_get ({ frames := 0, cells := 0, slots := 0, locals := 0 }) (va_Pc [.ref (w (21 + ja)), .int xo, .int xf] (mB dC dI cy L (wF cy K N T I Q J))) (vp_Si (fun r => True)) 0 0 (fun _ => False) := by
  refine Met.ofW (cc := cX6_get) (maxL := 3) (ret := (some .int)) (by decide) rfl ?_
  intro p e s m args below meth c s₁ B hml hv
  obtain ⟨rfl, hP, hK⟩ := hv
  have hx := B.exec
  have hb := B.bytes
  have hr := B.returns
  have hts := atoms_spec (ws := wsX6_get) B.pre
  have hown : s.vm.findClass RX6 = some m.cls := findClass_of_methodNamed B.named
  have hlocks := B.notSynchronized
  have hi6 : ∀ w ∈ wsX60, w ∈ wsX6_get := by decide +kernel
  have hl := lv_entry ([.ref (w (21 + ja)), .int xo, .int xf]) (n := 3) (Nat.le_of_ble_eq_true rfl)
  rw [lg_entry_eq]
  generalize (lg_sl ([.ref (w (21 + ja)), .int xo, .int xf]) ++ List.replicate (3 - (lg_sl ([.ref (w (21 + ja)), .int xo, .int xf])).length) Slot.unset).toArray = ls at hl ⊢
  have hl : lv_has ls 3 [(0, .ref (w (21 + ja))), (1, .int xo), (2, .int xf)] := hl
  refine lv_aload_n hx hb dX6_get_0 rfl (lv_at hl 0 rfl) ?_
  obtain ⟨j1, hj1⟩ := wG_6 (cy := cy) (N := N) (T := T) (I := I) (Q := Q) (J := J) (hM.lg hja).1 (hM.lg hja).2
  refine va_get (D := (dC, dI)) (ci := 6) (v := .ref (T (w (21 + ja)) 0)) (C := RX6) (T := TX6) (N := 7) hx hb hts hi6 hown hK hP j1 hj1 rfl 0 (by decide) (hts (.fieldLink RX6 9 "TallyLogsModel$Log" "cell" "[I") (by decide +kernel)) (fun _ h9 => h9) rfl dX6_get_1 ?_
  refine W.eq (g2 := F0 m 4 ls [.ref (w (41 + ja))]) (by rw [hM.tl hja]) ?_
  refine lv_bipush (v := 8) hx hb dX6_get_4 (by decide) ?_
  refine lv_iload_n hx hb dX6_get_6 rfl (lv_at hl 1 rfl) ?_
  refine lv_aload_n hx hb dX6_get_7 rfl (lv_at hl 0 rfl) ?_
  obtain ⟨j2, hj2⟩ := wG_6 (cy := cy) (N := N) (T := T) (I := I) (Q := Q) (J := J) (hM.lg hja).1 (hM.lg hja).2
  refine va_get (D := (dC, dI)) (ci := 6) (v := .int (I (w (21 + ja)) 1)) (C := RX6) (T := TX6) (N := 7) hx hb hts hi6 hown hK hP j2 hj2 rfl 1 (by decide) (hts (.fieldLink RX6 15 "TallyLogsModel$Log" "start" "I") (by decide +kernel)) (fun _ h9 => h9) rfl dX6_get_8 ?_
  refine lv_topi (fun x3 ex3 => ?_)
  have tx3 : x3.toInt = (I (w (21 + ja)) 1).toInt := congrArg Int32.toInt ex3
  refine lv_isub hx hb dX6_get_11 ?_
  refine lv_topi (fun v4 ev4 => ?_)
  refine lv_imul hx hb dX6_get_12 ?_
  refine lv_topi (fun v5 ev5 => ?_)
  refine lv_iload_n hx hb dX6_get_13 rfl (lv_at hl 2 rfl) ?_
  refine lv_iadd hx hb dX6_get_14 ?_
  refine lv_topi (fun v6 ev6 => ?_)
  have hin7 : vp_in v6 640 := by rw [ev6, ev5, ev4, ex3]; exact xix h1 h2 h3
  obtain ⟨j8, hj8⟩ := wG_20 (cy := cy) (N := N) (T := T) (I := I) (Q := Q) (J := J) (hM.ce hja).1 (hM.ce hja).2
  refine va_iald hx hb hK hP j8 1 hj8 rfl (hM.inC hja hin7) dX6_get_15 ?_
  refine lv_topi (fun x9 ex9 => ?_)
  exact W.iret (v := x9) hx hb hr (fun t ht hW => ⟨x9, rfl, trivial, ht⟩) (fun _ h => by cases h) dX6_get_16
set_option maxHeartbeats 4000000 in
set_option maxRecDepth 100000 in
/-- Log.many -/
theorem c_X6_many (l : Launch) (dC : Nat → ClassId) (dI : Nat → Nat → Nat) (cy : Nat → ClassId) (w : Nat → Nat) (L : List Nat) (K N : Nat → Nat) (T : Nat → Nat → Nat) (Q : Nat → Nat → Option Nat) (I J : Nat → Nat → Int32) (ja : Nat)  (hM : MS w L K N T Q) (hja : ja < 20) : Met l yX6_many wsX6_many ({ frames := 0, cells := 0, slots := 0, locals := 0 }) (va_Pc [.ref (w (21 + ja))] (mB dC dI cy L (wF cy K N T I Q J))) (vp_Si (fun r => r = I (w (21 + ja)) 2 - I (w (21 + ja)) 1)) 0 0 (fun _ => False) := by
  refine Met.ofW (cc := cX6_many) (maxL := 1) (ret := (some .int)) (by decide) rfl ?_
  intro p e s m args below meth c s₁ B hml hv
  obtain ⟨rfl, hP, hK⟩ := hv
  have hx := B.exec
  have hb := B.bytes
  have hr := B.returns
  have hts := atoms_spec (ws := wsX6_many) B.pre
  have hown : s.vm.findClass RX6 = some m.cls := findClass_of_methodNamed B.named
  have hlocks := B.notSynchronized
  have hi6 : ∀ w ∈ wsX60, w ∈ wsX6_many := by decide +kernel
  have hl := lv_entry ([.ref (w (21 + ja))]) (n := 1) (Nat.le_of_ble_eq_true rfl)
  rw [lg_entry_eq]
  generalize (lg_sl ([.ref (w (21 + ja))]) ++ List.replicate (1 - (lg_sl ([.ref (w (21 + ja))])).length) Slot.unset).toArray = ls at hl ⊢
  have hl : lv_has ls 1 [(0, .ref (w (21 + ja)))] := hl
  refine lv_aload_n hx hb dX6_many_0 rfl (lv_at hl 0 rfl) ?_
  obtain ⟨j10, hj10⟩ := wG_6 (cy := cy) (N := N) (T := T) (I := I) (Q := Q) (J := J) (hM.lg hja).1 (hM.lg hja).2
  refine va_get (D := (dC, dI)) (ci := 6) (v := .int (I (w (21 + ja)) 2)) (C := RX6) (T := TX6) (N := 7) hx hb hts hi6 hown hK hP j10 hj10 rfl 2 (by decide) (hts (.fieldLink RX6 19 "TallyLogsModel$Log" "end" "I") (by decide +kernel)) (fun _ h9 => h9) rfl dX6_many_1 ?_
  refine lv_topi (fun x11 ex11 => ?_)
  have tx11 : x11.toInt = (I (w (21 + ja)) 2).toInt := congrArg Int32.toInt ex11
  refine lv_aload_n hx hb dX6_many_4 rfl (lv_at hl 0 rfl) ?_
  obtain ⟨j12, hj12⟩ := wG_6 (cy := cy) (N := N) (T := T) (I := I) (Q := Q) (J := J) (hM.lg hja).1 (hM.lg hja).2
  refine va_get (D := (dC, dI)) (ci := 6) (v := .int (I (w (21 + ja)) 1)) (C := RX6) (T := TX6) (N := 7) hx hb hts hi6 hown hK hP j12 hj12 rfl 1 (by decide) (hts (.fieldLink RX6 15 "TallyLogsModel$Log" "start" "I") (by decide +kernel)) (fun _ h9 => h9) rfl dX6_many_5 ?_
  refine lv_topi (fun x13 ex13 => ?_)
  have tx13 : x13.toInt = (I (w (21 + ja)) 1).toInt := congrArg Int32.toInt ex13
  refine lv_isub hx hb dX6_many_8 ?_
  refine lv_topi (fun v14 ev14 => ?_)
  exact W.iret (v := v14) hx hb hr (fun t ht hW => ⟨v14, rfl, by show _ = _; rw [ev14, ex11, ex13], ht⟩) (fun _ h => by cases h) dX6_many_9
set_option maxHeartbeats 4000000 in
set_option maxRecDepth 100000 in
/-- Log.from -/
theorem c_X6_from (l : Launch) (dC : Nat → ClassId) (dI : Nat → Nat → Nat) (cy : Nat → ClassId) (w : Nat → Nat) (L : List Nat) (K N : Nat → Nat) (T : Nat → Nat → Nat) (Q : Nat → Nat → Option Nat) (I J : Nat → Nat → Int32) (sz : Nat) (ja : Nat) (xo : Int32) (hM : MS w L K N T Q) (hja : ja < 20) (h0 : 0 ≤ (I (w (21 + ja)) 1).toInt) (h1 : (I (w (21 + ja)) 1).toInt ≤ (I (w (21 + ja)) 2).toInt) (h2 : (I (w (21 + ja)) 2).toInt ≤ (I (w (21 + ja)) 1).toInt + 80) : Met l yX6_from wsX6_from ({ frames := 1, cells := 0, slots := 0, locals := 24 }) (va_Pc [.ref (w (21 + ja)), .int xo] (mW dC dI cy L (wF cy K N T I Q J) sz)) (va_Qv (fun d : (Nat → Nat → Int32) × (Nat → Nat → Int32) => LW w I J d.1 d.2 ja (max (I (w (21 + ja)) 1).toInt xo.toInt) (if xo.toInt ≤ (I (w (21 + ja)) 1).toInt then (I (w (21 + ja)) 2).toInt else max (I (w (21 + ja)) 2).toInt xo.toInt)) (fun (d : (Nat → Nat → Int32) × (Nat → Nat → Int32)) t => va_P (dC, dI) vwCl (va_pl L (wF cy K N T d.1 Q d.2)) t.heap ∧ va_K (dC, dI) vwCl (mTy cy) t ∧ va_D (va_A (va_pl L (wF cy K N T I Q J)) sz) (va_pl L (wF cy K N T d.1 Q d.2))) (va_A (va_pl L (wF cy K N T I Q J)) sz)) 0 0 (va_A (va_pl L (wF cy K N T I Q J)) sz) := by
  refine Met.ofW (cc := cX6_from) (maxL := 2) (ret := none) (by decide) rfl ?_
  intro p e s m args below meth c s₁ B hml hv
  obtain ⟨rfl, hsz, ⟨hP, hK⟩, hD0⟩ := hv
  have hx := B.exec
  have hb := B.bytes
  have hr := B.returns
  have hts := atoms_spec (ws := wsX6_from) B.pre
  have hown : s.vm.findClass RX6 = some m.cls := findClass_of_methodNamed B.named
  have hlocks := B.notSynchronized
  have hi6 : ∀ w ∈ wsX60, w ∈ wsX6_from := by decide +kernel
  have hl := lv_entry ([.ref (w (21 + ja)), .int xo]) (n := 2) (Nat.le_of_ble_eq_true rfl)
  rw [lg_entry_eq]
  generalize (lg_sl ([.ref (w (21 + ja)), .int xo]) ++ List.replicate (2 - (lg_sl ([.ref (w (21 + ja)), .int xo])).length) Slot.unset).toArray = ls at hl ⊢
  have hl : lv_has ls 2 [(0, .ref (w (21 + ja))), (1, .int xo)] := hl
  subst hsz
  have hD := hD0.self (sz := s.heap.size)
  generalize hAe : va_A (va_pl L (wF cy K N T I Q J)) s.heap.size = A at hD ⊢
  have hA : ∀ q : Nat, s.heap.size ≤ q → A q := fun q h => by rw [← hAe]; exact Or.inr h
  have hS : va_S A s.heap s.heap [] := va_S.rf
  refine lv_iload_n hx hb dX6_from_0 rfl (lv_at hl 1 rfl) ?_
  refine lv_aload_n hx hb dX6_from_1 rfl (lv_at hl 0 rfl) ?_
  obtain ⟨j15, hj15⟩ := wG_6 (cy := cy) (N := N) (T := T) (I := I) (Q := Q) (J := J) (hM.lg hja).1 (hM.lg hja).2
  refine va_get (D := (dC, dI)) (ci := 6) (v := .int (I (w (21 + ja)) 1)) (C := RX6) (T := TX6) (N := 7) hx hb hts hi6 hown hK hP j15 hj15 rfl 1 (by decide) (hts (.fieldLink RX6 15 "TallyLogsModel$Log" "start" "I") (by decide +kernel)) (fun _ h9 => h9) rfl dX6_from_2 ?_
  refine lv_topi (fun x16 ex16 => ?_)
  have tx16 : x16.toInt = (I (w (21 + ja)) 1).toInt := congrArg Int32.toInt ex16
  refine lv_icmp_gt (tgt := 9) hx hb dX6_from_5 (by decide) (fun c17 => ?_) (fun c17 => ?_)
  · have kc17 : x16.toInt < xo.toInt := by have h9 := c17; rw [xk_lt] at h9; exact h9
    refine lv_iload_n hx hb dX6_from_9 rfl (lv_at hl 1 rfl) ?_
    refine lv_aload_n hx hb dX6_from_10 rfl (lv_at hl 0 rfl) ?_
    obtain ⟨j18, hj18⟩ := wG_6 (cy := cy) (N := N) (T := T) (I := I) (Q := Q) (J := J) (hM.lg hja).1 (hM.lg hja).2
    refine va_get (D := (dC, dI)) (ci := 6) (v := .int (I (w (21 + ja)) 2)) (C := RX6) (T := TX6) (N := 7) hx hb hts hi6 hown hK hP j18 hj18 rfl 2 (by decide) (hts (.fieldLink RX6 19 "TallyLogsModel$Log" "end" "I") (by decide +kernel)) (fun _ h9 => h9) rfl dX6_from_11 ?_
    refine lv_topi (fun x19 ex19 => ?_)
    have tx19 : x19.toInt = (I (w (21 + ja)) 2).toInt := congrArg Int32.toInt ex19
    refine lv_icmp_lt (tgt := 28) hx hb dX6_from_14 (by decide) (fun c20 => ?_) (fun c20 => ?_)
    · have kc20 : xo.toInt < x19.toInt := by have h9 := c20; rw [xk_lt] at h9; exact h9
      refine lv_aload_n hx hb dX6_from_28 rfl (lv_at hl 0 rfl) ?_
      obtain ⟨j21, hj21⟩ := wG_6 (cy := cy) (N := N) (T := T) (I := I) (Q := Q) (J := J) (hM.lg hja).1 (hM.lg hja).2
      refine va_get (D := (dC, dI)) (ci := 6) (v := .ref (T (w (21 + ja)) 0)) (C := RX6) (T := TX6) (N := 7) hx hb hts hi6 hown hK hP j21 hj21 rfl 0 (by decide) (hts (.fieldLink RX6 9 "TallyLogsModel$Log" "cell" "[I") (by decide +kernel)) (fun _ h9 => h9) rfl dX6_from_29 ?_
      refine W.eq (g2 := F0 m 32 ls [.ref (w (41 + ja))]) (by rw [hM.tl hja]) ?_
      refine lv_bipush (v := 8) hx hb dX6_from_32 (by decide) ?_
      refine lv_iload_n hx hb dX6_from_34 rfl (lv_at hl 1 rfl) ?_
      refine lv_aload_n hx hb dX6_from_35 rfl (lv_at hl 0 rfl) ?_
      obtain ⟨j22, hj22⟩ := wG_6 (cy := cy) (N := N) (T := T) (I := I) (Q := Q) (J := J) (hM.lg hja).1 (hM.lg hja).2
      refine va_get (D := (dC, dI)) (ci := 6) (v := .int (I (w (21 + ja)) 1)) (C := RX6) (T := TX6) (N := 7) hx hb hts hi6 hown hK hP j22 hj22 rfl 1 (by decide) (hts (.fieldLink RX6 15 "TallyLogsModel$Log" "start" "I") (by decide +kernel)) (fun _ h9 => h9) rfl dX6_from_36 ?_
      refine lv_topi (fun x23 ex23 => ?_)
      have tx23 : x23.toInt = (I (w (21 + ja)) 1).toInt := congrArg Int32.toInt ex23
      refine lv_isub hx hb dX6_from_39 ?_
      refine lv_topi (fun v24 ev24 => ?_)
      refine lv_imul hx hb dX6_from_40 ?_
      refine lv_topi (fun v25 ev25 => ?_)
      refine lv_aload_n hx hb dX6_from_41 rfl (lv_at hl 0 rfl) ?_
      obtain ⟨j26, hj26⟩ := wG_6 (cy := cy) (N := N) (T := T) (I := I) (Q := Q) (J := J) (hM.lg hja).1 (hM.lg hja).2
      refine va_get (D := (dC, dI)) (ci := 6) (v := .ref (T (w (21 + ja)) 0)) (C := RX6) (T := TX6) (N := 7) hx hb hts hi6 hown hK hP j26 hj26 rfl 0 (by decide) (hts (.fieldLink RX6 9 "TallyLogsModel$Log" "cell" "[I") (by decide +kernel)) (fun _ h9 => h9) rfl dX6_from_42 ?_
      refine W.eq (g2 := F0 m 45 ls [.ref (w (41 + ja)), .int v25, .ref (w (41 + ja))]) (by rw [hM.tl hja]) ?_
      refine lv_iconst (v := 0) hx hb dX6_from_45 (by decide) ?_
      refine lv_bipush (v := 8) hx hb dX6_from_46 (by decide) ?_
      refine lv_aload_n hx hb dX6_from_48 rfl (lv_at hl 0 rfl) ?_
      obtain ⟨j27, hj27⟩ := wG_6 (cy := cy) (N := N) (T := T) (I := I) (Q := Q) (J := J) (hM.lg hja).1 (hM.lg hja).2
      refine va_get (D := (dC, dI)) (ci := 6) (v := .int (I (w (21 + ja)) 2)) (C := RX6) (T := TX6) (N := 7) hx hb hts hi6 hown hK hP j27 hj27 rfl 2 (by decide) (hts (.fieldLink RX6 19 "TallyLogsModel$Log" "end" "I") (by decide +kernel)) (fun _ h9 => h9) rfl dX6_from_49 ?_
      refine lv_topi (fun x28 ex28 => ?_)
      have tx28 : x28.toInt = (I (w (21 + ja)) 2).toInt := congrArg Int32.toInt ex28
      refine lv_iload_n hx hb dX6_from_52 rfl (lv_at hl 1 rfl) ?_
      refine lv_isub hx hb dX6_from_53 ?_
      refine lv_topi (fun v29 ev29 => ?_)
      refine lv_imul hx hb dX6_from_54 ?_
      refine lv_topi (fun v30 ev30 => ?_)
      obtain ⟨j31, hj31⟩ := wG_20 (cy := cy) (N := N) (T := T) (I := I) (Q := Q) (J := J) (hM.ce hja).1 (hM.ce hja).2
      have tv24 : v24.toInt = xo.toInt - x23.toInt := by rw [ev24]; exact xsub (by omega) (by omega)
      have tv25 : v25.toInt = 8 * v24.toInt := by rw [ev25]; exact xmul8 (by omega) (by omega)
      have tv29 : v29.toInt = x28.toInt - xo.toInt := by rw [ev29]; exact xsub (by omega) (by omega)
      have tv30 : v30.toInt = 8 * v29.toInt := by rw [ev30]; exact xmul8 (by omega) (by omega)
      have hc32 : v25.toNatClampNeg = v25.toInt.toNat := rfl
      have hc33 : (0 : Int32).toNatClampNeg = 0 := by decide
      have hc34 : v30.toNatClampNeg = v30.toInt.toNat := rfl
      have hDo := hD
      refine va_copyi (n := v30) (dp := 0) (sp := v25) hx hb (by rw [hml]; exact hl.1.symm) hown (hts (.methodLink RX6 22 arraycopyName) (by decide +kernel)) (hts (.native arraycopyName) (by decide +kernel)) (hts (.static arraycopyName) (by decide +kernel)) (hts (.initialized "java/lang/System") (by decide +kernel)) hK hP hD hS j31 j31 1 1 hj31 hj31 rfl rfl rfl (by rw [xk_lt, xk_0]; omega) (by decide) (by rw [xk_lt, xk_0]; omega) (by rw [hM.nc hja, hc32, hc34]; omega) (by rw [hM.nc hja, hc33, hc34]; omega) (fun _ _ => rfl) (Nat.le_of_ble_eq_true rfl) (Nat.le_of_ble_eq_true rfl) dX6_from_55 (fun H locs hP hD hS => ?_)
      have hP := Eq.mp (congrArg (fun w => va_P (dC, dI) vwCl w H) (wR_20 hDo (hM.ce hja).1 (hM.ce hja).2 hj31)) hP
      obtain ⟨J35, eJ35⟩ : ∃ z, z = va_up J (w (41 + ja)) (va_cpy (J (w (41 + ja))) (J (w (41 + ja))) v25.toNatClampNeg (0 : Int32).toNatClampNeg v30.toNatClampNeg) := ⟨_, rfl⟩
      rw [← eJ35] at hP
      have hD : va_D A (va_pl L (wF cy K N T I Q J35)) := pD hDo
      refine lv_aload_n hx hb dX6_from_58 rfl (lv_at hl 0 rfl) ?_
      refine lv_iload_n hx hb dX6_from_59 rfl (lv_at hl 1 rfl) ?_
      obtain ⟨j36, hj36⟩ := wG_6 (cy := cy) (N := N) (T := T) (I := I) (Q := Q) (J := J35) (hM.lg hja).1 (hM.lg hja).2
      have hDo := hD
      refine va_put (D := (dC, dI)) (ci := 6) (v := .int xo) (ty := .int) (C := RX6) (T := TX6) (N := 7) hx hb hts hi6 tyX6 tyX6_ok nmX6 hown hK hP hD hS j36 hj36 rfl 1 (by decide) (hts (.fieldLink RX6 15 "TallyLogsModel$Log" "start" "I") (by decide +kernel)) (fun _ h9 => h9) rfl (by decide +kernel) rfl rfl (Nat.le_of_ble_eq_true rfl) dX6_from_60 (fun H locs hP hD hS => ?_)
      have hP := Eq.mp (congrArg (fun w => va_P (dC, dI) vwCl w H) (wP_6_1 (x := xo) hDo (hM.lg hja).1 (hM.lg hja).2 hj36)) hP
      obtain ⟨I37, eI37⟩ : ∃ z, z = p2 I (w (21 + ja)) 1 xo := ⟨_, rfl⟩
      rw [← eI37] at hP
      have hD : va_D A (va_pl L (wF cy K N T I37 Q J35)) := pD hDo
      exact W.vret hx hb hr (fun t ht hW => ⟨⟨(I37, J35), rfl, ⟨(fun q f h => by show I37 q f = I q f; rw [eI37, p2_ne _ _ (fun z => h ⟨z.1, Or.inl z.2⟩)]), (fun q h => by show J35 q = J q; rw [eJ35, va_up_ne _ _ h]), (by show (I37 (w (21 + ja)) 1).toInt = _; rw [eI37, p2_at]; try omega), (by show (I37 (w (21 + ja)) 2).toInt = _; rw [eI37, p2_ne _ _ (fun q => absurd q.2 (by decide))]; try omega)⟩, by rw [ht]; exact hP, va_K.moved hW.alike hK, hD⟩, hS.F ht⟩) hS.2.2 dX6_from_63
    · have kc20 : ¬ (xo.toInt < x19.toInt) := by have h9 := c20; rw [xk_lt] at h9; exact h9
      refine lv_aload_n hx hb dX6_from_17 rfl (lv_at hl 0 rfl) ?_
      refine lv_iload_n hx hb dX6_from_18 rfl (lv_at hl 1 rfl) ?_
      obtain ⟨j38, hj38⟩ := wG_6 (cy := cy) (N := N) (T := T) (I := I) (Q := Q) (J := J) (hM.lg hja).1 (hM.lg hja).2
      have hDo := hD
      refine va_put (D := (dC, dI)) (ci := 6) (v := .int xo) (ty := .int) (C := RX6) (T := TX6) (N := 7) hx hb hts hi6 tyX6 tyX6_ok nmX6 hown hK hP hD hS j38 hj38 rfl 1 (by decide) (hts (.fieldLink RX6 15 "TallyLogsModel$Log" "start" "I") (by decide +kernel)) (fun _ h9 => h9) rfl (by decide +kernel) rfl rfl (Nat.le_of_ble_eq_true rfl) dX6_from_19 (fun H locs hP hD hS => ?_)
      have hP := Eq.mp (congrArg (fun w => va_P (dC, dI) vwCl w H) (wP_6_1 (x := xo) hDo (hM.lg hja).1 (hM.lg hja).2 hj38)) hP
      obtain ⟨I39, eI39⟩ : ∃ z, z = p2 I (w (21 + ja)) 1 xo := ⟨_, rfl⟩
      rw [← eI39] at hP
      have hD : va_D A (va_pl L (wF cy K N T I39 Q J)) := pD hDo
      refine lv_aload_n hx hb dX6_from_22 rfl (lv_at hl 0 rfl) ?_
      refine lv_iload_n hx hb dX6_from_23 rfl (lv_at hl 1 rfl) ?_
      obtain ⟨j40, hj40⟩ := wG_6 (cy := cy) (N := N) (T := T) (I := I39) (Q := Q) (J := J) (hM.lg hja).1 (hM.lg hja).2
      have hDo := hD
      refine va_put (D := (dC, dI)) (ci := 6) (v := .int xo) (ty := .int) (C := RX6) (T := TX6) (N := 7) hx hb hts hi6 tyX6 tyX6_ok nmX6 hown hK hP hD hS j40 hj40 rfl 2 (by decide) (hts (.fieldLink RX6 19 "TallyLogsModel$Log" "end" "I") (by decide +kernel)) (fun _ h9 => h9) rfl (by decide +kernel) rfl rfl (Nat.le_of_ble_eq_true rfl) dX6_from_24 (fun H locs hP hD hS => ?_)
      have hP := Eq.mp (congrArg (fun w => va_P (dC, dI) vwCl w H) (wP_6_2 (x := xo) hDo (hM.lg hja).1 (hM.lg hja).2 hj40)) hP
      obtain ⟨I41, eI41⟩ : ∃ z, z = p2 I39 (w (21 + ja)) 2 xo := ⟨_, rfl⟩
      rw [← eI41] at hP
      have hD : va_D A (va_pl L (wF cy K N T I41 Q J)) := pD hDo
      exact W.vret hx hb hr (fun t ht hW => ⟨⟨(I41, J), rfl, ⟨(fun q f h => by show I41 q f = I q f; rw [eI41, p2_ne _ _ (fun z => h ⟨z.1, Or.inr z.2⟩), eI39, p2_ne _ _ (fun z => h ⟨z.1, Or.inl z.2⟩)]), (fun _ _ => rfl), (by show (I41 (w (21 + ja)) 1).toInt = _; rw [eI41, p2_ne _ _ (fun q => absurd q.2 (by decide)), eI39, p2_at]; try omega), (by show (I41 (w (21 + ja)) 2).toInt = _; rw [eI41, p2_at]; try omega)⟩, by rw [ht]; exact hP, va_K.moved hW.alike hK, hD⟩, hS.F ht⟩) hS.2.2 dX6_from_27
  · have kc17 : ¬ (x16.toInt < xo.toInt) := by have h9 := c17; rw [xk_lt] at h9; exact h9
    exact W.vret hx hb hr (fun t ht hW => ⟨⟨(I, J), rfl, ⟨(fun _ _ _ => rfl), (fun _ _ => rfl), (by show (I (w (21 + ja)) 1).toInt = _; try omega), (by show (I (w (21 + ja)) 2).toInt = _; try omega)⟩, by rw [ht]; exact hP, va_K.moved hW.alike hK, hD⟩, hS.F ht⟩) hS.2.2 dX6_from_8
set_option maxHeartbeats 4000000 in
set_option maxRecDepth 100000 in
/-- Log.add -/
theorem c_X6_add (l : Launch) (dC : Nat → ClassId) (dI : Nat → Nat → Nat) (cy : Nat → ClassId) (w : Nat → Nat) (L : List Nat) (K N : Nat → Nat) (T : Nat → Nat → Nat) (Q : Nat → Nat → Option Nat) (I J : Nat → Nat → Int32) (sz : Nat) (ja : Nat) (x1 : Int32) (x2 : Int32) (x3 : Int32) (x4 : Int32) (x5 : Int32) (x6 : Int32) (x7 : Int32) (x8 : Int32) (hM : MS w L K N T Q) (hja : ja < 20) (h1 : (I (w (21 + ja)) 1).toInt ≤ (I (w (21 + ja)) 2).toInt) (h2 : (I (w (21 + ja)) 2).toInt < (I (w (21 + ja)) 1).toInt + 80) (h3 : (I (w (21 + ja)) 2).toInt < 2000) (h0 : 0 ≤ (I (w (21 + ja)) 1).toInt) : Met l yX6_add wsX6_add ({ frames := 1, cells := 0, slots := 0, locals := 22 }) (va_Pc [.ref (w (21 + ja)), .int x1, .int x2, .int x3, .int x4, .int x5, .int x6, .int x7, .int x8] (mW dC dI cy L (wF cy K N T I Q J) sz)) (va_Qv (fun d : (Nat → Nat → Int32) × (Nat → Nat → Int32) => LW w I J d.1 d.2 ja (I (w (21 + ja)) 1).toInt ((I (w (21 + ja)) 2).toInt + 1)) (fun (d : (Nat → Nat → Int32) × (Nat → Nat → Int32)) t => va_P (dC, dI) vwCl (va_pl L (wF cy K N T d.1 Q d.2)) t.heap ∧ va_K (dC, dI) vwCl (mTy cy) t ∧ va_D (va_A (va_pl L (wF cy K N T I Q J)) sz) (va_pl L (wF cy K N T d.1 Q d.2))) (va_A (va_pl L (wF cy K N T I Q J)) sz)) 0 0 (va_A (va_pl L (wF cy K N T I Q J)) sz) := by
  refine Met.ofW (cc := cX6_add) (maxL := 10) (ret := none) (by decide) rfl ?_
  intro p e s m args below meth c s₁ B hml hv
  obtain ⟨rfl, hsz, ⟨hP, hK⟩, hD0⟩ := hv
  have hx := B.exec
  have hb := B.bytes
  have hr := B.returns
  have hts := atoms_spec (ws := wsX6_add) B.pre
  have hown : s.vm.findClass RX6 = some m.cls := findClass_of_methodNamed B.named
  have hlocks := B.notSynchronized
  have hi6 : ∀ w ∈ wsX60, w ∈ wsX6_add := by decide +kernel
  have hl := lv_entry ([.ref (w (21 + ja)), .int x1, .int x2, .int x3, .int x4, .int x5, .int x6, .int x7, .int x8]) (n := 10) (Nat.le_of_ble_eq_true rfl)
  rw [lg_entry_eq]
  generalize (lg_sl ([.ref (w (21 + ja)), .int x1, .int x2, .int x3, .int x4, .int x5, .int x6, .int x7, .int x8]) ++ List.replicate (10 - (lg_sl ([.ref (w (21 + ja)), .int x1, .int x2, .int x3, .int x4, .int x5, .int x6, .int x7, .int x8])).length) Slot.unset).toArray = ls at hl ⊢
  have hl : lv_has ls 10 [(0, .ref (w (21 + ja))), (1, .int x1), (2, .int x2), (3, .int x3), (4, .int x4), (5, .int x5), (6, .int x6), (7, .int x7), (8, .int x8)] := hl
  subst hsz
  have hD := hD0.self (sz := s.heap.size)
  generalize hAe : va_A (va_pl L (wF cy K N T I Q J)) s.heap.size = A at hD ⊢
  have hA : ∀ q : Nat, s.heap.size ≤ q → A q := fun q h => by rw [← hAe]; exact Or.inr h
  have hS : va_S A s.heap s.heap [] := va_S.rf
  refine lv_bipush (v := 8) hx hb dX6_add_0 (by decide) ?_
  refine lv_aload_n hx hb dX6_add_2 rfl (lv_at hl 0 rfl) ?_
  obtain ⟨j43, hj43⟩ := wG_6 (cy := cy) (N := N) (T := T) (I := I) (Q := Q) (J := J) (hM.lg hja).1 (hM.lg hja).2
  refine vp_callSi (W.runV (As := []) (rest := [.int 8]) ⟨hx, hb, hml, hown, hts⟩ (c_X6_many l dC dI cy w L K N T Q I J ja hM hja) (cwV 0 hts gX6_add_X6_many rfl rfl rfl (by decide +kernel) ⟨Nat.le_of_ble_eq_true rfl, Nat.le_of_ble_eq_true rfl⟩) ⟨mb_blind, va_recv hK hP (ci := 6) (q0 := j43) rfl hj43, fun U hU hW => ⟨rfl, mb_pre hP hK hU hW⟩⟩ rfl rfl hl.1 rfl (lv_room (Nat.le_of_ble_eq_true rfl)) dX6_add_3 ⟨Nat.le_of_ble_eq_true rfl, Nat.le_of_ble_eq_true rfl⟩) (fun r42 hr42 => ?_)
  refine lv_imul hx hb dX6_add_6 ?_
  refine lv_topi (fun v44 ev44 => ?_)
  have tr42 : r42.toInt = (I (w (21 + ja)) 2).toInt - (I (w (21 + ja)) 1).toInt := by rw [hr42]; exact xsub (by omega) (by omega)
  have tv44 : v44.toInt = 8 * r42.toInt := by rw [ev44]; exact xmul8 (by omega) (by omega)
  refine lv_istore (lv' := [(9, .int v44), (0, .ref (w (21 + ja))), (1, .int x1), (2, .int x2), (3, .int x3), (4, .int x4), (5, .int x5), (6, .int x6), (7, .int x7), (8, .int x8)]) hx hb dX6_add_7 hl (by decide) rfl (fun ls hl => ?_)
  refine lv_aload_n hx hb dX6_add_9 rfl (lv_at hl 1 rfl) ?_
  obtain ⟨j45, hj45⟩ := wG_6 (cy := cy) (N := N) (T := T) (I := I) (Q := Q) (J := J) (hM.lg hja).1 (hM.lg hja).2
  refine va_get (D := (dC, dI)) (ci := 6) (v := .ref (T (w (21 + ja)) 0)) (C := RX6) (T := TX6) (N := 7) hx hb hts hi6 hown hK hP j45 hj45 rfl 0 (by decide) (hts (.fieldLink RX6 9 "TallyLogsModel$Log" "cell" "[I") (by decide +kernel)) (fun _ h9 => h9) rfl dX6_add_10 ?_
  refine W.eq (g2 := F0 m 13 ls [.ref (w (41 + ja))]) (by rw [hM.tl hja]) ?_
  refine lv_iload hx hb dX6_add_13 (lv_at hl 0 rfl) ?_
  have hin46 : vp_in v44 640 := xin_of (by omega) (by omega)
  refine lv_iload_n hx hb dX6_add_15 rfl (lv_at hl 2 rfl) ?_
  obtain ⟨j47, hj47⟩ := wG_20 (cy := cy) (N := N) (T := T) (I := I) (Q := Q) (J := J) (hM.ce hja).1 (hM.ce hja).2
  have hDo := hD
  refine va_iast (x := x1) hx hb hK hP hD hS j47 1 hj47 rfl (hM.inC hja hin46) dX6_add_16 (fun H locs hP hD hS => ?_)
  have hP := Eq.mp (congrArg (fun w => va_P (dC, dI) vwCl w H) (wS_20 hDo (hM.ce hja).1 (hM.ce hja).2 hj47)) hP
  obtain ⟨J48, eJ48⟩ : ∃ z, z = va_up J (w (41 + ja)) (upd (J (w (41 + ja))) v44.toNatClampNeg x1) := ⟨_, rfl⟩
  rw [← eJ48] at hP
  have hD : va_D A (va_pl L (wF cy K N T I Q J48)) := pD hDo
  refine lv_aload_n hx hb dX6_add_17 rfl (lv_at hl 1 rfl) ?_
  obtain ⟨j49, hj49⟩ := wG_6 (cy := cy) (N := N) (T := T) (I := I) (Q := Q) (J := J48) (hM.lg hja).1 (hM.lg hja).2
  refine va_get (D := (dC, dI)) (ci := 6) (v := .ref (T (w (21 + ja)) 0)) (C := RX6) (T := TX6) (N := 7) hx hb hts hi6 hown hK hP j49 hj49 rfl 0 (by decide) (hts (.fieldLink RX6 9 "TallyLogsModel$Log" "cell" "[I") (by decide +kernel)) (fun _ h9 => h9) rfl dX6_add_18 ?_
  refine W.eq (g2 := F0 m 21 ls [.ref (w (41 + ja))]) (by rw [hM.tl hja]) ?_
  refine lv_iload hx hb dX6_add_21 (lv_at hl 0 rfl) ?_
  refine lv_iconst (v := 1) hx hb dX6_add_23 (by decide) ?_
  refine lv_iadd hx hb dX6_add_24 ?_
  refine lv_topi (fun v50 ev50 => ?_)
  have tv50 : v50.toInt = v44.toInt + 1 := by rw [ev50]; exact xaddk (by decide) (by omega) (by omega)
  have hin51 : vp_in v50 640 := xin_of (by omega) (by omega)
  refine lv_iload_n hx hb dX6_add_25 rfl (lv_at hl 3 rfl) ?_
  obtain ⟨j52, hj52⟩ := wG_20 (cy := cy) (N := N) (T := T) (I := I) (Q := Q) (J := J48) (hM.ce hja).1 (hM.ce hja).2
  have hDo := hD
  refine va_iast (x := x2) hx hb hK hP hD hS j52 1 hj52 rfl (hM.inC hja hin51) dX6_add_26 (fun H locs hP hD hS => ?_)
  have hP := Eq.mp (congrArg (fun w => va_P (dC, dI) vwCl w H) (wS_20 hDo (hM.ce hja).1 (hM.ce hja).2 hj52)) hP
  obtain ⟨J53, eJ53⟩ : ∃ z, z = va_up J48 (w (41 + ja)) (upd (J48 (w (41 + ja))) v50.toNatClampNeg x2) := ⟨_, rfl⟩
  rw [← eJ53] at hP
  have hD : va_D A (va_pl L (wF cy K N T I Q J53)) := pD hDo
  refine lv_aload_n hx hb dX6_add_27 rfl (lv_at hl 1 rfl) ?_
  obtain ⟨j54, hj54⟩ := wG_6 (cy := cy) (N := N) (T := T) (I := I) (Q := Q) (J := J53) (hM.lg hja).1 (hM.lg hja).2
  refine va_get (D := (dC, dI)) (ci := 6) (v := .ref (T (w (21 + ja)) 0)) (C := RX6) (T := TX6) (N := 7) hx hb hts hi6 hown hK hP j54 hj54 rfl 0 (by decide) (hts (.fieldLink RX6 9 "TallyLogsModel$Log" "cell" "[I") (by decide +kernel)) (fun _ h9 => h9) rfl dX6_add_28 ?_
  refine W.eq (g2 := F0 m 31 ls [.ref (w (41 + ja))]) (by rw [hM.tl hja]) ?_
  refine lv_iload hx hb dX6_add_31 (lv_at hl 0 rfl) ?_
  refine lv_iconst (v := 2) hx hb dX6_add_33 (by decide) ?_
  refine lv_iadd hx hb dX6_add_34 ?_
  refine lv_topi (fun v55 ev55 => ?_)
  have tv55 : v55.toInt = v44.toInt + 2 := by rw [ev55]; exact xaddk (by decide) (by omega) (by omega)
  have hin56 : vp_in v55 640 := xin_of (by omega) (by omega)
  refine lv_iload_n hx hb dX6_add_35 rfl (lv_at hl 4 rfl) ?_
  obtain ⟨j57, hj57⟩ := wG_20 (cy := cy) (N := N) (T := T) (I := I) (Q := Q) (J := J53) (hM.ce hja).1 (hM.ce hja).2
  have hDo := hD
  refine va_iast (x := x3) hx hb hK hP hD hS j57 1 hj57 rfl (hM.inC hja hin56) dX6_add_36 (fun H locs hP hD hS => ?_)
  have hP := Eq.mp (congrArg (fun w => va_P (dC, dI) vwCl w H) (wS_20 hDo (hM.ce hja).1 (hM.ce hja).2 hj57)) hP
  obtain ⟨J58, eJ58⟩ : ∃ z, z = va_up J53 (w (41 + ja)) (upd (J53 (w (41 + ja))) v55.toNatClampNeg x3) := ⟨_, rfl⟩
  rw [← eJ58] at hP
  have hD : va_D A (va_pl L (wF cy K N T I Q J58)) := pD hDo
  refine lv_aload_n hx hb dX6_add_37 rfl (lv_at hl 1 rfl) ?_
  obtain ⟨j59, hj59⟩ := wG_6 (cy := cy) (N := N) (T := T) (I := I) (Q := Q) (J := J58) (hM.lg hja).1 (hM.lg hja).2
  refine va_get (D := (dC, dI)) (ci := 6) (v := .ref (T (w (21 + ja)) 0)) (C := RX6) (T := TX6) (N := 7) hx hb hts hi6 hown hK hP j59 hj59 rfl 0 (by decide) (hts (.fieldLink RX6 9 "TallyLogsModel$Log" "cell" "[I") (by decide +kernel)) (fun _ h9 => h9) rfl dX6_add_38 ?_
  refine W.eq (g2 := F0 m 41 ls [.ref (w (41 + ja))]) (by rw [hM.tl hja]) ?_
  refine lv_iload hx hb dX6_add_41 (lv_at hl 0 rfl) ?_
  refine lv_iconst (v := 3) hx hb dX6_add_43 (by decide) ?_
  refine lv_iadd hx hb dX6_add_44 ?_
  refine lv_topi (fun v60 ev60 => ?_)
  have tv60 : v60.toInt = v44.toInt + 3 := by rw [ev60]; exact xaddk (by decide) (by omega) (by omega)
  have hin61 : vp_in v60 640 := xin_of (by omega) (by omega)
  refine lv_iload hx hb dX6_add_45 (lv_at hl 5 rfl) ?_
  obtain ⟨j62, hj62⟩ := wG_20 (cy := cy) (N := N) (T := T) (I := I) (Q := Q) (J := J58) (hM.ce hja).1 (hM.ce hja).2
  have hDo := hD
  refine va_iast (x := x4) hx hb hK hP hD hS j62 1 hj62 rfl (hM.inC hja hin61) dX6_add_47 (fun H locs hP hD hS => ?_)
  have hP := Eq.mp (congrArg (fun w => va_P (dC, dI) vwCl w H) (wS_20 hDo (hM.ce hja).1 (hM.ce hja).2 hj62)) hP
  obtain ⟨J63, eJ63⟩ : ∃ z, z = va_up J58 (w (41 + ja)) (upd (J58 (w (41 + ja))) v60.toNatClampNeg x4) := ⟨_, rfl⟩
  rw [← eJ63] at hP
  have hD : va_D A (va_pl L (wF cy K N T I Q J63)) := pD hDo
  refine lv_aload_n hx hb dX6_add_48 rfl (lv_at hl 1 rfl) ?_
  obtain ⟨j64, hj64⟩ := wG_6 (cy := cy) (N := N) (T := T) (I := I) (Q := Q) (J := J63) (hM.lg hja).1 (hM.lg hja).2
  refine va_get (D := (dC, dI)) (ci := 6) (v := .ref (T (w (21 + ja)) 0)) (C := RX6) (T := TX6) (N := 7) hx hb hts hi6 hown hK hP j64 hj64 rfl 0 (by decide) (hts (.fieldLink RX6 9 "TallyLogsModel$Log" "cell" "[I") (by decide +kernel)) (fun _ h9 => h9) rfl dX6_add_49 ?_
  refine W.eq (g2 := F0 m 52 ls [.ref (w (41 + ja))]) (by rw [hM.tl hja]) ?_
  refine lv_iload hx hb dX6_add_52 (lv_at hl 0 rfl) ?_
  refine lv_iconst (v := 4) hx hb dX6_add_54 (by decide) ?_
  refine lv_iadd hx hb dX6_add_55 ?_
  refine lv_topi (fun v65 ev65 => ?_)
  have tv65 : v65.toInt = v44.toInt + 4 := by rw [ev65]; exact xaddk (by decide) (by omega) (by omega)
  have hin66 : vp_in v65 640 := xin_of (by omega) (by omega)
  refine lv_iload hx hb dX6_add_56 (lv_at hl 6 rfl) ?_
  obtain ⟨j67, hj67⟩ := wG_20 (cy := cy) (N := N) (T := T) (I := I) (Q := Q) (J := J63) (hM.ce hja).1 (hM.ce hja).2
  have hDo := hD
  refine va_iast (x := x5) hx hb hK hP hD hS j67 1 hj67 rfl (hM.inC hja hin66) dX6_add_58 (fun H locs hP hD hS => ?_)
  have hP := Eq.mp (congrArg (fun w => va_P (dC, dI) vwCl w H) (wS_20 hDo (hM.ce hja).1 (hM.ce hja).2 hj67)) hP
  obtain ⟨J68, eJ68⟩ : ∃ z, z = va_up J63 (w (41 + ja)) (upd (J63 (w (41 + ja))) v65.toNatClampNeg x5) := ⟨_, rfl⟩
  rw [← eJ68] at hP
  have hD : va_D A (va_pl L (wF cy K N T I Q J68)) := pD hDo
  refine lv_aload_n hx hb dX6_add_59 rfl (lv_at hl 1 rfl) ?_
  obtain ⟨j69, hj69⟩ := wG_6 (cy := cy) (N := N) (T := T) (I := I) (Q := Q) (J := J68) (hM.lg hja).1 (hM.lg hja).2
  refine va_get (D := (dC, dI)) (ci := 6) (v := .ref (T (w (21 + ja)) 0)) (C := RX6) (T := TX6) (N := 7) hx hb hts hi6 hown hK hP j69 hj69 rfl 0 (by decide) (hts (.fieldLink RX6 9 "TallyLogsModel$Log" "cell" "[I") (by decide +kernel)) (fun _ h9 => h9) rfl dX6_add_60 ?_
  refine W.eq (g2 := F0 m 63 ls [.ref (w (41 + ja))]) (by rw [hM.tl hja]) ?_
  refine lv_iload hx hb dX6_add_63 (lv_at hl 0 rfl) ?_
  refine lv_iconst (v := 5) hx hb dX6_add_65 (by decide) ?_
  refine lv_iadd hx hb dX6_add_66 ?_
  refine lv_topi (fun v70 ev70 => ?_)
  have tv70 : v70.toInt = v44.toInt + 5 := by rw [ev70]; exact xaddk (by decide) (by omega) (by omega)
  have hin71 : vp_in v70 640 := xin_of (by omega) (by omega)
  refine lv_iload hx hb dX6_add_67 (lv_at hl 7 rfl) ?_
  obtain ⟨j72, hj72⟩ := wG_20 (cy := cy) (N := N) (T := T) (I := I) (Q := Q) (J := J68) (hM.ce hja).1 (hM.ce hja).2
  have hDo := hD
  refine va_iast (x := x6) hx hb hK hP hD hS j72 1 hj72 rfl (hM.inC hja hin71) dX6_add_69 (fun H locs hP hD hS => ?_)
  have hP := Eq.mp (congrArg (fun w => va_P (dC, dI) vwCl w H) (wS_20 hDo (hM.ce hja).1 (hM.ce hja).2 hj72)) hP
  obtain ⟨J73, eJ73⟩ : ∃ z, z = va_up J68 (w (41 + ja)) (upd (J68 (w (41 + ja))) v70.toNatClampNeg x6) := ⟨_, rfl⟩
  rw [← eJ73] at hP
  have hD : va_D A (va_pl L (wF cy K N T I Q J73)) := pD hDo
  refine lv_aload_n hx hb dX6_add_70 rfl (lv_at hl 1 rfl) ?_
  obtain ⟨j74, hj74⟩ := wG_6 (cy := cy) (N := N) (T := T) (I := I) (Q := Q) (J := J73) (hM.lg hja).1 (hM.lg hja).2
  refine va_get (D := (dC, dI)) (ci := 6) (v := .ref (T (w (21 + ja)) 0)) (C := RX6) (T := TX6) (N := 7) hx hb hts hi6 hown hK hP j74 hj74 rfl 0 (by decide) (hts (.fieldLink RX6 9 "TallyLogsModel$Log" "cell" "[I") (by decide +kernel)) (fun _ h9 => h9) rfl dX6_add_71 ?_
  refine W.eq (g2 := F0 m 74 ls [.ref (w (41 + ja))]) (by rw [hM.tl hja]) ?_
  refine lv_iload hx hb dX6_add_74 (lv_at hl 0 rfl) ?_
  refine lv_bipush (v := 6) hx hb dX6_add_76 (by decide) ?_
  refine lv_iadd hx hb dX6_add_78 ?_
  refine lv_topi (fun v75 ev75 => ?_)
  have tv75 : v75.toInt = v44.toInt + 6 := by rw [ev75]; exact xaddk (by decide) (by omega) (by omega)
  have hin76 : vp_in v75 640 := xin_of (by omega) (by omega)
  refine lv_iload hx hb dX6_add_79 (lv_at hl 8 rfl) ?_
  obtain ⟨j77, hj77⟩ := wG_20 (cy := cy) (N := N) (T := T) (I := I) (Q := Q) (J := J73) (hM.ce hja).1 (hM.ce hja).2
  have hDo := hD
  refine va_iast (x := x7) hx hb hK hP hD hS j77 1 hj77 rfl (hM.inC hja hin76) dX6_add_81 (fun H locs hP hD hS => ?_)
  have hP := Eq.mp (congrArg (fun w => va_P (dC, dI) vwCl w H) (wS_20 hDo (hM.ce hja).1 (hM.ce hja).2 hj77)) hP
  obtain ⟨J78, eJ78⟩ : ∃ z, z = va_up J73 (w (41 + ja)) (upd (J73 (w (41 + ja))) v75.toNatClampNeg x7) := ⟨_, rfl⟩
  rw [← eJ78] at hP
  have hD : va_D A (va_pl L (wF cy K N T I Q J78)) := pD hDo
  refine lv_aload_n hx hb dX6_add_82 rfl (lv_at hl 1 rfl) ?_
  obtain ⟨j79, hj79⟩ := wG_6 (cy := cy) (N := N) (T := T) (I := I) (Q := Q) (J := J78) (hM.lg hja).1 (hM.lg hja).2
  refine va_get (D := (dC, dI)) (ci := 6) (v := .ref (T (w (21 + ja)) 0)) (C := RX6) (T := TX6) (N := 7) hx hb hts hi6 hown hK hP j79 hj79 rfl 0 (by decide) (hts (.fieldLink RX6 9 "TallyLogsModel$Log" "cell" "[I") (by decide +kernel)) (fun _ h9 => h9) rfl dX6_add_83 ?_
  refine W.eq (g2 := F0 m 86 ls [.ref (w (41 + ja))]) (by rw [hM.tl hja]) ?_
  refine lv_iload hx hb dX6_add_86 (lv_at hl 0 rfl) ?_
  refine lv_bipush (v := 7) hx hb dX6_add_88 (by decide) ?_
  refine lv_iadd hx hb dX6_add_90 ?_
  refine lv_topi (fun v80 ev80 => ?_)
  have tv80 : v80.toInt = v44.toInt + 7 := by rw [ev80]; exact xaddk (by decide) (by omega) (by omega)
  have hin81 : vp_in v80 640 := xin_of (by omega) (by omega)
  refine lv_iload hx hb dX6_add_91 (lv_at hl 9 rfl) ?_
  obtain ⟨j82, hj82⟩ := wG_20 (cy := cy) (N := N) (T := T) (I := I) (Q := Q) (J := J78) (hM.ce hja).1 (hM.ce hja).2
  have hDo := hD
  refine va_iast (x := x8) hx hb hK hP hD hS j82 1 hj82 rfl (hM.inC hja hin81) dX6_add_93 (fun H locs hP hD hS => ?_)
  have hP := Eq.mp (congrArg (fun w => va_P (dC, dI) vwCl w H) (wS_20 hDo (hM.ce hja).1 (hM.ce hja).2 hj82)) hP
  obtain ⟨J83, eJ83⟩ : ∃ z, z = va_up J78 (w (41 + ja)) (upd (J78 (w (41 + ja))) v80.toNatClampNeg x8) := ⟨_, rfl⟩
  rw [← eJ83] at hP
  have hD : va_D A (va_pl L (wF cy K N T I Q J83)) := pD hDo
  refine lv_aload_n hx hb dX6_add_94 rfl (lv_at hl 1 rfl) ?_
  refine lv_dup hx hb dX6_add_95 rfl ?_
  obtain ⟨j84, hj84⟩ := wG_6 (cy := cy) (N := N) (T := T) (I := I) (Q := Q) (J := J83) (hM.lg hja).1 (hM.lg hja).2
  refine va_get (D := (dC, dI)) (ci := 6) (v := .int (I (w (21 + ja)) 2)) (C := RX6) (T := TX6) (N := 7) hx hb hts hi6 hown hK hP j84 hj84 rfl 2 (by decide) (hts (.fieldLink RX6 19 "TallyLogsModel$Log" "end" "I") (by decide +kernel)) (fun _ h9 => h9) rfl dX6_add_96 ?_
  refine lv_topi (fun x85 ex85 => ?_)
  have tx85 : x85.toInt = (I (w (21 + ja)) 2).toInt := congrArg Int32.toInt ex85
  refine lv_iconst (v := 1) hx hb dX6_add_99 (by decide) ?_
  refine lv_iadd hx hb dX6_add_100 ?_
  refine lv_topi (fun v86 ev86 => ?_)
  have tv86 : v86.toInt = x85.toInt + 1 := by rw [ev86]; exact xaddk (by decide) (by omega) (by omega)
  obtain ⟨j87, hj87⟩ := wG_6 (cy := cy) (N := N) (T := T) (I := I) (Q := Q) (J := J83) (hM.lg hja).1 (hM.lg hja).2
  have hDo := hD
  refine va_put (D := (dC, dI)) (ci := 6) (v := .int v86) (ty := .int) (C := RX6) (T := TX6) (N := 7) hx hb hts hi6 tyX6 tyX6_ok nmX6 hown hK hP hD hS j87 hj87 rfl 2 (by decide) (hts (.fieldLink RX6 19 "TallyLogsModel$Log" "end" "I") (by decide +kernel)) (fun _ h9 => h9) rfl (by decide +kernel) rfl rfl (Nat.le_of_ble_eq_true rfl) dX6_add_101 (fun H locs hP hD hS => ?_)
  have hP := Eq.mp (congrArg (fun w => va_P (dC, dI) vwCl w H) (wP_6_2 (x := v86) hDo (hM.lg hja).1 (hM.lg hja).2 hj87)) hP
  obtain ⟨I88, eI88⟩ : ∃ z, z = p2 I (w (21 + ja)) 2 v86 := ⟨_, rfl⟩
  rw [← eI88] at hP
  have hD : va_D A (va_pl L (wF cy K N T I88 Q J83)) := pD hDo
  exact W.vret hx hb hr (fun t ht hW => ⟨⟨(I88, J83), rfl, ⟨(fun q f h => by show I88 q f = I q f; rw [eI88, p2_ne _ _ (fun z => h ⟨z.1, Or.inr z.2⟩)]), (fun q h => by show J83 q = J q; rw [eJ83, va_up_ne _ _ h, eJ78, va_up_ne _ _ h, eJ73, va_up_ne _ _ h, eJ68, va_up_ne _ _ h, eJ63, va_up_ne _ _ h, eJ58, va_up_ne _ _ h, eJ53, va_up_ne _ _ h, eJ48, va_up_ne _ _ h]), (by show (I88 (w (21 + ja)) 1).toInt = _; rw [eI88, p2_ne _ _ (fun q => absurd q.2 (by decide))]; try omega), (by show (I88 (w (21 + ja)) 2).toInt = _; rw [eI88, p2_at]; try omega)⟩, by rw [ht]; exact hP, va_K.moved hW.alike hK, hD⟩, hS.F ht⟩) hS.2.2 dX6_add_104
set_option maxHeartbeats 4000000 in
set_option maxRecDepth 100000 in
/-- Log.take -/
theorem c_X6_take (l : Launch) (dC : Nat → ClassId) (dI : Nat → Nat → Nat) (cy : Nat → ClassId) (w : Nat → Nat) (L : List Nat) (K N : Nat → Nat) (T : Nat → Nat → Nat) (Q : Nat → Nat → Option Nat) (I J : Nat → Nat → Int32) (sz : Nat) (ja : Nat) (jrb : Nat) (xo : Int32) (hM : MS w L K N T Q) (hja : ja < 20) (hjrb : jrb < 20) (h1 : (I (w (21 + ja)) 1).toInt ≤ (I (w (21 + ja)) 2).toInt) (h2 : (I (w (21 + ja)) 2).toInt < (I (w (21 + ja)) 1).toInt + 80) (h3 : (I (w (21 + ja)) 2).toInt < 2000) (h0 : 0 ≤ (I (w (21 + ja)) 1).toInt) (h4 : (I (w (21 + jrb)) 1).toInt ≤ xo.toInt) (h5 : xo.toInt < (I (w (21 + jrb)) 1).toInt + 80) : Met l yX6_take wsX6_take ({ frames := 1, cells := 0, slots := 0, locals := 24 }) (va_Pc [.ref (w (21 + ja)), .ref (w (21 + jrb)), .int xo] (mW dC dI cy L (wF cy K N T I Q J) sz)) (va_Qv (fun d : (Nat → Nat → Int32) × (Nat → Nat → Int32) => LW w I J d.1 d.2 ja (I (w (21 + ja)) 1).toInt ((I (w (21 + ja)) 2).toInt + 1)) (fun (d : (Nat → Nat → Int32) × (Nat → Nat → Int32)) t => va_P (dC, dI) vwCl (va_pl L (wF cy K N T d.1 Q d.2)) t.heap ∧ va_K (dC, dI) vwCl (mTy cy) t ∧ va_D (va_A (va_pl L (wF cy K N T I Q J)) sz) (va_pl L (wF cy K N T d.1 Q d.2))) (va_A (va_pl L (wF cy K N T I Q J)) sz)) 0 0 (va_A (va_pl L (wF cy K N T I Q J)) sz) := by
  refine Met.ofW (cc := cX6_take) (maxL := 3) (ret := none) (by decide) rfl ?_
  intro p e s m args below meth c s₁ B hml hv
  obtain ⟨rfl, hsz, ⟨hP, hK⟩, hD0⟩ := hv
  have hx := B.exec
  have hb := B.bytes
  have hr := B.returns
  have hts := atoms_spec (ws := wsX6_take) B.pre
  have hown : s.vm.findClass RX6 = some m.cls := findClass_of_methodNamed B.named
  have hlocks := B.notSynchronized
  have hi6 : ∀ w ∈ wsX60, w ∈ wsX6_take := by decide +kernel
  have hl := lv_entry ([.ref (w (21 + ja)), .ref (w (21 + jrb)), .int xo]) (n := 3) (Nat.le_of_ble_eq_true rfl)
  rw [lg_entry_eq]
  generalize (lg_sl ([.ref (w (21 + ja)), .ref (w (21 + jrb)), .int xo]) ++ List.replicate (3 - (lg_sl ([.ref (w (21 + ja)), .ref (w (21 + jrb)), .int xo])).length) Slot.unset).toArray = ls at hl ⊢
  have hl : lv_has ls 3 [(0, .ref (w (21 + ja))), (1, .ref (w (21 + jrb))), (2, .int xo)] := hl
  subst hsz
  have hD := hD0.self (sz := s.heap.size)
  generalize hAe : va_A (va_pl L (wF cy K N T I Q J)) s.heap.size = A at hD ⊢
  have hA : ∀ q : Nat, s.heap.size ≤ q → A q := fun q h => by rw [← hAe]; exact Or.inr h
  have hS : va_S A s.heap s.heap [] := va_S.rf
  refine lv_aload_n hx hb dX6_take_0 rfl (lv_at hl 1 rfl) ?_
  obtain ⟨j89, hj89⟩ := wG_6 (cy := cy) (N := N) (T := T) (I := I) (Q := Q) (J := J) (hM.lg hjrb).1 (hM.lg hjrb).2
  refine va_get (D := (dC, dI)) (ci := 6) (v := .ref (T (w (21 + jrb)) 0)) (C := RX6) (T := TX6) (N := 7) hx hb hts hi6 hown hK hP j89 hj89 rfl 0 (by decide) (hts (.fieldLink RX6 9 "TallyLogsModel$Log" "cell" "[I") (by decide +kernel)) (fun _ h9 => h9) rfl dX6_take_1 ?_
  refine W.eq (g2 := F0 m 4 ls [.ref (w (41 + jrb))]) (by rw [hM.tl hjrb]) ?_
  refine lv_bipush (v := 8) hx hb dX6_take_4 (by decide) ?_
  refine lv_iload_n hx hb dX6_take_6 rfl (lv_at hl 2 rfl) ?_
  refine lv_aload_n hx hb dX6_take_7 rfl (lv_at hl 1 rfl) ?_
  obtain ⟨j90, hj90⟩ := wG_6 (cy := cy) (N := N) (T := T) (I := I) (Q := Q) (J := J) (hM.lg hjrb).1 (hM.lg hjrb).2
  refine va_get (D := (dC, dI)) (ci := 6) (v := .int (I (w (21 + jrb)) 1)) (C := RX6) (T := TX6) (N := 7) hx hb hts hi6 hown hK hP j90 hj90 rfl 1 (by decide) (hts (.fieldLink RX6 15 "TallyLogsModel$Log" "start" "I") (by decide +kernel)) (fun _ h9 => h9) rfl dX6_take_8 ?_
  refine lv_topi (fun x91 ex91 => ?_)
  have tx91 : x91.toInt = (I (w (21 + jrb)) 1).toInt := congrArg Int32.toInt ex91
  refine lv_isub hx hb dX6_take_11 ?_
  refine lv_topi (fun v92 ev92 => ?_)
  refine lv_imul hx hb dX6_take_12 ?_
  refine lv_topi (fun v93 ev93 => ?_)
  refine lv_aload_n hx hb dX6_take_13 rfl (lv_at hl 0 rfl) ?_
  obtain ⟨j94, hj94⟩ := wG_6 (cy := cy) (N := N) (T := T) (I := I) (Q := Q) (J := J) (hM.lg hja).1 (hM.lg hja).2
  refine va_get (D := (dC, dI)) (ci := 6) (v := .ref (T (w (21 + ja)) 0)) (C := RX6) (T := TX6) (N := 7) hx hb hts hi6 hown hK hP j94 hj94 rfl 0 (by decide) (hts (.fieldLink RX6 9 "TallyLogsModel$Log" "cell" "[I") (by decide +kernel)) (fun _ h9 => h9) rfl dX6_take_14 ?_
  refine W.eq (g2 := F0 m 17 ls [.ref (w (41 + ja)), .int v93, .ref (w (41 + jrb))]) (by rw [hM.tl hja]) ?_
  refine lv_bipush (v := 8) hx hb dX6_take_17 (by decide) ?_
  refine lv_aload_n hx hb dX6_take_19 rfl (lv_at hl 0 rfl) ?_
  obtain ⟨j96, hj96⟩ := wG_6 (cy := cy) (N := N) (T := T) (I := I) (Q := Q) (J := J) (hM.lg hja).1 (hM.lg hja).2
  refine vp_callSi (W.runV (As := []) (rest := [.int 8, .ref (w (41 + ja)), .int v93, .ref (w (41 + jrb))]) ⟨hx, hb, hml, hown, hts⟩ (c_X6_many l dC dI cy w L K N T Q I J ja hM hja) (cwV 0 hts gX6_take_X6_many rfl rfl rfl (by decide +kernel) ⟨Nat.le_of_ble_eq_true rfl, Nat.le_of_ble_eq_true rfl⟩) ⟨mb_blind, va_recv hK hP (ci := 6) (q0 := j96) rfl hj96, fun U hU hW => ⟨rfl, mb_pre hP hK hU hW⟩⟩ rfl rfl hl.1 rfl (lv_room (Nat.le_of_ble_eq_true rfl)) dX6_take_20 ⟨Nat.le_of_ble_eq_true rfl, Nat.le_of_ble_eq_true rfl⟩) (fun r95 hr95 => ?_)
  refine lv_imul hx hb dX6_take_23 ?_
  refine lv_topi (fun v97 ev97 => ?_)
  refine lv_bipush (v := 8) hx hb dX6_take_24 (by decide) ?_
  obtain ⟨j98, hj98⟩ := wG_20 (cy := cy) (N := N) (T := T) (I := I) (Q := Q) (J := J) (hM.ce hjrb).1 (hM.ce hjrb).2
  obtain ⟨j99, hj99⟩ := wG_20 (cy := cy) (N := N) (T := T) (I := I) (Q := Q) (J := J) (hM.ce hja).1 (hM.ce hja).2
  have tv92 : v92.toInt = xo.toInt - x91.toInt := by rw [ev92]; exact xsub (by omega) (by omega)
  have tv93 : v93.toInt = 8 * v92.toInt := by rw [ev93]; exact xmul8 (by omega) (by omega)
  have tr95 : r95.toInt = (I (w (21 + ja)) 2).toInt - (I (w (21 + ja)) 1).toInt := by rw [hr95]; exact xsub (by omega) (by omega)
  have tv97 : v97.toInt = 8 * r95.toInt := by rw [ev97]; exact xmul8 (by omega) (by omega)
  have hc100 : v93.toNatClampNeg = v93.toInt.toNat := rfl
  have hc101 : v97.toNatClampNeg = v97.toInt.toNat := rfl
  have hc102 : (8 : Int32).toNatClampNeg = 8 := by decide
  have hDo := hD
  refine va_copyi (n := 8) (dp := v97) (sp := v93) hx hb (by rw [hml]; exact hl.1.symm) hown (hts (.methodLink RX6 22 arraycopyName) (by decide +kernel)) (hts (.native arraycopyName) (by decide +kernel)) (hts (.static arraycopyName) (by decide +kernel)) (hts (.initialized "java/lang/System") (by decide +kernel)) hK hP hD hS j98 j99 1 1 hj98 hj99 rfl rfl rfl (by rw [xk_lt, xk_0]; omega) (by rw [xk_lt, xk_0]; omega) (by decide) (by rw [hM.nc hjrb, hc100, hc102]; omega) (by rw [hM.nc hja, hc101, hc102]; omega) (fun _ _ => rfl) (Nat.le_of_ble_eq_true rfl) (Nat.le_of_ble_eq_true rfl) dX6_take_26 (fun H locs hP hD hS => ?_)
  have hP := Eq.mp (congrArg (fun w => va_P (dC, dI) vwCl w H) (wR_20 hDo (hM.ce hja).1 (hM.ce hja).2 hj99)) hP
  obtain ⟨J103, eJ103⟩ : ∃ z, z = va_up J (w (41 + ja)) (va_cpy (J (w (41 + jrb))) (J (w (41 + ja))) v93.toNatClampNeg v97.toNatClampNeg (8 : Int32).toNatClampNeg) := ⟨_, rfl⟩
  rw [← eJ103] at hP
  have hD : va_D A (va_pl L (wF cy K N T I Q J103)) := pD hDo
  refine lv_aload_n hx hb dX6_take_29 rfl (lv_at hl 0 rfl) ?_
  refine lv_dup hx hb dX6_take_30 rfl ?_
  obtain ⟨j104, hj104⟩ := wG_6 (cy := cy) (N := N) (T := T) (I := I) (Q := Q) (J := J103) (hM.lg hja).1 (hM.lg hja).2
  refine va_get (D := (dC, dI)) (ci := 6) (v := .int (I (w (21 + ja)) 2)) (C := RX6) (T := TX6) (N := 7) hx hb hts hi6 hown hK hP j104 hj104 rfl 2 (by decide) (hts (.fieldLink RX6 19 "TallyLogsModel$Log" "end" "I") (by decide +kernel)) (fun _ h9 => h9) rfl dX6_take_31 ?_
  refine lv_topi (fun x105 ex105 => ?_)
  have tx105 : x105.toInt = (I (w (21 + ja)) 2).toInt := congrArg Int32.toInt ex105
  refine lv_iconst (v := 1) hx hb dX6_take_34 (by decide) ?_
  refine lv_iadd hx hb dX6_take_35 ?_
  refine lv_topi (fun v106 ev106 => ?_)
  have tv106 : v106.toInt = x105.toInt + 1 := by rw [ev106]; exact xaddk (by decide) (by omega) (by omega)
  obtain ⟨j107, hj107⟩ := wG_6 (cy := cy) (N := N) (T := T) (I := I) (Q := Q) (J := J103) (hM.lg hja).1 (hM.lg hja).2
  have hDo := hD
  refine va_put (D := (dC, dI)) (ci := 6) (v := .int v106) (ty := .int) (C := RX6) (T := TX6) (N := 7) hx hb hts hi6 tyX6 tyX6_ok nmX6 hown hK hP hD hS j107 hj107 rfl 2 (by decide) (hts (.fieldLink RX6 19 "TallyLogsModel$Log" "end" "I") (by decide +kernel)) (fun _ h9 => h9) rfl (by decide +kernel) rfl rfl (Nat.le_of_ble_eq_true rfl) dX6_take_36 (fun H locs hP hD hS => ?_)
  have hP := Eq.mp (congrArg (fun w => va_P (dC, dI) vwCl w H) (wP_6_2 (x := v106) hDo (hM.lg hja).1 (hM.lg hja).2 hj107)) hP
  obtain ⟨I108, eI108⟩ : ∃ z, z = p2 I (w (21 + ja)) 2 v106 := ⟨_, rfl⟩
  rw [← eI108] at hP
  have hD : va_D A (va_pl L (wF cy K N T I108 Q J103)) := pD hDo
  exact W.vret hx hb hr (fun t ht hW => ⟨⟨(I108, J103), rfl, ⟨(fun q f h => by show I108 q f = I q f; rw [eI108, p2_ne _ _ (fun z => h ⟨z.1, Or.inr z.2⟩)]), (fun q h => by show J103 q = J q; rw [eJ103, va_up_ne _ _ h]), (by show (I108 (w (21 + ja)) 1).toInt = _; rw [eI108, p2_ne _ _ (fun q => absurd q.2 (by decide))]; try omega), (by show (I108 (w (21 + ja)) 2).toInt = _; rw [eI108, p2_at]; try omega)⟩, by rw [ht]; exact hP, va_K.moved hW.alike hK, hD⟩, hS.F ht⟩) hS.2.2 dX6_take_39
