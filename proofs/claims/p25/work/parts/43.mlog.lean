set_option maxHeartbeats 4000000 in
set_option maxRecDepth 100000 in
/-- Log.get: a field of a record that is there -/
theorem c_X6_get (l : Launch) (dC : Nat → ClassId) (dI : Nat → Nat → Nat) (cy : Nat → ClassId) (w : Nat → Nat) (L : List Nat) (K N : Nat → Nat) (T : Nat → Nat → Nat) (Q : Nat → Nat → Option Nat) (I J : Nat → Nat → Int32) (ja : Nat) (xo : Int32) (xf : Int32) (hM : MS w L K N T Q) (hja : ja < 20) (h1 : (I (w (21 + ja)) 1).toInt ≤ xo.toInt) (h2 : xo.toInt < (I (w (21 + ja)) 1).toInt + 80) (h3 : vp_in xf 8) : Met l yX6_get wsX6_get ({ frames := 0, cells := 0, slots := 0, locals := 0 }) (va_Pc [.ref (w (21 + ja)), .int xo, .int xf] (mB dC dI cy L (wF cy K N T I Q J))) (vp_Si (fun r => True)) 0 0 (fun _ => False) := by
  refine Met.ofW (cc := cX6_get) (maxL := 3) (ret := (some .int)) (by decide) rfl ?_
  intro p e s m args below meth c s₁ B hml hv
  obtain ⟨rfl, hP, hK⟩ := hv
  have hx := B.exec
  have hb := B.bytes
  have hr := B.returns
  have hts := atoms_spec (ws := wsX6_get) B.pre
  have hown : s.vm.findClass RX6 = some m.cls := findClass_of_methodNamed B.named
  have hlocks := B.notSynchronized
  have hi6 : ∀ w ∈ wsX60, w ∈ wsX6_get := by decide +kernel
  have hl := lv_entry ([.ref (w (21 + ja)), .int xo, .int xf]) (n := 3) (Nat.le_of_ble_eq_true rfl)
  rw [lg_entry_eq]
  generalize (lg_sl ([.ref (w (21 + ja)), .int xo, .int xf]) ++ List.replicate (3 - (lg_sl ([.ref (w (21 + ja)), .int xo, .int xf])).length) Slot.unset).toArray = ls at hl ⊢
  have hl : lv_has ls 3 [(0, .ref (w (21 + ja))), (1, .int xo), (2, .int xf)] := hl
  refine lv_aload_n hx hb dX6_get_0 rfl (lv_at hl 0 rfl) ?_
  obtain ⟨j1, hj1⟩ := wG_6 (cy := cy) (N := N) (T := T) (I := I) (Q := Q) (J := J) (hM.lg hja).1 (hM.lg hja).2
  refine va_get (D := (dC, dI)) (ci := 6) (v := .ref (T (w (21 + ja)) 0)) (C := RX6) (T := TX6) (N := 7) hx hb hts hi6 hown hK hP j1 hj1 rfl 0 (by decide) (hts (.fieldLink RX6 9 "TallyLogsModel$Log" "cell" "[I") (by decide +kernel)) (fun _ h9 => h9) rfl dX6_get_1 ?_
  refine W.eq (g2 := F0 m 4 ls [.ref (w (41 + ja))]) (by rw [hM.tl hja]) ?_
  refine lv_bipush (v := 8) hx hb dX6_get_4 (by decide) ?_
  refine lv_iload_n hx hb dX6_get_6 rfl (lv_at hl 1 rfl) ?_
  refine lv_aload_n hx hb dX6_get_7 rfl (lv_at hl 0 rfl) ?_
  obtain ⟨j2, hj2⟩ := wG_6 (cy := cy) (N := N) (T := T) (I := I) (Q := Q) (J := J) (hM.lg hja).1 (hM.lg hja).2
  refine va_get (D := (dC, dI)) (ci := 6) (v := .int (I (w (21 + ja)) 1)) (C := RX6) (T := TX6) (N := 7) hx hb hts hi6 hown hK hP j2 hj2 rfl 1 (by decide) (hts (.fieldLink RX6 15 "TallyLogsModel$Log" "start" "I") (by decide +kernel)) (fun _ h9 => h9) rfl dX6_get_8 ?_
  refine lv_topi (fun x3 ex3 => ?_)
  have tx3 : x3.toInt = (I (w (21 + ja)) 1).toInt := congrArg Int32.toInt ex3
  refine lv_isub hx hb dX6_get_11 ?_
  refine lv_topi (fun v4 ev4 => ?_)
  refine lv_imul hx hb dX6_get_12 ?_
  refine lv_topi (fun v5 ev5 => ?_)
  refine lv_iload_n hx hb dX6_get_13 rfl (lv_at hl 2 rfl) ?_
  refine lv_iadd hx hb dX6_get_14 ?_
  refine lv_topi (fun v6 ev6 => ?_)
  have hin7 : vp_in v6 640 := by rw [ev6, ev5, ev4, ex3]; exact xix h1 h2 h3
  obtain ⟨j8, hj8⟩ := wG_20 (cy := cy) (N := N) (T := T) (I := I) (Q := Q) (J := J) (hM.ce hja).1 (hM.ce hja).2
  refine va_iald hx hb hK hP j8 1 hj8 rfl (hM.inC hja hin7) dX6_get_15 ?_
  refine lv_topi (fun x9 ex9 => ?_)
  exact W.iret (v := x9) hx hb hr (fun t ht hW => ⟨x9, rfl, trivial, ht⟩) (fun _ h => by cases h) dX6_get_16
set_option maxHeartbeats 4000000 in
set_option maxRecDepth 100000 in
/-- Log.many -/
theorem c_X6_many (l : Launch) (dC : Nat → ClassId) (dI : Nat → Nat → Nat) (cy : Nat → ClassId) (w : Nat → Nat) (L : List Nat) (K N : Nat → Nat) (T : Nat → Nat → Nat) (Q : Nat → Nat → Option Nat) (I J : Nat → Nat → Int32) (ja : Nat)  (hM : MS w L K N T Q) (hja : ja < 20) : Met l yX6_many wsX6_many ({ frames := 0, cells := 0, slots := 0, locals := 0 }) (va_Pc [.ref (w (21 + ja))] (mB dC dI cy L (wF cy K N T I Q J))) (vp_Si (fun r => r = I (w (21 + ja)) 2 - I (w (21 + ja)) 1)) 0 0 (fun _ => False) := by
  refine Met.ofW (cc := cX6_many) (maxL := 1) (ret := (some .int)) (by decide) rfl ?_
  intro p e s m args below meth c s₁ B hml hv
  obtain ⟨rfl, hP, hK⟩ := hv
  have hx := B.exec
  have hb := B.bytes
  have hr := B.returns
  have hts := atoms_spec (ws := wsX6_many) B.pre
  have hown : s.vm.findClass RX6 = some m.cls := findClass_of_methodNamed B.named
  have hlocks := B.notSynchronized
  have hi6 : ∀ w ∈ wsX60, w ∈ wsX6_many := by decide +kernel
  have hl := lv_entry ([.ref (w (21 + ja))]) (n := 1) (Nat.le_of_ble_eq_true rfl)
  rw [lg_entry_eq]
  generalize (lg_sl ([.ref (w (21 + ja))]) ++ List.replicate (1 - (lg_sl ([.ref (w (21 + ja))])).length) Slot.unset).toArray = ls at hl ⊢
  have hl : lv_has ls 1 [(0, .ref (w (21 + ja)))] := hl
  refine lv_aload_n hx hb dX6_many_0 rfl (lv_at hl 0 rfl) ?_
  obtain ⟨j10, hj10⟩ := wG_6 (cy := cy) (N := N) (T := T) (I := I) (Q := Q) (J := J) (hM.lg hja).1 (hM.lg hja).2
  refine va_get (D := (dC, dI)) (ci := 6) (v := .int (I (w (21 + ja)) 2)) (C := RX6) (T := TX6) (N := 7) hx hb hts hi6 hown hK hP j10 hj10 rfl 2 (by decide) (hts (.fieldLink RX6 19 "TallyLogsModel$Log" "end" "I") (by decide +kernel)) (fun _ h9 => h9) rfl dX6_many_1 ?_
  refine lv_topi (fun x11 ex11 => ?_)
  have tx11 : x11.toInt = (I (w (21 + ja)) 2).toInt := congrArg Int32.toInt ex11
  refine lv_aload_n hx hb dX6_many_4 rfl (lv_at hl 0 rfl) ?_
  obtain ⟨j12, hj12⟩ := wG_6 (cy := cy) (N := N) (T := T) (I := I) (Q := Q) (J := J) (hM.lg hja).1 (hM.lg hja).2
  refine va_get (D := (dC, dI)) (ci := 6) (v := .int (I (w (21 + ja)) 1)) (C := RX6) (T := TX6) (N := 7) hx hb hts hi6 hown hK hP j12 hj12 rfl 1 (by decide) (hts (.fieldLink RX6 15 "TallyLogsModel$Log" "start" "I") (by decide +kernel)) (fun _ h9 => h9) rfl dX6_many_5 ?_
  refine lv_topi (fun x13 ex13 => ?_)
  have tx13 : x13.toInt = (I (w (21 + ja)) 1).toInt := congrArg Int32.toInt ex13
  refine lv_isub hx hb dX6_many_8 ?_
  refine lv_topi (fun v14 ev14 => ?_)
  exact W.iret (v := v14) hx hb hr (fun t ht hW => ⟨v14, rfl, by show _ = _; rw [ev14, ex11, ex13], ht⟩) (fun _ h => by cases h) dX6_many_9
