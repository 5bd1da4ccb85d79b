theorem xmax0 {x y z : Int32} (h : z = if x < y then y else x) (hx : 0 ≤ x.toInt) : 0 ≤ z.toInt := by
  subst h
  by_cases q : x < y
  · rw [if_pos q]; rw [xk_lt] at q; omega
  · rw [if_neg q]; exact hx
set_option maxHeartbeats 4000000 in
set_option maxRecDepth 100000 in
/-- Replica.dropBefore -/
theorem c_X4_dropBefore (l : Launch) (dC : Nat → ClassId) (dI : Nat → Nat → Nat) (cy : Nat → ClassId) (v : Nat → Nat) (L : List Nat) (K N : Nat → Nat) (T : Nat → Nat → Nat) (I : Nat → Nat → Int32) (Q : Nat → Nat → Option Nat) (J : Nat → Nat → Int32) (sz : Nat) (a : Nat) (xo : Int32) (hC : CT v L K N T I Q) (ha : a ∈ L) (hk : K a = 4) : Met l yX4_dropBefore wsX4_dropBefore ({ frames := 1, cells := 0, slots := 0, locals := 21 }) (va_Pc [.ref a, .int xo] (pW dC dI cy L (pF cy K N T I Q J) sz)) (va_Qv (fun d : (Nat → Nat → Int32) × (Nat → Nat → Option Nat) × (Nat → Nat → Int32) => CT v L K N T d.1 d.2.1 ∧ RS v I Q J d.1 d.2.1 d.2.2) (fun (d : (Nat → Nat → Int32) × (Nat → Nat → Option Nat) × (Nat → Nat → Int32)) t => va_P (dC, dI) vwCl (va_pl L (pF cy K N T d.1 d.2.1 d.2.2)) t.heap ∧ va_K (dC, dI) vwCl (pTy cy) t ∧ va_D (va_A (va_pl L (pF cy K N T I Q J)) sz) (va_pl L (pF cy K N T d.1 d.2.1 d.2.2))) (va_A (va_pl L (pF cy K N T I Q J)) sz)) 0 0 (va_A (va_pl L (pF cy K N T I Q J)) sz) := by
  refine Met.ofW (cc := cX4_dropBefore) (maxL := 2) (ret := none) (by decide) rfl ?_
  intro p e s m args below meth c s₁ B hml hv
  obtain ⟨rfl, hsz, ⟨hP, hK, hN⟩, hD0⟩ := hv
  have hx := B.exec
  have hb := B.bytes
  have hr := B.returns
  have hts := atoms_spec (ws := wsX4_dropBefore) B.pre
  have hown : s.vm.findClass RX4 = some m.cls := findClass_of_methodNamed B.named
  have hlocks := B.notSynchronized
  have hi4 : ∀ w ∈ wsX40, w ∈ wsX4_dropBefore := by decide +kernel
  have hl := lv_entry ([.ref a, .int xo]) (n := 2) (Nat.le_of_ble_eq_true rfl)
  rw [lg_entry_eq]
  generalize (lg_sl ([.ref a, .int xo]) ++ List.replicate (2 - (lg_sl ([.ref a, .int xo])).length) Slot.unset).toArray = ls at hl ⊢
  have hl : lv_has ls 2 [(0, .ref a), (1, .int xo)] := hl
  subst hsz
  have hD := hD0.self (sz := s.heap.size)
  generalize hAe : va_A (va_pl L (pF cy K N T I Q J)) s.heap.size = A at hD ⊢
  have hA : ∀ q : Nat, s.heap.size ≤ q → A q := fun q h => by rw [← hAe]; exact Or.inr h
  have hS : va_S A s.heap s.heap [] := va_S.rf
  have hR : RS v I Q J I Q J := RS.rf
  have hn28 := hN.1
  have hn30 := hN.2.1
  have hn37 := hN.2.2.1
  refine lv_aload_n hx hb dX4_dropBefore_0 rfl (lv_at hl 0 rfl) ?_
  refine lv_aload_n hx hb dX4_dropBefore_1 rfl (lv_at hl 0 rfl) ?_
  obtain ⟨j124, hj124⟩ := pG_4 (cy := cy) (N := N) (T := T) (I := I) (Q := Q) (J := J) ha hk
  refine va_get (D := (dC, dI)) (ci := 4) (v := .int (I a 1)) (C := RX4) (T := TX4) (N := 7) hx hb hts hi4 hown hK hP j124 hj124 rfl 1 (by decide) (hts (.fieldLink RX4 17 "TallyLogs$Replica" "start" "I") (by decide +kernel)) (fun _ h9 => h9) rfl dX4_dropBefore_2 ?_
  refine lv_topi (fun x125 ex125 => ?_)
  refine lv_iload_n hx hb dX4_dropBefore_5 rfl (lv_at hl 1 rfl) ?_
  refine va_mmax hx hb (by rw [hml]; exact hl.1.symm) hown (hts (.methodLink RX4 46 Lib.Math.max.name) (by decide +kernel)) (hts (.static Lib.Math.max.name) (by decide +kernel)) (hts (.initialized "java/lang/Math") (by decide +kernel)) (hts _ (List.mem_of_getElem? (i := 5) rfl)) (Nat.le_of_ble_eq_true rfl) (Nat.le_of_ble_eq_true rfl) (Nat.le_of_ble_eq_true rfl) (Nat.le_of_ble_eq_true rfl) dX4_dropBefore_6 ?_
  refine lv_topi (fun z126 ez126 => ?_)
  obtain ⟨j127, hj127⟩ := pG_4 (cy := cy) (N := N) (T := T) (I := I) (Q := Q) (J := J) ha hk
  have hDo := hD
  refine va_put (D := (dC, dI)) (ci := 4) (v := .int z126) (ty := .int) (C := RX4) (T := TX4) (N := 7) hx hb hts hi4 tyX4 tyX4_ok nmX4 hown hK hP hD hS j127 hj127 rfl 1 (by decide) (hts (.fieldLink RX4 17 "TallyLogs$Replica" "start" "I") (by decide +kernel)) (fun _ h9 => h9) rfl (by decide +kernel) rfl rfl (Nat.le_of_ble_eq_true rfl) dX4_dropBefore_9 (fun H locs hP hD hS => ?_)
  have hP := Eq.mp (congrArg (fun w => va_P (dC, dI) vwCl w H) (pP_4_1 (x := z126) hDo ha hk hj127)) hP
  obtain ⟨I128, eI128⟩ : ∃ z, z = p2 I a 1 z126 := ⟨_, rfl⟩
  rw [← eI128] at hP
  have hR : RS v I Q J I128 Q J := by rw [eI128]; exact hR.pi hC (by rw [hk]; decide)
  have hC : CT v L K N T I128 Q := by rw [eI128]; exact hC.ps (xmax0 ez126 (by rw [ex125]; exact hC.2.2.2.2.2.2.2.1 a ha hk))
  have hD : va_D A (va_pl L (pF cy K N T I128 Q J)) := pD hDo
  refine lv_aload_n hx hb dX4_dropBefore_12 rfl (lv_at hl 0 rfl) ?_
  refine lv_aload_n hx hb dX4_dropBefore_13 rfl (lv_at hl 0 rfl) ?_
  obtain ⟨j129, hj129⟩ := pG_4 (cy := cy) (N := N) (T := T) (I := I128) (Q := Q) (J := J) ha hk
  refine va_get (D := (dC, dI)) (ci := 4) (v := .int (I128 a 4)) (C := RX4) (T := TX4) (N := 7) hx hb hts hi4 hown hK hP j129 hj129 rfl 4 (by decide) (hts (.fieldLink RX4 27 "TallyLogs$Replica" "flushed" "I") (by decide +kernel)) (fun _ h9 => h9) rfl dX4_dropBefore_14 ?_
  refine lv_topi (fun x130 ex130 => ?_)
  refine lv_aload_n hx hb dX4_dropBefore_17 rfl (lv_at hl 0 rfl) ?_
  obtain ⟨j131, hj131⟩ := pG_4 (cy := cy) (N := N) (T := T) (I := I128) (Q := Q) (J := J) ha hk
  refine va_get (D := (dC, dI)) (ci := 4) (v := .int (I128 a 1)) (C := RX4) (T := TX4) (N := 7) hx hb hts hi4 hown hK hP j131 hj131 rfl 1 (by decide) (hts (.fieldLink RX4 17 "TallyLogs$Replica" "start" "I") (by decide +kernel)) (fun _ h9 => h9) rfl dX4_dropBefore_18 ?_
  refine lv_topi (fun x132 ex132 => ?_)
  refine va_mmax hx hb (by rw [hml]; exact hl.1.symm) hown (hts (.methodLink RX4 46 Lib.Math.max.name) (by decide +kernel)) (hts (.static Lib.Math.max.name) (by decide +kernel)) (hts (.initialized "java/lang/Math") (by decide +kernel)) (hts _ (List.mem_of_getElem? (i := 5) rfl)) (Nat.le_of_ble_eq_true rfl) (Nat.le_of_ble_eq_true rfl) (Nat.le_of_ble_eq_true rfl) (Nat.le_of_ble_eq_true rfl) dX4_dropBefore_21 ?_
  refine lv_topi (fun z133 ez133 => ?_)
  obtain ⟨j134, hj134⟩ := pG_4 (cy := cy) (N := N) (T := T) (I := I128) (Q := Q) (J := J) ha hk
  have hDo := hD
  refine va_put (D := (dC, dI)) (ci := 4) (v := .int z133) (ty := .int) (C := RX4) (T := TX4) (N := 7) hx hb hts hi4 tyX4 tyX4_ok nmX4 hown hK hP hD hS j134 hj134 rfl 4 (by decide) (hts (.fieldLink RX4 27 "TallyLogs$Replica" "flushed" "I") (by decide +kernel)) (fun _ h9 => h9) rfl (by decide +kernel) rfl rfl (Nat.le_of_ble_eq_true rfl) dX4_dropBefore_24 (fun H locs hP hD hS => ?_)
  have hP := Eq.mp (congrArg (fun w => va_P (dC, dI) vwCl w H) (pP_4_4 (x := z133) hDo ha hk hj134)) hP
  obtain ⟨I135, eI135⟩ : ∃ z, z = p2 I128 a 4 z133 := ⟨_, rfl⟩
  rw [← eI135] at hP
  have hR : RS v I Q J I135 Q J := by rw [eI135]; exact hR.pi hC (by rw [hk]; decide)
  have hC : CT v L K N T I135 Q := by rw [eI135]; exact hC.pi (by rw [hk]; decide)
  have hD : va_D A (va_pl L (pF cy K N T I135 Q J)) := pD hDo
  exact W.vret hx hb hr (fun t ht hW => ⟨⟨(I135, Q, J), rfl, ⟨hC, hR⟩, by rw [ht]; exact hP, va_K.moved hW.alike hK, hD⟩, hS.F ht⟩) hS.2.2 dX4_dropBefore_27
set_option maxHeartbeats 4000000 in
set_option maxRecDepth 100000 in
/-- Replica.loseUnflushed -/
theorem c_X4_loseUnflushed (l : Launch) (dC : Nat → ClassId) (dI : Nat → Nat → Nat) (cy : Nat → ClassId) (v : Nat → Nat) (L : List Nat) (K N : Nat → Nat) (T : Nat → Nat → Nat) (I : Nat → Nat → Int32) (Q : Nat → Nat → Option Nat) (J : Nat → Nat → Int32) (sz : Nat) (a : Nat) (xk : Int32) (hC : CT v L K N T I Q) (ha : a ∈ L) (hk : K a = 4) : Met l yX4_loseUnflushed wsX4_loseUnflushed ({ frames := 1, cells := 0, slots := 0, locals := 21 }) (va_Pc [.ref a, .int xk] (pW dC dI cy L (pF cy K N T I Q J) sz)) (va_Qv (fun d : (Nat → Nat → Int32) × (Nat → Nat → Option Nat) × (Nat → Nat → Int32) => CT v L K N T d.1 d.2.1 ∧ RS v I Q J d.1 d.2.1 d.2.2) (fun (d : (Nat → Nat → Int32) × (Nat → Nat → Option Nat) × (Nat → Nat → Int32)) t => va_P (dC, dI) vwCl (va_pl L (pF cy K N T d.1 d.2.1 d.2.2)) t.heap ∧ va_K (dC, dI) vwCl (pTy cy) t ∧ va_D (va_A (va_pl L (pF cy K N T I Q J)) sz) (va_pl L (pF cy K N T d.1 d.2.1 d.2.2))) (va_A (va_pl L (pF cy K N T I Q J)) sz)) 0 0 (va_A (va_pl L (pF cy K N T I Q J)) sz) := by
  refine Met.ofW (cc := cX4_loseUnflushed) (maxL := 2) (ret := none) (by decide) rfl ?_
  intro p e s m args below meth c s₁ B hml hv
  obtain ⟨rfl, hsz, ⟨hP, hK, hN⟩, hD0⟩ := hv
  have hx := B.exec
  have hb := B.bytes
  have hr := B.returns
  have hts := atoms_spec (ws := wsX4_loseUnflushed) B.pre
  have hown : s.vm.findClass RX4 = some m.cls := findClass_of_methodNamed B.named
  have hlocks := B.notSynchronized
  have hi4 : ∀ w ∈ wsX40, w ∈ wsX4_loseUnflushed := by decide +kernel
  have hl := lv_entry ([.ref a, .int xk]) (n := 2) (Nat.le_of_ble_eq_true rfl)
  rw [lg_entry_eq]
  generalize (lg_sl ([.ref a, .int xk]) ++ List.replicate (2 - (lg_sl ([.ref a, .int xk])).length) Slot.unset).toArray = ls at hl ⊢
  have hl : lv_has ls 2 [(0, .ref a), (1, .int xk)] := hl
  subst hsz
  have hD := hD0.self (sz := s.heap.size)
  generalize hAe : va_A (va_pl L (pF cy K N T I Q J)) s.heap.size = A at hD ⊢
  have hA : ∀ q : Nat, s.heap.size ≤ q → A q := fun q h => by rw [← hAe]; exact Or.inr h
  have hS : va_S A s.heap s.heap [] := va_S.rf
  have hR : RS v I Q J I Q J := RS.rf
  have hn28 := hN.1
  have hn30 := hN.2.1
  have hn37 := hN.2.2.1
  refine lv_aload_n hx hb dX4_loseUnflushed_0 rfl (lv_at hl 0 rfl) ?_
  refine lv_aload_n hx hb dX4_loseUnflushed_1 rfl (lv_at hl 0 rfl) ?_
  obtain ⟨j136, hj136⟩ := pG_4 (cy := cy) (N := N) (T := T) (I := I) (Q := Q) (J := J) ha hk
  refine va_get (D := (dC, dI)) (ci := 4) (v := .int (I a 4)) (C := RX4) (T := TX4) (N := 7) hx hb hts hi4 hown hK hP j136 hj136 rfl 4 (by decide) (hts (.fieldLink RX4 27 "TallyLogs$Replica" "flushed" "I") (by decide +kernel)) (fun _ h9 => h9) rfl dX4_loseUnflushed_2 ?_
  refine lv_topi (fun x137 ex137 => ?_)
  refine lv_iload_n hx hb dX4_loseUnflushed_5 rfl (lv_at hl 1 rfl) ?_
  refine lv_aload_n hx hb dX4_loseUnflushed_6 rfl (lv_at hl 0 rfl) ?_
  obtain ⟨j138, hj138⟩ := pG_4 (cy := cy) (N := N) (T := T) (I := I) (Q := Q) (J := J) ha hk
  refine va_get (D := (dC, dI)) (ci := 4) (v := .int (I a 2)) (C := RX4) (T := TX4) (N := 7) hx hb hts hi4 hown hK hP j138 hj138 rfl 2 (by decide) (hts (.fieldLink RX4 21 "TallyLogs$Replica" "end" "I") (by decide +kernel)) (fun _ h9 => h9) rfl dX4_loseUnflushed_7 ?_
  refine lv_topi (fun x139 ex139 => ?_)
  refine lv_aload_n hx hb dX4_loseUnflushed_10 rfl (lv_at hl 0 rfl) ?_
  obtain ⟨j140, hj140⟩ := pG_4 (cy := cy) (N := N) (T := T) (I := I) (Q := Q) (J := J) ha hk
  refine va_get (D := (dC, dI)) (ci := 4) (v := .int (I a 4)) (C := RX4) (T := TX4) (N := 7) hx hb hts hi4 hown hK hP j140 hj140 rfl 4 (by decide) (hts (.fieldLink RX4 27 "TallyLogs$Replica" "flushed" "I") (by decide +kernel)) (fun _ h9 => h9) rfl dX4_loseUnflushed_11 ?_
  refine lv_topi (fun x141 ex141 => ?_)
  refine lv_isub hx hb dX4_loseUnflushed_14 ?_
  refine lv_topi (fun v142 ev142 => ?_)
  refine va_mmin hx hb (by rw [hml]; exact hl.1.symm) hown (hts (.methodLink RX4 49 Lib.Math.min.name) (by decide +kernel)) (hts (.static Lib.Math.min.name) (by decide +kernel)) (hts (.initialized "java/lang/Math") (by decide +kernel)) (hts _ (List.mem_of_getElem? (i := 6) rfl)) (Nat.le_of_ble_eq_true rfl) (Nat.le_of_ble_eq_true rfl) (Nat.le_of_ble_eq_true rfl) (Nat.le_of_ble_eq_true rfl) dX4_loseUnflushed_15 ?_
  refine lv_topi (fun z143 ez143 => ?_)
  refine lv_iadd hx hb dX4_loseUnflushed_18 ?_
  refine lv_topi (fun v144 ev144 => ?_)
  obtain ⟨j145, hj145⟩ := pG_4 (cy := cy) (N := N) (T := T) (I := I) (Q := Q) (J := J) ha hk
  have hDo := hD
  refine va_put (D := (dC, dI)) (ci := 4) (v := .int v144) (ty := .int) (C := RX4) (T := TX4) (N := 7) hx hb hts hi4 tyX4 tyX4_ok nmX4 hown hK hP hD hS j145 hj145 rfl 2 (by decide) (hts (.fieldLink RX4 21 "TallyLogs$Replica" "end" "I") (by decide +kernel)) (fun _ h9 => h9) rfl (by decide +kernel) rfl rfl (Nat.le_of_ble_eq_true rfl) dX4_loseUnflushed_19 (fun H locs hP hD hS => ?_)
  have hP := Eq.mp (congrArg (fun w => va_P (dC, dI) vwCl w H) (pP_4_2 (x := v144) hDo ha hk hj145)) hP
  obtain ⟨I146, eI146⟩ : ∃ z, z = p2 I a 2 v144 := ⟨_, rfl⟩
  rw [← eI146] at hP
  have hR : RS v I Q J I146 Q J := by rw [eI146]; exact hR.pi hC (by rw [hk]; decide)
  have hC : CT v L K N T I146 Q := by rw [eI146]; exact hC.pi (by rw [hk]; decide)
  have hD : va_D A (va_pl L (pF cy K N T I146 Q J)) := pD hDo
  refine lv_aload_n hx hb dX4_loseUnflushed_22 rfl (lv_at hl 0 rfl) ?_
  refine lv_aload_n hx hb dX4_loseUnflushed_23 rfl (lv_at hl 0 rfl) ?_
  obtain ⟨j147, hj147⟩ := pG_4 (cy := cy) (N := N) (T := T) (I := I146) (Q := Q) (J := J) ha hk
  refine va_get (D := (dC, dI)) (ci := 4) (v := .int (I146 a 3)) (C := RX4) (T := TX4) (N := 7) hx hb hts hi4 hown hK hP j147 hj147 rfl 3 (by decide) (hts (.fieldLink RX4 24 "TallyLogs$Replica" "hw" "I") (by decide +kernel)) (fun _ h9 => h9) rfl dX4_loseUnflushed_24 ?_
  refine lv_topi (fun x148 ex148 => ?_)
  refine lv_aload_n hx hb dX4_loseUnflushed_27 rfl (lv_at hl 0 rfl) ?_
  obtain ⟨j149, hj149⟩ := pG_4 (cy := cy) (N := N) (T := T) (I := I146) (Q := Q) (J := J) ha hk
  refine va_get (D := (dC, dI)) (ci := 4) (v := .int (I146 a 2)) (C := RX4) (T := TX4) (N := 7) hx hb hts hi4 hown hK hP j149 hj149 rfl 2 (by decide) (hts (.fieldLink RX4 21 "TallyLogs$Replica" "end" "I") (by decide +kernel)) (fun _ h9 => h9) rfl dX4_loseUnflushed_28 ?_
  refine lv_topi (fun x150 ex150 => ?_)
  refine va_mmin hx hb (by rw [hml]; exact hl.1.symm) hown (hts (.methodLink RX4 49 Lib.Math.min.name) (by decide +kernel)) (hts (.static Lib.Math.min.name) (by decide +kernel)) (hts (.initialized "java/lang/Math") (by decide +kernel)) (hts _ (List.mem_of_getElem? (i := 6) rfl)) (Nat.le_of_ble_eq_true rfl) (Nat.le_of_ble_eq_true rfl) (Nat.le_of_ble_eq_true rfl) (Nat.le_of_ble_eq_true rfl) dX4_loseUnflushed_31 ?_
  refine lv_topi (fun z151 ez151 => ?_)
  obtain ⟨j152, hj152⟩ := pG_4 (cy := cy) (N := N) (T := T) (I := I146) (Q := Q) (J := J) ha hk
  have hDo := hD
  refine va_put (D := (dC, dI)) (ci := 4) (v := .int z151) (ty := .int) (C := RX4) (T := TX4) (N := 7) hx hb hts hi4 tyX4 tyX4_ok nmX4 hown hK hP hD hS j152 hj152 rfl 3 (by decide) (hts (.fieldLink RX4 24 "TallyLogs$Replica" "hw" "I") (by decide +kernel)) (fun _ h9 => h9) rfl (by decide +kernel) rfl rfl (Nat.le_of_ble_eq_true rfl) dX4_loseUnflushed_34 (fun H locs hP hD hS => ?_)
  have hP := Eq.mp (congrArg (fun w => va_P (dC, dI) vwCl w H) (pP_4_3 (x := z151) hDo ha hk hj152)) hP
  obtain ⟨I153, eI153⟩ : ∃ z, z = p2 I146 a 3 z151 := ⟨_, rfl⟩
  rw [← eI153] at hP
  have hR : RS v I Q J I153 Q J := by rw [eI153]; exact hR.pi hC (by rw [hk]; decide)
  have hC : CT v L K N T I153 Q := by rw [eI153]; exact hC.pi (by rw [hk]; decide)
  have hD : va_D A (va_pl L (pF cy K N T I153 Q J)) := pD hDo
  exact W.vret hx hb hr (fun t ht hW => ⟨⟨(I153, Q, J), rfl, ⟨hC, hR⟩, by rw [ht]; exact hP, va_K.moved hW.alike hK, hD⟩, hS.F ht⟩) hS.2.2 dX4_loseUnflushed_37
set_option maxHeartbeats 4000000 in
set_option maxRecDepth 100000 in
/-- Replica.append of an Entry -/
theorem c_X4_append (l : Launch) (dC : Nat → ClassId) (dI : Nat → Nat → Nat) (cy : Nat → ClassId) (v : Nat → Nat) (L : List Nat) (K N : Nat → Nat) (T : Nat → Nat → Nat) (I : Nat → Nat → Int32) (Q : Nat → Nat → Option Nat) (J : Nat → Nat → Int32) (sz : Nat) (a : Nat) (eb : Nat) (hC : CT v L K N T I Q) (ha : a ∈ L) (hk : K a = 4) (hb0 : eb ∈ L) (hkb : K eb = 0) : Met l yX4_append wsX4_append ({ frames := 1, cells := 0, slots := 0, locals := 22 }) (va_Pc [.ref a, .ref eb] (pW dC dI cy L (pF cy K N T I Q J) sz)) (va_Qv (fun d : (Nat → Nat → Int32) × (Nat → Nat → Option Nat) × (Nat → Nat → Int32) => CT v L K N T d.1 d.2.1 ∧ RS v I Q J d.1 d.2.1 d.2.2) (fun (d : (Nat → Nat → Int32) × (Nat → Nat → Option Nat) × (Nat → Nat → Int32)) t => va_P (dC, dI) vwCl (va_pl L (pF cy K N T d.1 d.2.1 d.2.2)) t.heap ∧ va_K (dC, dI) vwCl (pTy cy) t ∧ va_D (va_A (va_pl L (pF cy K N T I Q J)) sz) (va_pl L (pF cy K N T d.1 d.2.1 d.2.2))) (va_A (va_pl L (pF cy K N T I Q J)) sz)) 0 0 (va_A (va_pl L (pF cy K N T I Q J)) sz) := by
  refine Met.ofW (cc := cX4_append) (maxL := 2) (ret := none) (by decide) rfl ?_
  intro p e s m args below meth c s₁ B hml hv
  obtain ⟨rfl, hsz, ⟨hP, hK, hN⟩, hD0⟩ := hv
  have hx := B.exec
  have hb := B.bytes
  have hr := B.returns
  have hts := atoms_spec (ws := wsX4_append) B.pre
  have hown : s.vm.findClass RX4 = some m.cls := findClass_of_methodNamed B.named
  have hlocks := B.notSynchronized
  have hi4 : ∀ w ∈ wsX40, w ∈ wsX4_append := by decide +kernel
  have hl := lv_entry ([.ref a, .ref eb]) (n := 2) (Nat.le_of_ble_eq_true rfl)
  rw [lg_entry_eq]
  generalize (lg_sl ([.ref a, .ref eb]) ++ List.replicate (2 - (lg_sl ([.ref a, .ref eb])).length) Slot.unset).toArray = ls at hl ⊢
  have hl : lv_has ls 2 [(0, .ref a), (1, .ref eb)] := hl
  subst hsz
  have hD := hD0.self (sz := s.heap.size)
  generalize hAe : va_A (va_pl L (pF cy K N T I Q J)) s.heap.size = A at hD ⊢
  have hA : ∀ q : Nat, s.heap.size ≤ q → A q := fun q h => by rw [← hAe]; exact Or.inr h
  have hS : va_S A s.heap s.heap [] := va_S.rf
  have hR : RS v I Q J I Q J := RS.rf
  have hn28 := hN.1
  have hn30 := hN.2.1
  have hn37 := hN.2.2.1
  refine lv_aload_n hx hb dX4_append_0 rfl (lv_at hl 0 rfl) ?_
  obtain ⟨j154, hj154⟩ := pG_4 (cy := cy) (N := N) (T := T) (I := I) (Q := Q) (J := J) ha hk
  refine va_get (D := (dC, dI)) (ci := 4) (v := .ref (T a 0)) (C := RX4) (T := TX4) (N := 7) hx hb hts hi4 hown hK hP j154 hj154 rfl 0 (by decide) (hts (.fieldLink RX4 11 "TallyLogs$Replica" "slots" "[LTallyLogs$Entry;") (by decide +kernel)) (fun _ h9 => h9) rfl dX4_append_1 ?_
  obtain ⟨t155, et155⟩ : ∃ t, t = T a 0 := ⟨_, rfl⟩
  have hLt155 : t155 ∈ L := by rw [et155]; exact (hC.2.2.2.2.2.2.1 a ha hk).1
  have hkt155 : K t155 = 8 := by rw [et155]; exact (hC.2.2.2.2.2.2.1 a ha hk).2
  refine W.eq (g2 := F0 m 4 ls [.ref t155]) (by rw [et155]) ?_
  refine lv_aload_n hx hb dX4_append_4 rfl (lv_at hl 0 rfl) ?_
  obtain ⟨j156, hj156⟩ := pG_4 (cy := cy) (N := N) (T := T) (I := I) (Q := Q) (J := J) ha hk
  refine va_get (D := (dC, dI)) (ci := 4) (v := .int (I a 2)) (C := RX4) (T := TX4) (N := 7) hx hb hts hi4 hown hK hP j156 hj156 rfl 2 (by decide) (hts (.fieldLink RX4 21 "TallyLogs$Replica" "end" "I") (by decide +kernel)) (fun _ h9 => h9) rfl dX4_append_5 ?_
  refine lv_topi (fun x157 ex157 => ?_)
  refine lv_bipush (v := 60) hx hb dX4_append_8 (by decide) ?_
  refine vp_callSi (W.runS (As := [.int x157, .int 60]) (rest := [.ref t155]) ⟨hx, hb, hml, hown, hts⟩ (c_J9_floorMod_7cf53 l x157) (va_cwS 2 hts gX4_append_J9_floorMod_7cf53 rfl rfl rfl (by decide +kernel) ⟨Nat.le_of_ble_eq_true rfl, Nat.le_of_ble_eq_true rfl⟩) preEq rfl rfl hl.1 rfl (lv_room (Nat.le_of_ble_eq_true rfl)) dX4_append_10 ⟨Nat.le_of_ble_eq_true rfl, Nat.le_of_ble_eq_true rfl⟩) (fun r158 hr158 => ?_)
  have hinr158 : vp_in r158 60 := by rw [hr158]; exact sp_fm_in _
  refine lv_aload_n hx hb dX4_append_13 rfl (lv_at hl 1 rfl) ?_
  obtain ⟨j159, hj159⟩ := pG_8 (cy := cy) (N := N) (T := T) (I := I) (Q := Q) (J := J) hLt155 hkt155
  have hDo := hD
  obtain ⟨j160, hj160⟩ := pG_0 (cy := cy) (N := N) (T := T) (I := I) (Q := Q) (J := J) hb0 hkb
  refine va_astq hx hb hK hP hD hS j159 1 j160 0 hj159 rfl hj160 rfl hinr158 dX4_append_14 (fun H locs hP hD hS => ?_)
  have hP := Eq.mp (congrArg (fun w => va_P (dC, dI) vwCl w H) (pS_8 (x := (some eb)) hDo hLt155 hkt155 hj159)) hP
  obtain ⟨Q161, eQ161⟩ : ∃ z, z = p2 Q t155 r158.toNatClampNeg (some eb) := ⟨_, rfl⟩
  rw [← eQ161] at hP
  have hR : RS v I Q J I Q161 J := by rw [eQ161]; exact hR.pq hC (by rw [hkt155]; decide)
  have hC : CT v L K N T I Q161 := by rw [eQ161]; exact hC.q8 hkt155 (fun b hb => by cases hb; exact ⟨hb0, hkb⟩)
  have hD : va_D A (va_pl L (pF cy K N T I Q161 J)) := pD hDo
  refine lv_aload_n hx hb dX4_append_15 rfl (lv_at hl 0 rfl) ?_
  refine lv_dup hx hb dX4_append_16 rfl ?_
  obtain ⟨j162, hj162⟩ := pG_4 (cy := cy) (N := N) (T := T) (I := I) (Q := Q161) (J := J) ha hk
  refine va_get (D := (dC, dI)) (ci := 4) (v := .int (I a 2)) (C := RX4) (T := TX4) (N := 7) hx hb hts hi4 hown hK hP j162 hj162 rfl 2 (by decide) (hts (.fieldLink RX4 21 "TallyLogs$Replica" "end" "I") (by decide +kernel)) (fun _ h9 => h9) rfl dX4_append_17 ?_
  refine lv_topi (fun x163 ex163 => ?_)
  refine lv_iconst (v := 1) hx hb dX4_append_20 (by decide) ?_
  refine lv_iadd hx hb dX4_append_21 ?_
  refine lv_topi (fun v164 ev164 => ?_)
  obtain ⟨j165, hj165⟩ := pG_4 (cy := cy) (N := N) (T := T) (I := I) (Q := Q161) (J := J) ha hk
  have hDo := hD
  refine va_put (D := (dC, dI)) (ci := 4) (v := .int v164) (ty := .int) (C := RX4) (T := TX4) (N := 7) hx hb hts hi4 tyX4 tyX4_ok nmX4 hown hK hP hD hS j165 hj165 rfl 2 (by decide) (hts (.fieldLink RX4 21 "TallyLogs$Replica" "end" "I") (by decide +kernel)) (fun _ h9 => h9) rfl (by decide +kernel) rfl rfl (Nat.le_of_ble_eq_true rfl) dX4_append_22 (fun H locs hP hD hS => ?_)
  have hP := Eq.mp (congrArg (fun w => va_P (dC, dI) vwCl w H) (pP_4_2 (x := v164) hDo ha hk hj165)) hP
  obtain ⟨I166, eI166⟩ : ∃ z, z = p2 I a 2 v164 := ⟨_, rfl⟩
  rw [← eI166] at hP
  have hR : RS v I Q J I166 Q161 J := by rw [eI166]; exact hR.pi hC (by rw [hk]; decide)
  have hC : CT v L K N T I166 Q161 := by rw [eI166]; exact hC.pi (by rw [hk]; decide)
  have hD : va_D A (va_pl L (pF cy K N T I166 Q161 J)) := pD hDo
  exact W.vret hx hb hr (fun t ht hW => ⟨⟨(I166, Q161, J), rfl, ⟨hC, hR⟩, by rw [ht]; exact hP, va_K.moved hW.alike hK, hD⟩, hS.F ht⟩) hS.2.2 dX4_append_25
set_option maxHeartbeats 4000000 in
set_option maxRecDepth 100000 in
/-- Replica.append of null -/
theorem c_X4_append0 (l : Launch) (dC : Nat → ClassId) (dI : Nat → Nat → Nat) (cy : Nat → ClassId) (v : Nat → Nat) (L : List Nat) (K N : Nat → Nat) (T : Nat → Nat → Nat) (I : Nat → Nat → Int32) (Q : Nat → Nat → Option Nat) (J : Nat → Nat → Int32) (sz : Nat) (a : Nat)  (hC : CT v L K N T I Q) (ha : a ∈ L) (hk : K a = 4) : Met l yX4_append wsX4_append ({ frames := 1, cells := 0, slots := 0, locals := 22 }) (va_Pc [.ref a, .null] (pW dC dI cy L (pF cy K N T I Q J) sz)) (va_Qv (fun d : (Nat → Nat → Int32) × (Nat → Nat → Option Nat) × (Nat → Nat → Int32) => CT v L K N T d.1 d.2.1 ∧ RS v I Q J d.1 d.2.1 d.2.2) (fun (d : (Nat → Nat → Int32) × (Nat → Nat → Option Nat) × (Nat → Nat → Int32)) t => va_P (dC, dI) vwCl (va_pl L (pF cy K N T d.1 d.2.1 d.2.2)) t.heap ∧ va_K (dC, dI) vwCl (pTy cy) t ∧ va_D (va_A (va_pl L (pF cy K N T I Q J)) sz) (va_pl L (pF cy K N T d.1 d.2.1 d.2.2))) (va_A (va_pl L (pF cy K N T I Q J)) sz)) 0 0 (va_A (va_pl L (pF cy K N T I Q J)) sz) := by
  refine Met.ofW (cc := cX4_append) (maxL := 2) (ret := none) (by decide) rfl ?_
  intro p e s m args below meth c s₁ B hml hv
  obtain ⟨rfl, hsz, ⟨hP, hK, hN⟩, hD0⟩ := hv
  have hx := B.exec
  have hb := B.bytes
  have hr := B.returns
  have hts := atoms_spec (ws := wsX4_append) B.pre
  have hown : s.vm.findClass RX4 = some m.cls := findClass_of_methodNamed B.named
  have hlocks := B.notSynchronized
  have hi4 : ∀ w ∈ wsX40, w ∈ wsX4_append := by decide +kernel
  have hl := lv_entry ([.ref a, .null]) (n := 2) (Nat.le_of_ble_eq_true rfl)
  rw [lg_entry_eq]
  generalize (lg_sl ([.ref a, .null]) ++ List.replicate (2 - (lg_sl ([.ref a, .null])).length) Slot.unset).toArray = ls at hl ⊢
  have hl : lv_has ls 2 [(0, .ref a), (1, .null)] := hl
  subst hsz
  have hD := hD0.self (sz := s.heap.size)
  generalize hAe : va_A (va_pl L (pF cy K N T I Q J)) s.heap.size = A at hD ⊢
  have hA : ∀ q : Nat, s.heap.size ≤ q → A q := fun q h => by rw [← hAe]; exact Or.inr h
  have hS : va_S A s.heap s.heap [] := va_S.rf
  have hR : RS v I Q J I Q J := RS.rf
  have hn28 := hN.1
  have hn30 := hN.2.1
  have hn37 := hN.2.2.1
  refine lv_aload_n hx hb dX4_append_0 rfl (lv_at hl 0 rfl) ?_
  obtain ⟨j167, hj167⟩ := pG_4 (cy := cy) (N := N) (T := T) (I := I) (Q := Q) (J := J) ha hk
  refine va_get (D := (dC, dI)) (ci := 4) (v := .ref (T a 0)) (C := RX4) (T := TX4) (N := 7) hx hb hts hi4 hown hK hP j167 hj167 rfl 0 (by decide) (hts (.fieldLink RX4 11 "TallyLogs$Replica" "slots" "[LTallyLogs$Entry;") (by decide +kernel)) (fun _ h9 => h9) rfl dX4_append_1 ?_
  obtain ⟨t168, et168⟩ : ∃ t, t = T a 0 := ⟨_, rfl⟩
  have hLt168 : t168 ∈ L := by rw [et168]; exact (hC.2.2.2.2.2.2.1 a ha hk).1
  have hkt168 : K t168 = 8 := by rw [et168]; exact (hC.2.2.2.2.2.2.1 a ha hk).2
  refine W.eq (g2 := F0 m 4 ls [.ref t168]) (by rw [et168]) ?_
  refine lv_aload_n hx hb dX4_append_4 rfl (lv_at hl 0 rfl) ?_
  obtain ⟨j169, hj169⟩ := pG_4 (cy := cy) (N := N) (T := T) (I := I) (Q := Q) (J := J) ha hk
  refine va_get (D := (dC, dI)) (ci := 4) (v := .int (I a 2)) (C := RX4) (T := TX4) (N := 7) hx hb hts hi4 hown hK hP j169 hj169 rfl 2 (by decide) (hts (.fieldLink RX4 21 "TallyLogs$Replica" "end" "I") (by decide +kernel)) (fun _ h9 => h9) rfl dX4_append_5 ?_
  refine lv_topi (fun x170 ex170 => ?_)
  refine lv_bipush (v := 60) hx hb dX4_append_8 (by decide) ?_
  refine vp_callSi (W.runS (As := [.int x170, .int 60]) (rest := [.ref t168]) ⟨hx, hb, hml, hown, hts⟩ (c_J9_floorMod_7cf53 l x170) (va_cwS 2 hts gX4_append_J9_floorMod_7cf53 rfl rfl rfl (by decide +kernel) ⟨Nat.le_of_ble_eq_true rfl, Nat.le_of_ble_eq_true rfl⟩) preEq rfl rfl hl.1 rfl (lv_room (Nat.le_of_ble_eq_true rfl)) dX4_append_10 ⟨Nat.le_of_ble_eq_true rfl, Nat.le_of_ble_eq_true rfl⟩) (fun r171 hr171 => ?_)
  have hinr171 : vp_in r171 60 := by rw [hr171]; exact sp_fm_in _
  refine lv_aload_nN hx hb dX4_append_13 rfl (lv_at hl 1 rfl) ?_
  obtain ⟨j172, hj172⟩ := pG_8 (cy := cy) (N := N) (T := T) (I := I) (Q := Q) (J := J) hLt168 hkt168
  have hDo := hD
  refine va_astqN hx hb hK hP hD hS j172 1 hj172 rfl hinr171 dX4_append_14 (fun H locs hP hD hS => ?_)
  have hP := Eq.mp (congrArg (fun w => va_P (dC, dI) vwCl w H) (pS_8 (x := none) hDo hLt168 hkt168 hj172)) hP
  obtain ⟨Q173, eQ173⟩ : ∃ z, z = p2 Q t168 r171.toNatClampNeg none := ⟨_, rfl⟩
  rw [← eQ173] at hP
  have hR : RS v I Q J I Q173 J := by rw [eQ173]; exact hR.pq hC (by rw [hkt168]; decide)
  have hC : CT v L K N T I Q173 := by rw [eQ173]; exact hC.q8 hkt168 (fun b hb => by cases hb)
  have hD : va_D A (va_pl L (pF cy K N T I Q173 J)) := pD hDo
  refine lv_aload_n hx hb dX4_append_15 rfl (lv_at hl 0 rfl) ?_
  refine lv_dup hx hb dX4_append_16 rfl ?_
  obtain ⟨j174, hj174⟩ := pG_4 (cy := cy) (N := N) (T := T) (I := I) (Q := Q173) (J := J) ha hk
  refine va_get (D := (dC, dI)) (ci := 4) (v := .int (I a 2)) (C := RX4) (T := TX4) (N := 7) hx hb hts hi4 hown hK hP j174 hj174 rfl 2 (by decide) (hts (.fieldLink RX4 21 "TallyLogs$Replica" "end" "I") (by decide +kernel)) (fun _ h9 => h9) rfl dX4_append_17 ?_
  refine lv_topi (fun x175 ex175 => ?_)
  refine lv_iconst (v := 1) hx hb dX4_append_20 (by decide) ?_
  refine lv_iadd hx hb dX4_append_21 ?_
  refine lv_topi (fun v176 ev176 => ?_)
  obtain ⟨j177, hj177⟩ := pG_4 (cy := cy) (N := N) (T := T) (I := I) (Q := Q173) (J := J) ha hk
  have hDo := hD
  refine va_put (D := (dC, dI)) (ci := 4) (v := .int v176) (ty := .int) (C := RX4) (T := TX4) (N := 7) hx hb hts hi4 tyX4 tyX4_ok nmX4 hown hK hP hD hS j177 hj177 rfl 2 (by decide) (hts (.fieldLink RX4 21 "TallyLogs$Replica" "end" "I") (by decide +kernel)) (fun _ h9 => h9) rfl (by decide +kernel) rfl rfl (Nat.le_of_ble_eq_true rfl) dX4_append_22 (fun H locs hP hD hS => ?_)
  have hP := Eq.mp (congrArg (fun w => va_P (dC, dI) vwCl w H) (pP_4_2 (x := v176) hDo ha hk hj177)) hP
  obtain ⟨I178, eI178⟩ : ∃ z, z = p2 I a 2 v176 := ⟨_, rfl⟩
  rw [← eI178] at hP
  have hR : RS v I Q J I178 Q173 J := by rw [eI178]; exact hR.pi hC (by rw [hk]; decide)
  have hC : CT v L K N T I178 Q173 := by rw [eI178]; exact hC.pi (by rw [hk]; decide)
  have hD : va_D A (va_pl L (pF cy K N T I178 Q173 J)) := pD hDo
  exact W.vret hx hb hr (fun t ht hW => ⟨⟨(I178, Q173, J), rfl, ⟨hC, hR⟩, by rw [ht]; exact hP, va_K.moved hW.alike hK, hD⟩, hS.F ht⟩) hS.2.2 dX4_append_25
