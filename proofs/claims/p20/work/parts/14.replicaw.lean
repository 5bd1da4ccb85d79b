theorem xmax0 {x y z : Int32} (h : z = if x < y then y else x) (hx : 0 ≤ x.toInt) : 0 ≤ z.toInt := by
  subst h
  by_cases q : x < y
  · rw [if_pos q]; rw [xk_lt] at q; omega
  · rw [if_neg q]; exact hx
set_option maxHeartbeats 4000000 in
set_option maxRecDepth 100000 in
/-- Replica.dropBefore -/
theorem c_X4_dropBefore (l : Launch) (dC : Nat → ClassId) (dI : Nat → Nat → Nat) (cy : Nat → ClassId) (v : Nat → Nat) (L : List Nat) (K N : Nat → Nat) (T : Nat → Nat → Nat) (I : Nat → Nat → Int32) (Q : Nat → Nat → Option Nat) (J : Nat → Nat → Int32) (sz : Nat) (a : Nat) (xo : Int32) (hC : CT v L K N T I Q) (ha : a ∈ L) (hk : K a = 4) : Met l yX4_dropBefore wsX4_dropBefore ({ frames := 1, cells := 0, slots := 0, locals := 21 }) (va_Pc [.ref a, .int xo] (pW dC dI cy L (pF cy K N T I Q J) sz)) (va_Qv (fun d : (Nat → Nat → Int32) × (Nat → Nat → Option Nat) × (Nat → Nat → Int32) => CT v L K N T d.1 d.2.1 ∧ RS v I Q J d.1 d.2.1 d.2.2) (fun (d : (Nat → Nat → Int32) × (Nat → Nat → Option Nat) × (Nat → Nat → Int32)) t => va_P (dC, dI) vwCl (va_pl L (pF cy K N T d.1 d.2.1 d.2.2)) t.heap ∧ va_K (dC, dI) vwCl (pTy cy) t ∧ va_D (va_A (va_pl L (pF cy K N T I Q J)) sz) (va_pl L (pF cy K N T d.1 d.2.1 d.2.2))) (va_A (va_pl L (pF cy K N T I Q J)) sz)) 0 0 (va_A (va_pl L (pF cy K N T I Q J)) sz) := by
  refine Met.ofW (cc := cX4_dropBefore) (maxL := 2) (ret := none) (by decide) rfl ?_
  intro p e s m args below meth c s₁ B hml hv
  obtain ⟨rfl, hsz, ⟨hP, hK⟩, hD0⟩ := hv
  have hx := B.exec
  have hb := B.bytes
  have hr := B.returns
  have hts := atoms_spec (ws := wsX4_dropBefore) B.pre
  have hown : s.vm.findClass RX4 = some m.cls := findClass_of_methodNamed B.named
  have hlocks := B.notSynchronized
  have hi4 : ∀ w ∈ wsX40, w ∈ wsX4_dropBefore := by decide +kernel
  have hl := lv_entry ([.ref a, .int xo]) (n := 2) (Nat.le_of_ble_eq_true rfl)
  rw [lg_entry_eq]
  generalize (lg_sl ([.ref a, .int xo]) ++ List.replicate (2 - (lg_sl ([.ref a, .int xo])).length) Slot.unset).toArray = ls at hl ⊢
  have hl : lv_has ls 2 [(0, .ref a), (1, .int xo)] := hl
  subst hsz
  have hD := hD0.self (sz := s.heap.size)
  generalize hAe : va_A (va_pl L (pF cy K N T I Q J)) s.heap.size = A at hD ⊢
  have hA : ∀ q : Nat, s.heap.size ≤ q → A q := fun q h => by rw [← hAe]; exact Or.inr h
  have hS : va_S A s.heap s.heap [] := va_S.rf
  have hR : RS v I Q J I Q J := RS.rf
  refine lv_aload_n hx hb dX4_dropBefore_0 rfl (lv_at hl 0 rfl) ?_
  refine lv_aload_n hx hb dX4_dropBefore_1 rfl (lv_at hl 0 rfl) ?_
  obtain ⟨j124, hj124⟩ := pG_4 (cy := cy) (N := N) (T := T) (I := I) (Q := Q) (J := J) ha hk
  refine va_get (D := (dC, dI)) (ci := 4) (v := .int (I a 1)) (C := RX4) (T := TX4) (N := 7) hx hb hts hi4 hown hK hP j124 hj124 rfl 1 (by decide) (hts (.fieldLink RX4 17 "TallyLogs$Replica" "start" "I") (by decide +kernel)) (fun _ h9 => h9) rfl dX4_dropBefore_2 ?_
  refine lv_topi (fun x125 ex125 => ?_)
  refine lv_iload_n hx hb dX4_dropBefore_5 rfl (lv_at hl 1 rfl) ?_
  refine va_mmax hx hb (by rw [hml]; exact hl.1.symm) hown (hts (.methodLink RX4 46 Lib.Math.max.name) (by decide +kernel)) (hts (.static Lib.Math.max.name) (by decide +kernel)) (hts (.initialized "java/lang/Math") (by decide +kernel)) (hts _ (List.mem_of_getElem? (i := 5) rfl)) (Nat.le_of_ble_eq_true rfl) (Nat.le_of_ble_eq_true rfl) (Nat.le_of_ble_eq_true rfl) (Nat.le_of_ble_eq_true rfl) dX4_dropBefore_6 ?_
  refine lv_topi (fun z126 ez126 => ?_)
  obtain ⟨j127, hj127⟩ := pG_4 (cy := cy) (N := N) (T := T) (I := I) (Q := Q) (J := J) ha hk
  have hDo := hD
  refine va_put (D := (dC, dI)) (ci := 4) (v := .int z126) (ty := .int) (C := RX4) (T := TX4) (N := 7) hx hb hts hi4 tyX4 tyX4_ok nmX4 hown hK hP hD hS j127 hj127 rfl 1 (by decide) (hts (.fieldLink RX4 17 "TallyLogs$Replica" "start" "I") (by decide +kernel)) (fun _ h9 => h9) rfl (by decide +kernel) rfl rfl (Nat.le_of_ble_eq_true rfl) dX4_dropBefore_9 (fun H locs hP hD hS => ?_)
  rw [show _ = _ from pP_4_1 hDo ha hk hj127] at hP
  obtain ⟨I128, eI128⟩ : ∃ z, z = p2 I a 1 z126 := ⟨_, rfl⟩
  rw [← eI128] at hP
  have hR : RS v I Q J I128 Q J := by rw [eI128]; exact hR.pi hC (by rw [hk]; decide)
  have hC : CT v L K N T I128 Q := by rw [eI128]; exact hC.ps (xmax0 ez126 (by rw [ex125]; exact hC.2.2.2.2.2.2.2.1 a ha hk))
  have hD : va_D A (va_pl L (pF cy K N T I128 Q J)) := pD hDo
  refine lv_aload_n hx hb dX4_dropBefore_12 rfl (lv_at hl 0 rfl) ?_
  refine lv_aload_n hx hb dX4_dropBefore_13 rfl (lv_at hl 0 rfl) ?_
  obtain ⟨j129, hj129⟩ := pG_4 (cy := cy) (N := N) (T := T) (I := I128) (Q := Q) (J := J) ha hk
  refine va_get (D := (dC, dI)) (ci := 4) (v := .int (I128 a 4)) (C := RX4) (T := TX4) (N := 7) hx hb hts hi4 hown hK hP j129 hj129 rfl 4 (by decide) (hts (.fieldLink RX4 27 "TallyLogs$Replica" "flushed" "I") (by decide +kernel)) (fun _ h9 => h9) rfl dX4_dropBefore_14 ?_
  refine lv_topi (fun x130 ex130 => ?_)
  refine lv_aload_n hx hb dX4_dropBefore_17 rfl (lv_at hl 0 rfl) ?_
  obtain ⟨j131, hj131⟩ := pG_4 (cy := cy) (N := N) (T := T) (I := I128) (Q := Q) (J := J) ha hk
  refine va_get (D := (dC, dI)) (ci := 4) (v := .int (I128 a 1)) (C := RX4) (T := TX4) (N := 7) hx hb hts hi4 hown hK hP j131 hj131 rfl 1 (by decide) (hts (.fieldLink RX4 17 "TallyLogs$Replica" "start" "I") (by decide +kernel)) (fun _ h9 => h9) rfl dX4_dropBefore_18 ?_
  refine lv_topi (fun x132 ex132 => ?_)
  refine va_mmax hx hb (by rw [hml]; exact hl.1.symm) hown (hts (.methodLink RX4 46 Lib.Math.max.name) (by decide +kernel)) (hts (.static Lib.Math.max.name) (by decide +kernel)) (hts (.initialized "java/lang/Math") (by decide +kernel)) (hts _ (List.mem_of_getElem? (i := 5) rfl)) (Nat.le_of_ble_eq_true rfl) (Nat.le_of_ble_eq_true rfl) (Nat.le_of_ble_eq_true rfl) (Nat.le_of_ble_eq_true rfl) dX4_dropBefore_21 ?_
  refine lv_topi (fun z133 ez133 => ?_)
  obtain ⟨j134, hj134⟩ := pG_4 (cy := cy) (N := N) (T := T) (I := I128) (Q := Q) (J := J) ha hk
  have hDo := hD
  refine va_put (D := (dC, dI)) (ci := 4) (v := .int z133) (ty := .int) (C := RX4) (T := TX4) (N := 7) hx hb hts hi4 tyX4 tyX4_ok nmX4 hown hK hP hD hS j134 hj134 rfl 4 (by decide) (hts (.fieldLink RX4 27 "TallyLogs$Replica" "flushed" "I") (by decide +kernel)) (fun _ h9 => h9) rfl (by decide +kernel) rfl rfl (Nat.le_of_ble_eq_true rfl) dX4_dropBefore_24 (fun H locs hP hD hS => ?_)
  rw [show _ = _ from pP_4_4 hDo ha hk hj134] at hP
  obtain ⟨I135, eI135⟩ : ∃ z, z = p2 I128 a 4 z133 := ⟨_, rfl⟩
  rw [← eI135] at hP
  have hR : RS v I Q J I135 Q J := by rw [eI135]; exact hR.pi hC (by rw [hk]; decide)
  have hC : CT v L K N T I135 Q := by rw [eI135]; exact hC.pi (by rw [hk]; decide)
  have hD : va_D A (va_pl L (pF cy K N T I135 Q J)) := pD hDo
  exact W.vret hx hb hr (fun t ht hW => ⟨⟨(I135, Q, J), rfl, ⟨hC, hR⟩, by rw [ht]; exact hP, va_K.moved hW.alike hK, hD⟩, hS.F ht⟩) hS.2.2 dX4_dropBefore_27
set_option maxHeartbeats 4000000 in
set_option maxRecDepth 100000 in
/-- Replica.loseUnflushed -/
theorem c_X4_loseUnflushed (l : Launch) (dC : Nat → ClassId) (dI : Nat → Nat → Nat) (cy : Nat → ClassId) (v : Nat → Nat) (L : List Nat) (K N : Nat → Nat) (T : Nat → Nat → Nat) (I : Nat → Nat → Int32) (Q : Nat → Nat → Option Nat) (J : Nat → Nat → Int32) (sz : Nat) (a : Nat) (xk : Int32) (hC : CT v L K N T I Q) (ha : a ∈ L) (hk : K a = 4) : Met l yX4_loseUnflushed wsX4_loseUnflushed ({ frames := 1, cells := 0, slots := 0, locals := 21 }) (va_Pc [.ref a, .int xk] (pW dC dI cy L (pF cy K N T I Q J) sz)) (va_Qv (fun d : (Nat → Nat → Int32) × (Nat → Nat → Option Nat) × (Nat → Nat → Int32) => CT v L K N T d.1 d.2.1 ∧ RS v I Q J d.1 d.2.1 d.2.2) (fun (d : (Nat → Nat → Int32) × (Nat → Nat → Option Nat) × (Nat → Nat → Int32)) t => va_P (dC, dI) vwCl (va_pl L (pF cy K N T d.1 d.2.1 d.2.2)) t.heap ∧ va_K (dC, dI) vwCl (pTy cy) t ∧ va_D (va_A (va_pl L (pF cy K N T I Q J)) sz) (va_pl L (pF cy K N T d.1 d.2.1 d.2.2))) (va_A (va_pl L (pF cy K N T I Q J)) sz)) 0 0 (va_A (va_pl L (pF cy K N T I Q J)) sz) := by
  refine Met.ofW (cc := cX4_loseUnflushed) (maxL := 2) (ret := none) (by decide) rfl ?_
  intro p e s m args below meth c s₁ B hml hv
  obtain ⟨rfl, hsz, ⟨hP, hK⟩, hD0⟩ := hv
  have hx := B.exec
  have hb := B.bytes
  have hr := B.returns
  have hts := atoms_spec (ws := wsX4_loseUnflushed) B.pre
  have hown : s.vm.findClass RX4 = some m.cls := findClass_of_methodNamed B.named
  have hlocks := B.notSynchronized
  have hi4 : ∀ w ∈ wsX40, w ∈ wsX4_loseUnflushed := by decide +kernel
  have hl := lv_entry ([.ref a, .int xk]) (n := 2) (Nat.le_of_ble_eq_true rfl)
  rw [lg_entry_eq]
  generalize (lg_sl ([.ref a, .int xk]) ++ List.replicate (2 - (lg_sl ([.ref a, .int xk])).length) Slot.unset).toArray = ls at hl ⊢
  have hl : lv_has ls 2 [(0, .ref a), (1, .int xk)] := hl
  subst hsz
  have hD := hD0.self (sz := s.heap.size)
  generalize hAe : va_A (va_pl L (pF cy K N T I Q J)) s.heap.size = A at hD ⊢
  have hA : ∀ q : Nat, s.heap.size ≤ q → A q := fun q h => by rw [← hAe]; exact Or.inr h
  have hS : va_S A s.heap s.heap [] := va_S.rf
  have hR : RS v I Q J I Q J := RS.rf
  refine lv_aload_n hx hb dX4_loseUnflushed_0 rfl (lv_at hl 0 rfl) ?_
  refine lv_aload_n hx hb dX4_loseUnflushed_1 rfl (lv_at hl 0 rfl) ?_
  obtain ⟨j136, hj136⟩ := pG_4 (cy := cy) (N := N) (T := T) (I := I) (Q := Q) (J := J) ha hk
  refine va_get (D := (dC, dI)) (ci := 4) (v := .int (I a 4)) (C := RX4) (T := TX4) (N := 7) hx hb hts hi4 hown hK hP j136 hj136 rfl 4 (by decide) (hts (.fieldLink RX4 27 "TallyLogs$Replica" "flushed" "I") (by decide +kernel)) (fun _ h9 => h9) rfl dX4_loseUnflushed_2 ?_
  refine lv_topi (fun x137 ex137 => ?_)
  refine lv_iload_n hx hb dX4_loseUnflushed_5 rfl (lv_at hl 1 rfl) ?_
  refine lv_aload_n hx hb dX4_loseUnflushed_6 rfl (lv_at hl 0 rfl) ?_
  obtain ⟨j138, hj138⟩ := pG_4 (cy := cy) (N := N) (T := T) (I := I) (Q := Q) (J := J) ha hk
  refine va_get (D := (dC, dI)) (ci := 4) (v := .int (I a 2)) (C := RX4) (T := TX4) (N := 7) hx hb hts hi4 hown hK hP j138 hj138 rfl 2 (by decide) (hts (.fieldLink RX4 21 "TallyLogs$Replica" "end" "I") (by decide +kernel)) (fun _ h9 => h9) rfl dX4_loseUnflushed_7 ?_
  refine lv_topi (fun x139 ex139 => ?_)
  refine lv_aload_n hx hb dX4_loseUnflushed_10 rfl (lv_at hl 0 rfl) ?_
  obtain ⟨j140, hj140⟩ := pG_4 (cy := cy) (N := N) (T := T) (I := I) (Q := Q) (J := J) ha hk
  refine va_get (D := (dC, dI)) (ci := 4) (v := .int (I a 4)) (C := RX4) (T := TX4) (N := 7) hx hb hts hi4 hown hK hP j140 hj140 rfl 4 (by decide) (hts (.fieldLink RX4 27 "TallyLogs$Replica" "flushed" "I") (by decide +kernel)) (fun _ h9 => h9) rfl dX4_loseUnflushed_11 ?_
  refine lv_topi (fun x141 ex141 => ?_)
  refine lv_isub hx hb dX4_loseUnflushed_14 ?_
  refine lv_topi (fun v142 ev142 => ?_)
  refine va_mmin hx hb (by rw [hml]; exact hl.1.symm) hown (hts (.methodLink RX4 49 Lib.Math.min.name) (by decide +kernel)) (hts (.static Lib.Math.min.name) (by decide +kernel)) (hts (.initialized "java/lang/Math") (by decide +kernel)) (hts _ (List.mem_of_getElem? (i := 6) rfl)) (Nat.le_of_ble_eq_true rfl) (Nat.le_of_ble_eq_true rfl) (Nat.le_of_ble_eq_true rfl) (Nat.le_of_ble_eq_true rfl) dX4_loseUnflushed_15 ?_
  refine lv_topi (fun z143 ez143 => ?_)
  refine lv_iadd hx hb dX4_loseUnflushed_18 ?_
  refine lv_topi (fun v144 ev144 => ?_)
  obtain ⟨j145, hj145⟩ := pG_4 (cy := cy) (N := N) (T := T) (I := I) (Q := Q) (J := J) ha hk
  have hDo := hD
  refine va_put (D := (dC, dI)) (ci := 4) (v := .int v144) (ty := .int) (C := RX4) (T := TX4) (N := 7) hx hb hts hi4 tyX4 tyX4_ok nmX4 hown hK hP hD hS j145 hj145 rfl 2 (by decide) (hts (.fieldLink RX4 21 "TallyLogs$Replica" "end" "I") (by decide +kernel)) (fun _ h9 => h9) rfl (by decide +kernel) rfl rfl (Nat.le_of_ble_eq_true rfl) dX4_loseUnflushed_19 (fun H locs hP hD hS => ?_)
  rw [show _ = _ from pP_4_2 hDo ha hk hj145] at hP
  obtain ⟨I146, eI146⟩ : ∃ z, z = p2 I a 2 v144 := ⟨_, rfl⟩
  rw [← eI146] at hP
  have hR : RS v I Q J I146 Q J := by rw [eI146]; exact hR.pi hC (by rw [hk]; decide)
  have hC : CT v L K N T I146 Q := by rw [eI146]; exact hC.pi (by rw [hk]; decide)
  have hD : va_D A (va_pl L (pF cy K N T I146 Q J)) := pD hDo
  refine lv_aload_n hx hb dX4_loseUnflushed_22 rfl (lv_at hl 0 rfl) ?_
  refine lv_aload_n hx hb dX4_loseUnflushed_23 rfl (lv_at hl 0 rfl) ?_
  obtain ⟨j147, hj147⟩ := pG_4 (cy := cy) (N := N) (T := T) (I := I146) (Q := Q) (J := J) ha hk
  refine va_get (D := (dC, dI)) (ci := 4) (v := .int (I146 a 3)) (C := RX4) (T := TX4) (N := 7) hx hb hts hi4 hown hK hP j147 hj147 rfl 3 (by decide) (hts (.fieldLink RX4 24 "TallyLogs$Replica" "hw" "I") (by decide +kernel)) (fun _ h9 => h9) rfl dX4_loseUnflushed_24 ?_
  refine lv_topi (fun x148 ex148 => ?_)
  refine lv_aload_n hx hb dX4_loseUnflushed_27 rfl (lv_at hl 0 rfl) ?_
  obtain ⟨j149, hj149⟩ := pG_4 (cy := cy) (N := N) (T := T) (I := I146) (Q := Q) (J := J) ha hk
  refine va_get (D := (dC, dI)) (ci := 4) (v := .int (I146 a 2)) (C := RX4) (T := TX4) (N := 7) hx hb hts hi4 hown hK hP j149 hj149 rfl 2 (by decide) (hts (.fieldLink RX4 21 "TallyLogs$Replica" "end" "I") (by decide +kernel)) (fun _ h9 => h9) rfl dX4_loseUnflushed_28 ?_
  refine lv_topi (fun x150 ex150 => ?_)
  refine va_mmin hx hb (by rw [hml]; exact hl.1.symm) hown (hts (.methodLink RX4 49 Lib.Math.min.name) (by decide +kernel)) (hts (.static Lib.Math.min.name) (by decide +kernel)) (hts (.initialized "java/lang/Math") (by decide +kernel)) (hts _ (List.mem_of_getElem? (i := 6) rfl)) (Nat.le_of_ble_eq_true rfl) (Nat.le_of_ble_eq_true rfl) (Nat.le_of_ble_eq_true rfl) (Nat.le_of_ble_eq_true rfl) dX4_loseUnflushed_31 ?_
  refine lv_topi (fun z151 ez151 => ?_)
  obtain ⟨j152, hj152⟩ := pG_4 (cy := cy) (N := N) (T := T) (I := I146) (Q := Q) (J := J) ha hk
  have hDo := hD
  refine va_put (D := (dC, dI)) (ci := 4) (v := .int z151) (ty := .int) (C := RX4) (T := TX4) (N := 7) hx hb hts hi4 tyX4 tyX4_ok nmX4 hown hK hP hD hS j152 hj152 rfl 3 (by decide) (hts (.fieldLink RX4 24 "TallyLogs$Replica" "hw" "I") (by decide +kernel)) (fun _ h9 => h9) rfl (by decide +kernel) rfl rfl (Nat.le_of_ble_eq_true rfl) dX4_loseUnflushed_34 (fun H locs hP hD hS => ?_)
  rw [show _ = _ from pP_4_3 hDo ha hk hj152] at hP
  obtain ⟨I153, eI153⟩ : ∃ z, z = p2 I146 a 3 z151 := ⟨_, rfl⟩
  rw [← eI153] at hP
  have hR : RS v I Q J I153 Q J := by rw [eI153]; exact hR.pi hC (by rw [hk]; decide)
  have hC : CT v L K N T I153 Q := by rw [eI153]; exact hC.pi (by rw [hk]; decide)
  have hD : va_D A (va_pl L (pF cy K N T I153 Q J)) := pD hDo
  exact W.vret hx hb hr (fun t ht hW => ⟨⟨(I153, Q, J), rfl, ⟨hC, hR⟩, by rw [ht]; exact hP, va_K.moved hW.alike hK, hD⟩, hS.F ht⟩) hS.2.2 dX4_loseUnflushed_37
