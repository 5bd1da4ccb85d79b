set_option maxHeartbeats 4000000 in
set_option maxRecDepth 100000 in
/-- Producer.open -/
theorem c_X3_open (l : Launch) (dC : Nat → ClassId) (dI : Nat → Nat → Nat) (cy : Nat → ClassId) (v : Nat → Nat) (L : List Nat) (K N : Nat → Nat) (T : Nat → Nat → Nat) (I : Nat → Nat → Int32) (Q : Nat → Nat → Option Nat) (J : Nat → Nat → Int32) (sz : Nat) (a : Nat)  (hC : CT v L K N T I Q) (ha : a ∈ L) (hk : K a = 3) : Met l yX3_open wsX3_open ({ frames := 0, cells := 0, slots := 0, locals := 0 }) (va_Pc [.ref a] (pW dC dI cy L (pF cy K N T I Q J) sz)) (va_Qv (fun d : (Nat → Nat → Int32) × (Nat → Nat → Option Nat) × (Nat → Nat → Int32) => CT v L K N T d.1 d.2.1 ∧ RS v I Q J d.1 d.2.1 d.2.2) (fun (d : (Nat → Nat → Int32) × (Nat → Nat → Option Nat) × (Nat → Nat → Int32)) t => va_P (dC, dI) vwCl (va_pl L (pF cy K N T d.1 d.2.1 d.2.2)) t.heap ∧ va_K (dC, dI) vwCl (pTy cy) t ∧ va_D (va_A (va_pl L (pF cy K N T I Q J)) sz) (va_pl L (pF cy K N T d.1 d.2.1 d.2.2))) (va_A (va_pl L (pF cy K N T I Q J)) sz)) 0 0 (va_A (va_pl L (pF cy K N T I Q J)) sz) := by
  refine Met.ofW (cc := cX3_open) (maxL := 1) (ret := none) (by decide) rfl ?_
  intro p e s m args below meth c s₁ B hml hv
  obtain ⟨rfl, hsz, ⟨hP, hK, hN⟩, hD0⟩ := hv
  have hx := B.exec
  have hb := B.bytes
  have hr := B.returns
  have hts := atoms_spec (ws := wsX3_open) B.pre
  have hown : s.vm.findClass RX3 = some m.cls := findClass_of_methodNamed B.named
  have hlocks := B.notSynchronized
  have hi3 : ∀ w ∈ wsX30, w ∈ wsX3_open := by decide +kernel
  have hl := lv_entry ([.ref a]) (n := 1) (Nat.le_of_ble_eq_true rfl)
  rw [lg_entry_eq]
  generalize (lg_sl ([.ref a]) ++ List.replicate (1 - (lg_sl ([.ref a])).length) Slot.unset).toArray = ls at hl ⊢
  have hl : lv_has ls 1 [(0, .ref a)] := hl
  subst hsz
  have hD := hD0.self (sz := s.heap.size)
  generalize hAe : va_A (va_pl L (pF cy K N T I Q J)) s.heap.size = A at hD ⊢
  have hA : ∀ q : Nat, s.heap.size ≤ q → A q := fun q h => by rw [← hAe]; exact Or.inr h
  have hS : va_S A s.heap s.heap [] := va_S.rf
  have hR : RS v I Q J I Q J := RS.rf
  have hn28 := hN.1
  have hn30 := hN.2.1
  have hn37 := hN.2.2.1
  refine lv_aload_n hx hb dX3_open_0 rfl (lv_at hl 0 rfl) ?_
  refine lv_iconst (v := 1) hx hb dX3_open_1 (by decide) ?_
  obtain ⟨j445, hj445⟩ := pG_3 (cy := cy) (N := N) (T := T) (I := I) (Q := Q) (J := J) ha hk
  have hDo := hD
  refine va_put (D := (dC, dI)) (ci := 3) (v := .int 1) (ty := .int) (C := RX3) (T := TX3) (N := 6) hx hb hts hi3 tyX3 tyX3_ok nmX3 hown hK hP hD hS j445 hj445 rfl 2 (by decide) (hts (.fieldLink RX3 15 "TallyLogs$Producer" "mode" "I") (by decide +kernel)) (fun _ h9 => h9) rfl (by decide +kernel) rfl rfl (Nat.le_of_ble_eq_true rfl) dX3_open_2 (fun H locs hP hD hS => ?_)
  have hP := Eq.mp (congrArg (fun w => va_P (dC, dI) vwCl w H) (pP_3_2 (x := 1) hDo ha hk hj445)) hP
  obtain ⟨I446, eI446⟩ : ∃ z, z = p2 I a 2 1 := ⟨_, rfl⟩
  rw [← eI446] at hP
  have hR : RS v I Q J I446 Q J := by rw [eI446]; exact hR.pi hC (by rw [hk]; decide)
  have hC : CT v L K N T I446 Q := by rw [eI446]; exact hC.pi (by rw [hk]; decide)
  have hD : va_D A (va_pl L (pF cy K N T I446 Q J)) := pD hDo
  refine lv_aload_n hx hb dX3_open_5 rfl (lv_at hl 0 rfl) ?_
  refine lv_aload_n hx hb dX3_open_6 rfl (lv_at hl 0 rfl) ?_
  obtain ⟨j447, hj447⟩ := pG_3 (cy := cy) (N := N) (T := T) (I := I446) (Q := Q) (J := J) ha hk
  refine va_get (D := (dC, dI)) (ci := 3) (v := .int (I446 a 1)) (C := RX3) (T := TX3) (N := 6) hx hb hts hi3 hown hK hP j447 hj447 rfl 1 (by decide) (hts (.fieldLink RX3 9 "TallyLogs$Producer" "generation" "I") (by decide +kernel)) (fun _ h9 => h9) rfl dX3_open_7 ?_
  refine lv_topi (fun x448 ex448 => ?_)
  obtain ⟨j449, hj449⟩ := pG_3 (cy := cy) (N := N) (T := T) (I := I446) (Q := Q) (J := J) ha hk
  have hDo := hD
  refine va_put (D := (dC, dI)) (ci := 3) (v := .int x448) (ty := .int) (C := RX3) (T := TX3) (N := 6) hx hb hts hi3 tyX3 tyX3_ok nmX3 hown hK hP hD hS j449 hj449 rfl 4 (by decide) (hts (.fieldLink RX3 22 "TallyLogs$Producer" "boundGeneration" "I") (by decide +kernel)) (fun _ h9 => h9) rfl (by decide +kernel) rfl rfl (Nat.le_of_ble_eq_true rfl) dX3_open_10 (fun H locs hP hD hS => ?_)
  have hP := Eq.mp (congrArg (fun w => va_P (dC, dI) vwCl w H) (pP_3_4 (x := x448) hDo ha hk hj449)) hP
  obtain ⟨I450, eI450⟩ : ∃ z, z = p2 I446 a 4 x448 := ⟨_, rfl⟩
  rw [← eI450] at hP
  have hR : RS v I Q J I450 Q J := by rw [eI450]; exact hR.pi hC (by rw [hk]; decide)
  have hC : CT v L K N T I450 Q := by rw [eI450]; exact hC.pi (by rw [hk]; decide)
  have hD : va_D A (va_pl L (pF cy K N T I450 Q J)) := pD hDo
  refine lv_aload_n hx hb dX3_open_13 rfl (lv_at hl 0 rfl) ?_
  refine lv_iconst (v := 0) hx hb dX3_open_14 (by decide) ?_
  obtain ⟨j451, hj451⟩ := pG_3 (cy := cy) (N := N) (T := T) (I := I450) (Q := Q) (J := J) ha hk
  have hDo := hD
  refine va_put (D := (dC, dI)) (ci := 3) (v := .int 0) (ty := .int) (C := RX3) (T := TX3) (N := 6) hx hb hts hi3 tyX3 tyX3_ok nmX3 hown hK hP hD hS j451 hj451 rfl 5 (by decide) (hts (.fieldLink RX3 25 "TallyLogs$Producer" "left" "I") (by decide +kernel)) (fun _ h9 => h9) rfl (by decide +kernel) rfl rfl (Nat.le_of_ble_eq_true rfl) dX3_open_15 (fun H locs hP hD hS => ?_)
  have hP := Eq.mp (congrArg (fun w => va_P (dC, dI) vwCl w H) (pP_3_5 (x := 0) hDo ha hk hj451)) hP
  obtain ⟨I452, eI452⟩ : ∃ z, z = p2 I450 a 5 0 := ⟨_, rfl⟩
  rw [← eI452] at hP
  have hR : RS v I Q J I452 Q J := by rw [eI452]; exact hR.pi hC (by rw [hk]; decide)
  have hC : CT v L K N T I452 Q := by rw [eI452]; exact hC.pi (by rw [hk]; decide)
  have hD : va_D A (va_pl L (pF cy K N T I452 Q J)) := pD hDo
  exact W.vret hx hb hr (fun t ht hW => ⟨⟨(I452, Q, J), rfl, ⟨hC, hR⟩, by rw [ht]; exact hP, va_K.moved hW.alike hK, hD⟩, hS.F ht⟩) hS.2.2 dX3_open_18
set_option maxHeartbeats 4000000 in
set_option maxRecDepth 100000 in
/-- Producer.startEnding -/
theorem c_X3_startEnding (l : Launch) (dC : Nat → ClassId) (dI : Nat → Nat → Nat) (cy : Nat → ClassId) (v : Nat → Nat) (L : List Nat) (K N : Nat → Nat) (T : Nat → Nat → Nat) (I : Nat → Nat → Int32) (Q : Nat → Nat → Option Nat) (J : Nat → Nat → Int32) (sz : Nat) (a : Nat) (cm : Int32) (hC : CT v L K N T I Q) (ha : a ∈ L) (hk : K a = 3) (hcm : narrow .boolean (.int cm) = .int cm) (hcf : fits .boolean (.int cm) = true) : Met l yX3_startEnding wsX3_startEnding ({ frames := 0, cells := 0, slots := 0, locals := 0 }) (va_Pc [.ref a, .int cm] (pW dC dI cy L (pF cy K N T I Q J) sz)) (va_Qv (fun d : (Nat → Nat → Int32) × (Nat → Nat → Option Nat) × (Nat → Nat → Int32) => CT v L K N T d.1 d.2.1 ∧ RS v I Q J d.1 d.2.1 d.2.2) (fun (d : (Nat → Nat → Int32) × (Nat → Nat → Option Nat) × (Nat → Nat → Int32)) t => va_P (dC, dI) vwCl (va_pl L (pF cy K N T d.1 d.2.1 d.2.2)) t.heap ∧ va_K (dC, dI) vwCl (pTy cy) t ∧ va_D (va_A (va_pl L (pF cy K N T I Q J)) sz) (va_pl L (pF cy K N T d.1 d.2.1 d.2.2))) (va_A (va_pl L (pF cy K N T I Q J)) sz)) 0 0 (va_A (va_pl L (pF cy K N T I Q J)) sz) := by
  refine Met.ofW (cc := cX3_startEnding) (maxL := 2) (ret := none) (by decide) rfl ?_
  intro p e s m args below meth c s₁ B hml hv
  obtain ⟨rfl, hsz, ⟨hP, hK, hN⟩, hD0⟩ := hv
  have hx := B.exec
  have hb := B.bytes
  have hr := B.returns
  have hts := atoms_spec (ws := wsX3_startEnding) B.pre
  have hown : s.vm.findClass RX3 = some m.cls := findClass_of_methodNamed B.named
  have hlocks := B.notSynchronized
  have hi3 : ∀ w ∈ wsX30, w ∈ wsX3_startEnding := by decide +kernel
  have hl := lv_entry ([.ref a, .int cm]) (n := 2) (Nat.le_of_ble_eq_true rfl)
  rw [lg_entry_eq]
  generalize (lg_sl ([.ref a, .int cm]) ++ List.replicate (2 - (lg_sl ([.ref a, .int cm])).length) Slot.unset).toArray = ls at hl ⊢
  have hl : lv_has ls 2 [(0, .ref a), (1, .int cm)] := hl
  subst hsz
  have hD := hD0.self (sz := s.heap.size)
  generalize hAe : va_A (va_pl L (pF cy K N T I Q J)) s.heap.size = A at hD ⊢
  have hA : ∀ q : Nat, s.heap.size ≤ q → A q := fun q h => by rw [← hAe]; exact Or.inr h
  have hS : va_S A s.heap s.heap [] := va_S.rf
  have hR : RS v I Q J I Q J := RS.rf
  have hn28 := hN.1
  have hn30 := hN.2.1
  have hn37 := hN.2.2.1
  refine lv_aload_n hx hb dX3_startEnding_0 rfl (lv_at hl 0 rfl) ?_
  refine lv_iconst (v := 2) hx hb dX3_startEnding_1 (by decide) ?_
  obtain ⟨j453, hj453⟩ := pG_3 (cy := cy) (N := N) (T := T) (I := I) (Q := Q) (J := J) ha hk
  have hDo := hD
  refine va_put (D := (dC, dI)) (ci := 3) (v := .int 2) (ty := .int) (C := RX3) (T := TX3) (N := 6) hx hb hts hi3 tyX3 tyX3_ok nmX3 hown hK hP hD hS j453 hj453 rfl 2 (by decide) (hts (.fieldLink RX3 15 "TallyLogs$Producer" "mode" "I") (by decide +kernel)) (fun _ h9 => h9) rfl (by decide +kernel) rfl rfl (Nat.le_of_ble_eq_true rfl) dX3_startEnding_2 (fun H locs hP hD hS => ?_)
  have hP := Eq.mp (congrArg (fun w => va_P (dC, dI) vwCl w H) (pP_3_2 (x := 2) hDo ha hk hj453)) hP
  obtain ⟨I454, eI454⟩ : ∃ z, z = p2 I a 2 2 := ⟨_, rfl⟩
  rw [← eI454] at hP
  have hR : RS v I Q J I454 Q J := by rw [eI454]; exact hR.pi hC (by rw [hk]; decide)
  have hC : CT v L K N T I454 Q := by rw [eI454]; exact hC.pi (by rw [hk]; decide)
  have hD : va_D A (va_pl L (pF cy K N T I454 Q J)) := pD hDo
  refine lv_aload_n hx hb dX3_startEnding_5 rfl (lv_at hl 0 rfl) ?_
  refine lv_iload_n hx hb dX3_startEnding_6 rfl (lv_at hl 1 rfl) ?_
  obtain ⟨j455, hj455⟩ := pG_3 (cy := cy) (N := N) (T := T) (I := I454) (Q := Q) (J := J) ha hk
  have hDo := hD
  refine va_put (D := (dC, dI)) (ci := 3) (v := .int cm) (ty := .boolean) (C := RX3) (T := TX3) (N := 6) hx hb hts hi3 tyX3 tyX3_ok nmX3 hown hK hP hD hS j455 hj455 rfl 3 (by decide) (hts (.fieldLink RX3 18 "TallyLogs$Producer" "commits" "Z") (by decide +kernel)) (fun _ h9 => h9) rfl (by decide +kernel) hcm hcf (Nat.le_of_ble_eq_true rfl) dX3_startEnding_7 (fun H locs hP hD hS => ?_)
  have hP := Eq.mp (congrArg (fun w => va_P (dC, dI) vwCl w H) (pP_3_3 (x := cm) hDo ha hk hj455)) hP
  obtain ⟨I456, eI456⟩ : ∃ z, z = p2 I454 a 3 cm := ⟨_, rfl⟩
  rw [← eI456] at hP
  have hR : RS v I Q J I456 Q J := by rw [eI456]; exact hR.pi hC (by rw [hk]; decide)
  have hC : CT v L K N T I456 Q := by rw [eI456]; exact hC.pi (by rw [hk]; decide)
  have hD : va_D A (va_pl L (pF cy K N T I456 Q J)) := pD hDo
  exact W.vret hx hb hr (fun t ht hW => ⟨⟨(I456, Q, J), rfl, ⟨hC, hR⟩, by rw [ht]; exact hP, va_K.moved hW.alike hK, hD⟩, hS.F ht⟩) hS.2.2 dX3_startEnding_10
