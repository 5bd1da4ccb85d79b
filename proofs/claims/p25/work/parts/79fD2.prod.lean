theorem oDb_t {σ : SG} {j : Nat} {o : Int32} : (oDb σ j o).1 = σ.1 := rfl
theorem oC1_t {σ : SG} {j : Nat} {o : Int32} : (oC1 σ j o).1 = σ.1 := rfl
set_option maxHeartbeats 4000000 in
set_option maxRecDepth 100000 in
/-- Producer.open, exactly -/
theorem g_X3_open (l : Launch) (dC : Nat → ClassId) (dI : Nat → Nat → Nat) (cy : Nat → ClassId) (v : Nat → Nat) (L : List Nat) (K N : Nat → Nat) (T : Nat → Nat → Nat) (I : Nat → Nat → Int32) (Q : Nat → Nat → Option Nat) (J : Nat → Nat → Int32) (sz : Nat) (a : Nat)  (hC : CT v L K N T I Q) (ha : a ∈ L) (hk : K a = 3) : Met l yX3_open wsX3_open ({ frames := 0, cells := 0, slots := 0, locals := 0 }) (va_Pc [.ref a] (pW dC dI cy L (pF cy K N T I Q J) sz)) (va_Qv (fun d : (Nat → Nat → Int32) × (Nat → Nat → Option Nat) × (Nat → Nat → Int32) => CT v L K N T d.1 d.2.1 ∧ d.1 = p2 (p2 (p2 I a 2 1) a 4 (I a 1)) a 5 0 ∧ d.2.1 = Q ∧ d.2.2 = J) (fun (d : (Nat → Nat → Int32) × (Nat → Nat → Option Nat) × (Nat → Nat → Int32)) t => va_P (dC, dI) vwCl (va_pl L (pF cy K N T d.1 d.2.1 d.2.2)) t.heap ∧ va_K (dC, dI) vwCl (pTy cy) t ∧ va_D (va_A (va_pl L (pF cy K N T I Q J)) sz) (va_pl L (pF cy K N T d.1 d.2.1 d.2.2))) (va_A (va_pl L (pF cy K N T I Q J)) sz)) 0 0 (va_A (va_pl L (pF cy K N T I Q J)) sz) := by
  refine Met.ofW (cc := cX3_open) (maxL := 1) (ret := none) (by decide) rfl ?_
  intro p e s m args below meth c s₁ B hml hv
  obtain ⟨rfl, hsz, ⟨hP, hK, hN⟩, hD0⟩ := hv
  have hx := B.exec
  have hb := B.bytes
  have hr := B.returns
  have hts := atoms_spec (ws := wsX3_open) B.pre
  have hown : s.vm.findClass RX3 = some m.cls := findClass_of_methodNamed B.named
  have hlocks := B.notSynchronized
  have hi3 : ∀ w ∈ wsX30, w ∈ wsX3_open := by decide +kernel
  have hl := lv_entry ([.ref a]) (n := 1) (Nat.le_of_ble_eq_true rfl)
  rw [lg_entry_eq]
  generalize (lg_sl ([.ref a]) ++ List.replicate (1 - (lg_sl ([.ref a])).length) Slot.unset).toArray = ls at hl ⊢
  have hl : lv_has ls 1 [(0, .ref a)] := hl
  subst hsz
  have hD := hD0.self (sz := s.heap.size)
  generalize hAe : va_A (va_pl L (pF cy K N T I Q J)) s.heap.size = A at hD ⊢
  have hA : ∀ q : Nat, s.heap.size ≤ q → A q := fun q h => by rw [← hAe]; exact Or.inr h
  have hS : va_S A s.heap s.heap [] := va_S.rf
  have hR : RS v I Q J I Q J := RS.rf
  have hn28 := hN.1
  have hn30 := hN.2.1
  have hn37 := hN.2.2.1
  refine lv_aload_n hx hb dX3_open_0 rfl (lv_at hl 0 rfl) ?_
  refine lv_iconst (v := 1) hx hb dX3_open_1 (by decide) ?_
  obtain ⟨j610001, hj610001⟩ := pG_3 (cy := cy) (N := N) (T := T) (I := I) (Q := Q) (J := J) ha hk
  have hDo := hD
  refine va_put (D := (dC, dI)) (ci := 3) (v := .int 1) (ty := .int) (C := RX3) (T := TX3) (N := 6) hx hb hts hi3 tyX3 tyX3_ok nmX3 hown hK hP hD hS j610001 hj610001 rfl 2 (by decide) (hts (.fieldLink RX3 15 "TallyLogs$Producer" "mode" "I") (by decide +kernel)) (fun _ h9 => h9) rfl (by decide +kernel) rfl rfl (Nat.le_of_ble_eq_true rfl) dX3_open_2 (fun H locs hP hD hS => ?_)
  have hP := Eq.mp (congrArg (fun w => va_P (dC, dI) vwCl w H) (pP_3_2 (x := 1) hDo ha hk hj610001)) hP
  obtain ⟨I610002, eI610002⟩ : ∃ z, z = p2 I a 2 1 := ⟨_, rfl⟩
  rw [← eI610002] at hP
  have hR : RS v I610002 Q J I610002 Q J := RS.rf
  have hC : CT v L K N T I610002 Q := by rw [eI610002]; exact hC.pi (by rw [hk]; decide)
  have hD : va_D A (va_pl L (pF cy K N T I610002 Q J)) := pD hDo
  refine lv_aload_n hx hb dX3_open_5 rfl (lv_at hl 0 rfl) ?_
  refine lv_aload_n hx hb dX3_open_6 rfl (lv_at hl 0 rfl) ?_
  obtain ⟨j610003, hj610003⟩ := pG_3 (cy := cy) (N := N) (T := T) (I := I610002) (Q := Q) (J := J) ha hk
  refine va_get (D := (dC, dI)) (ci := 3) (v := .int (I610002 a 1)) (C := RX3) (T := TX3) (N := 6) hx hb hts hi3 hown hK hP j610003 hj610003 rfl 1 (by decide) (hts (.fieldLink RX3 9 "TallyLogs$Producer" "generation" "I") (by decide +kernel)) (fun _ h9 => h9) rfl dX3_open_7 ?_
  refine lv_topi (fun x610004 ex610004 => ?_)
  obtain ⟨j610005, hj610005⟩ := pG_3 (cy := cy) (N := N) (T := T) (I := I610002) (Q := Q) (J := J) ha hk
  have hDo := hD
  refine va_put (D := (dC, dI)) (ci := 3) (v := .int x610004) (ty := .int) (C := RX3) (T := TX3) (N := 6) hx hb hts hi3 tyX3 tyX3_ok nmX3 hown hK hP hD hS j610005 hj610005 rfl 4 (by decide) (hts (.fieldLink RX3 22 "TallyLogs$Producer" "boundGeneration" "I") (by decide +kernel)) (fun _ h9 => h9) rfl (by decide +kernel) rfl rfl (Nat.le_of_ble_eq_true rfl) dX3_open_10 (fun H locs hP hD hS => ?_)
  have hP := Eq.mp (congrArg (fun w => va_P (dC, dI) vwCl w H) (pP_3_4 (x := x610004) hDo ha hk hj610005)) hP
  obtain ⟨I610006, eI610006⟩ : ∃ z, z = p2 I610002 a 4 x610004 := ⟨_, rfl⟩
  rw [← eI610006] at hP
  have hR : RS v I610006 Q J I610006 Q J := RS.rf
  have hC : CT v L K N T I610006 Q := by rw [eI610006]; exact hC.pi (by rw [hk]; decide)
  have hD : va_D A (va_pl L (pF cy K N T I610006 Q J)) := pD hDo
  refine lv_aload_n hx hb dX3_open_13 rfl (lv_at hl 0 rfl) ?_
  refine lv_iconst (v := 0) hx hb dX3_open_14 (by decide) ?_
  obtain ⟨j610007, hj610007⟩ := pG_3 (cy := cy) (N := N) (T := T) (I := I610006) (Q := Q) (J := J) ha hk
  have hDo := hD
  refine va_put (D := (dC, dI)) (ci := 3) (v := .int 0) (ty := .int) (C := RX3) (T := TX3) (N := 6) hx hb hts hi3 tyX3 tyX3_ok nmX3 hown hK hP hD hS j610007 hj610007 rfl 5 (by decide) (hts (.fieldLink RX3 25 "TallyLogs$Producer" "left" "I") (by decide +kernel)) (fun _ h9 => h9) rfl (by decide +kernel) rfl rfl (Nat.le_of_ble_eq_true rfl) dX3_open_15 (fun H locs hP hD hS => ?_)
  have hP := Eq.mp (congrArg (fun w => va_P (dC, dI) vwCl w H) (pP_3_5 (x := 0) hDo ha hk hj610007)) hP
  obtain ⟨I610008, eI610008⟩ : ∃ z, z = p2 I610006 a 5 0 := ⟨_, rfl⟩
  rw [← eI610008] at hP
  have hR : RS v I610008 Q J I610008 Q J := RS.rf
  have hC : CT v L K N T I610008 Q := by rw [eI610008]; exact hC.pi (by rw [hk]; decide)
  have hD : va_D A (va_pl L (pF cy K N T I610008 Q J)) := pD hDo
  exact W.vret hx hb hr (fun t ht hW => ⟨⟨(I610008, Q, J), rfl, ⟨hC, by show I610008 = _; rw [eI610008, eI610006, ex610004, eI610002, p2_ne _ _ (show ¬ (a = a ∧ 1 = 2) by omega)], rfl, rfl⟩, by rw [ht]; exact hP, va_K.moved hW.alike hK, hD⟩, hS.F ht⟩) hS.2.2 dX3_open_18
set_option maxHeartbeats 4000000 in
set_option maxRecDepth 100000 in
/-- Producer.startEnding, exactly -/
theorem g_X3_startEnding (l : Launch) (dC : Nat → ClassId) (dI : Nat → Nat → Nat) (cy : Nat → ClassId) (v : Nat → Nat) (L : List Nat) (K N : Nat → Nat) (T : Nat → Nat → Nat) (I : Nat → Nat → Int32) (Q : Nat → Nat → Option Nat) (J : Nat → Nat → Int32) (sz : Nat) (a : Nat) (cm : Int32) (hC : CT v L K N T I Q) (ha : a ∈ L) (hk : K a = 3) (hcm : narrow .boolean (.int cm) = .int cm) (hcf : fits .boolean (.int cm) = true) : Met l yX3_startEnding wsX3_startEnding ({ frames := 0, cells := 0, slots := 0, locals := 0 }) (va_Pc [.ref a, .int cm] (pW dC dI cy L (pF cy K N T I Q J) sz)) (va_Qv (fun d : (Nat → Nat → Int32) × (Nat → Nat → Option Nat) × (Nat → Nat → Int32) => CT v L K N T d.1 d.2.1 ∧ d.1 = p2 (p2 I a 2 2) a 3 cm ∧ d.2.1 = Q ∧ d.2.2 = J) (fun (d : (Nat → Nat → Int32) × (Nat → Nat → Option Nat) × (Nat → Nat → Int32)) t => va_P (dC, dI) vwCl (va_pl L (pF cy K N T d.1 d.2.1 d.2.2)) t.heap ∧ va_K (dC, dI) vwCl (pTy cy) t ∧ va_D (va_A (va_pl L (pF cy K N T I Q J)) sz) (va_pl L (pF cy K N T d.1 d.2.1 d.2.2))) (va_A (va_pl L (pF cy K N T I Q J)) sz)) 0 0 (va_A (va_pl L (pF cy K N T I Q J)) sz) := by
  refine Met.ofW (cc := cX3_startEnding) (maxL := 2) (ret := none) (by decide) rfl ?_
  intro p e s m args below meth c s₁ B hml hv
  obtain ⟨rfl, hsz, ⟨hP, hK, hN⟩, hD0⟩ := hv
  have hx := B.exec
  have hb := B.bytes
  have hr := B.returns
  have hts := atoms_spec (ws := wsX3_startEnding) B.pre
  have hown : s.vm.findClass RX3 = some m.cls := findClass_of_methodNamed B.named
  have hlocks := B.notSynchronized
  have hi3 : ∀ w ∈ wsX30, w ∈ wsX3_startEnding := by decide +kernel
  have hl := lv_entry ([.ref a, .int cm]) (n := 2) (Nat.le_of_ble_eq_true rfl)
  rw [lg_entry_eq]
  generalize (lg_sl ([.ref a, .int cm]) ++ List.replicate (2 - (lg_sl ([.ref a, .int cm])).length) Slot.unset).toArray = ls at hl ⊢
  have hl : lv_has ls 2 [(0, .ref a), (1, .int cm)] := hl
  subst hsz
  have hD := hD0.self (sz := s.heap.size)
  generalize hAe : va_A (va_pl L (pF cy K N T I Q J)) s.heap.size = A at hD ⊢
  have hA : ∀ q : Nat, s.heap.size ≤ q → A q := fun q h => by rw [← hAe]; exact Or.inr h
  have hS : va_S A s.heap s.heap [] := va_S.rf
  have hR : RS v I Q J I Q J := RS.rf
  have hn28 := hN.1
  have hn30 := hN.2.1
  have hn37 := hN.2.2.1
  refine lv_aload_n hx hb dX3_startEnding_0 rfl (lv_at hl 0 rfl) ?_
  refine lv_iconst (v := 2) hx hb dX3_startEnding_1 (by decide) ?_
  obtain ⟨j610009, hj610009⟩ := pG_3 (cy := cy) (N := N) (T := T) (I := I) (Q := Q) (J := J) ha hk
  have hDo := hD
  refine va_put (D := (dC, dI)) (ci := 3) (v := .int 2) (ty := .int) (C := RX3) (T := TX3) (N := 6) hx hb hts hi3 tyX3 tyX3_ok nmX3 hown hK hP hD hS j610009 hj610009 rfl 2 (by decide) (hts (.fieldLink RX3 15 "TallyLogs$Producer" "mode" "I") (by decide +kernel)) (fun _ h9 => h9) rfl (by decide +kernel) rfl rfl (Nat.le_of_ble_eq_true rfl) dX3_startEnding_2 (fun H locs hP hD hS => ?_)
  have hP := Eq.mp (congrArg (fun w => va_P (dC, dI) vwCl w H) (pP_3_2 (x := 2) hDo ha hk hj610009)) hP
  obtain ⟨I610010, eI610010⟩ : ∃ z, z = p2 I a 2 2 := ⟨_, rfl⟩
  rw [← eI610010] at hP
  have hR : RS v I610010 Q J I610010 Q J := RS.rf
  have hC : CT v L K N T I610010 Q := by rw [eI610010]; exact hC.pi (by rw [hk]; decide)
  have hD : va_D A (va_pl L (pF cy K N T I610010 Q J)) := pD hDo
  refine lv_aload_n hx hb dX3_startEnding_5 rfl (lv_at hl 0 rfl) ?_
  refine lv_iload_n hx hb dX3_startEnding_6 rfl (lv_at hl 1 rfl) ?_
  obtain ⟨j610011, hj610011⟩ := pG_3 (cy := cy) (N := N) (T := T) (I := I610010) (Q := Q) (J := J) ha hk
  have hDo := hD
  refine va_put (D := (dC, dI)) (ci := 3) (v := .int cm) (ty := .boolean) (C := RX3) (T := TX3) (N := 6) hx hb hts hi3 tyX3 tyX3_ok nmX3 hown hK hP hD hS j610011 hj610011 rfl 3 (by decide) (hts (.fieldLink RX3 18 "TallyLogs$Producer" "commits" "Z") (by decide +kernel)) (fun _ h9 => h9) rfl (by decide +kernel) hcm hcf (Nat.le_of_ble_eq_true rfl) dX3_startEnding_7 (fun H locs hP hD hS => ?_)
  have hP := Eq.mp (congrArg (fun w => va_P (dC, dI) vwCl w H) (pP_3_3 (x := cm) hDo ha hk hj610011)) hP
  obtain ⟨I610012, eI610012⟩ : ∃ z, z = p2 I610010 a 3 cm := ⟨_, rfl⟩
  rw [← eI610012] at hP
  have hR : RS v I610012 Q J I610012 Q J := RS.rf
  have hC : CT v L K N T I610012 Q := by rw [eI610012]; exact hC.pi (by rw [hk]; decide)
  have hD : va_D A (va_pl L (pF cy K N T I610012 Q J)) := pD hDo
  exact W.vret hx hb hr (fun t ht hW => ⟨⟨(I610012, Q, J), rfl, ⟨hC, by show I610012 = _; rw [eI610012, eI610010], rfl, rfl⟩, by rw [ht]; exact hP, va_K.moved hW.alike hK, hD⟩, hS.F ht⟩) hS.2.2 dX3_startEnding_10
set_option maxHeartbeats 4000000 in
set_option maxRecDepth 100000 in
/-- begin, exactly -/
theorem g_X5_begin (l : Launch) (dC : Nat → ClassId) (dI : Nat → Nat → Nat) (cy : Nat → ClassId) (v : Nat → Nat) (L : List Nat) (K N : Nat → Nat) (T : Nat → Nat → Nat) (I : Nat → Nat → Int32) (Q : Nat → Nat → Option Nat) (J : Nat → Nat → Int32) (sz : Nat) (pa ra : Nat → Nat) (kx : Nat → Prop) (σ : SG) (E : Int) (hd : Int32) (hE : REP v pa ra L K N T I Q J kx σ) (hkx : kx = kxo σ) (hSK : SK σ) (hLA : LA E σ) (hE9 : E < 1900) (hB : B5 (σ.1 0 0)) : Met l yX5_begin wsX5_begin ({ frames := 2, cells := 0, slots := 0, locals := 42 }) (va_Pc [.ref (v 0), .int hd] (pW dC dI cy L (pF cy K N T I Q J) sz)) (va_Qi (fun (r : Int32) (d : (Nat → Nat → Int32) × (Nat → Nat → Option Nat) × (Nat → Nat → Int32)) => (REP v pa ra L K N T d.1 d.2.1 d.2.2 (kxo (qBg σ hd).1) (qBg σ hd).1) ∧ r = (qBg σ hd).2) (fun (d : (Nat → Nat → Int32) × (Nat → Nat → Option Nat) × (Nat → Nat → Int32)) t => va_P (dC, dI) vwCl (va_pl L (pF cy K N T d.1 d.2.1 d.2.2)) t.heap ∧ va_K (dC, dI) vwCl (pTy cy) t ∧ va_D (va_A (va_pl L (pF cy K N T I Q J)) sz) (va_pl L (pF cy K N T d.1 d.2.1 d.2.2))) (va_A (va_pl L (pF cy K N T I Q J)) sz)) 0 0 (va_A (va_pl L (pF cy K N T I Q J)) sz) := by
  refine Met.ofW (cc := cX5_begin) (maxL := 3) (ret := (some .int)) (by decide) rfl ?_
  intro p e s m args below meth c s₁ B hml hv
  obtain ⟨rfl, hsz, ⟨hP, hK, hN⟩, hD0⟩ := hv
  have hx := B.exec
  have hb := B.bytes
  have hr := B.returns
  have hts := atoms_spec (ws := wsX5_begin) B.pre
  have hown : s.vm.findClass RX5 = some m.cls := findClass_of_methodNamed B.named
  have hlocks := B.notSynchronized
  have hi5 : ∀ w ∈ wsX50, w ∈ wsX5_begin := by decide +kernel
  have hi3 : ∀ w ∈ wsX30, w ∈ wsX5_begin := by decide +kernel
  have hl := lv_entry ([.ref (v 0), .int hd]) (n := 3) (Nat.le_of_ble_eq_true rfl)
  rw [lg_entry_eq]
  generalize (lg_sl ([.ref (v 0), .int hd]) ++ List.replicate (3 - (lg_sl ([.ref (v 0), .int hd])).length) Slot.unset).toArray = ls at hl ⊢
  have hl : lv_has ls 3 [(0, .ref (v 0)), (1, .int hd)] := hl
  subst hsz
  have hD := hD0.self (sz := s.heap.size)
  generalize hAe : va_A (va_pl L (pF cy K N T I Q J)) s.heap.size = A at hD ⊢
  have hA : ∀ q : Nat, s.heap.size ≤ q → A q := fun q h => by rw [← hAe]; exact Or.inr h
  have hS : va_S A s.heap s.heap [] := va_S.rf
  have hR : RS v I Q J I Q J := RS.rf
  have hn28 := hN.1
  have hn30 := hN.2.1
  have hn37 := hN.2.2.1
  have hC := hE.ct
  subst hkx
  refine lv_aload_n hx hb dX5_begin_0 rfl (lv_at hl 0 rfl) ?_
  refine lv_iload_n hx hb dX5_begin_1 rfl (lv_at hl 1 rfl) ?_
  obtain ⟨j610014, hj610014⟩ := pG_5 (cy := cy) (N := N) (T := T) (I := I) (Q := Q) (J := J) (hC.at 0 (by decide)) (hC.k 0 (by decide) rfl)
  refine va_csq (W.runV (As := [.int hd]) (rest := []) ⟨hx, hb, hml, hown, hts⟩ (g_X5_producerOf l dC dI cy v L K N T I Q J hd hC) (cwV 1 hts gX5_begin_X5_producerOf rfl rfl rfl (by decide +kernel) ⟨Nat.le_of_ble_eq_true rfl, Nat.le_of_ble_eq_true rfl⟩) ⟨pb_blind, va_recv hK hP (ci := 5) (q0 := j610014) rfl hj610014, fun U hU hW => ⟨rfl, pb_pre hP hK hN hU hW⟩⟩ rfl rfl hl.1 rfl (lv_room (Nat.le_of_ble_eq_true rfl)) dX5_begin_2 ⟨Nat.le_of_ble_eq_true rfl, Nat.le_of_ble_eq_true rfl⟩) (fun r610013 hr610013 => ?_)
  rcases hr610013 with ⟨rfl, hih610015⟩ | ⟨j610015, hj610015, ej610015, hih610015, rfl⟩
  · refine W.eq (g2 := F0 m 5 ls [.null]) rfl ?_
    refine lv_astore_nN (lv' := [(2, .null), (0, .ref (v 0)), (1, .int hd)]) hx hb dX5_begin_5 rfl hl (by decide) rfl (fun ls hl => ?_)
    refine lv_aload_nN hx hb dX5_begin_6 rfl (lv_at hl 0 rfl) ?_
    refine lv_ifnonnullN hx hb dX5_begin_7 ?_
    refine lv_iconst (v := (-1)) hx hb dX5_begin_10 (by decide) ?_
    have e9 : qBg σ hd = (σ, (-1)) := by unfold qBg; rw [if_pos hih610015]
    have hk9 : kxo σ = (kxo σ) := rfl
    exact W.iret (v := (-1)) hx hb hr (fun t ht hW => ⟨⟨(-1), (I, Q, J), rfl, ⟨by show REP v pa ra L K N T I Q J (kxo (qBg σ hd).1) (qBg σ hd).1; rw [e9]; show REP v pa ra L K N T I Q J (kxo σ) σ; rw [hk9]; exact hE, by show _ = _; rw [e9]⟩, by rw [ht]; exact hP, va_K.moved hW.alike hK, hD⟩, hS.F ht⟩) hS.2.2 dX5_begin_11
  · refine W.eq (g2 := F0 m 5 ls [.ref (v (4 + j610015))]) rfl ?_
    have cj610015 := nI_cl (by omega) ej610015
    refine lv_astore_n (lv' := [(2, .ref (v (4 + j610015))), (0, .ref (v 0)), (1, .int hd)]) hx hb dX5_begin_5 rfl hl (by decide) rfl (fun ls hl => ?_)
    refine lv_aload_n hx hb dX5_begin_6 rfl (lv_at hl 0 rfl) ?_
    refine lv_ifnonnull (tgt := 12) hx hb dX5_begin_7 (by decide) ?_
    refine lv_aload_n hx hb dX5_begin_12 rfl (lv_at hl 0 rfl) ?_
    obtain ⟨j610016, hj610016⟩ := pG_3 (cy := cy) (N := N) (T := T) (I := I) (Q := Q) (J := J) (hC.kp hj610015).1 (hC.kp hj610015).2
    refine va_get (D := (dC, dI)) (ci := 3) (v := .int (I (v (4 + j610015)) 1)) (C := RX3) (T := TX3) (N := 6) hx hb hts hi3 hown hK hP j610016 hj610016 rfl 1 (by decide) (hts (.fieldLink RX5 75 "TallyLogs$Producer" "generation" "I") (by decide +kernel)) (fun _ h9 => h9) rfl dX5_begin_13 ?_
    refine lv_topi (fun x610017 ex610017 => ?_)
    have sx610017 : x610017 = σ.1 8 j610015 := ex610017.trans (hE.pr j610015 hj610015).2.1
    refine lv_iload_n hx hb dX5_begin_16 rfl (lv_at hl 2 rfl) ?_
    refine vp_callSi (W.runS (As := [.int hd]) (rest := [.int x610017]) ⟨hx, hb, hml, hown, hts⟩ (c_X5_generationOf l hd) (va_cwS 1 hts gX5_begin_X5_generationOf rfl rfl rfl (by decide +kernel) ⟨Nat.le_of_ble_eq_true rfl, Nat.le_of_ble_eq_true rfl⟩) preEq rfl rfl hl.1 rfl (lv_room (Nat.le_of_ble_eq_true rfl)) dX5_begin_17 ⟨Nat.le_of_ble_eq_true rfl, Nat.le_of_ble_eq_true rfl⟩) (fun r610018 hr610018 => ?_)
    refine lv_icmp_ne (tgt := 30) hx hb dX5_begin_20 (by decide) (fun c610019 => ?_) (fun c610019 => ?_)
    · have kc610019 : ¬ (x610017.toInt = r610018.toInt) := by have h9 := c610019; rw [xk_eq] at h9; exact h9
      refine lv_bipush (v := (-4)) hx hb dX5_begin_30 (by decide) ?_
      have e9 : qBg σ hd = (σ, (-4)) := by unfold qBg; rw [if_neg hih610015, cj610015, if_pos (fun z => c610019 (by rw [sx610017, hr610018]; exact z))]
      have hk9 : kxo σ = (kxo σ) := rfl
      exact W.iret (v := (-4)) hx hb hr (fun t ht hW => ⟨⟨(-4), (I, Q, J), rfl, ⟨by show REP v pa ra L K N T I Q J (kxo (qBg σ hd).1) (qBg σ hd).1; rw [e9]; show REP v pa ra L K N T I Q J (kxo σ) σ; rw [hk9]; exact hE, by show _ = _; rw [e9]⟩, by rw [ht]; exact hP, va_K.moved hW.alike hK, hD⟩, hS.F ht⟩) hS.2.2 dX5_begin_32
    · have kc610019 : x610017.toInt = r610018.toInt := by have h9 := c610019; rw [xk_eq] at h9; exact h9
      refine lv_aload_n hx hb dX5_begin_23 rfl (lv_at hl 0 rfl) ?_
      obtain ⟨j610020, hj610020⟩ := pG_3 (cy := cy) (N := N) (T := T) (I := I) (Q := Q) (J := J) (hC.kp hj610015).1 (hC.kp hj610015).2
      refine va_get (D := (dC, dI)) (ci := 3) (v := .int (I (v (4 + j610015)) 2)) (C := RX3) (T := TX3) (N := 6) hx hb hts hi3 hown hK hP j610020 hj610020 rfl 2 (by decide) (hts (.fieldLink RX5 78 "TallyLogs$Producer" "mode" "I") (by decide +kernel)) (fun _ h9 => h9) rfl dX5_begin_24 ?_
      refine lv_topi (fun x610021 ex610021 => ?_)
      have sx610021 : x610021 = σ.1 9 j610015 := ex610021.trans (hE.pr j610015 hj610015).2.2.1
      refine lv_if_eq (tgt := 33) hx hb dX5_begin_27 (by decide) (fun c610022 => ?_) (fun c610022 => ?_)
      · have kc610022 : x610021.toInt = 0 := by have h9 := c610022; rw [xk_eq, xk_0] at h9; exact h9
        refine lv_aload_n hx hb dX5_begin_33 rfl (lv_at hl 0 rfl) ?_
        obtain ⟨j610023, hj610023⟩ := pG_3 (cy := cy) (N := N) (T := T) (I := I) (Q := Q) (J := J) (hC.kp hj610015).1 (hC.kp hj610015).2
        have hFc := pfree hD hS hA
        refine va_callv (va_runV (As := []) (rest := []) ⟨hx, hb, hml, hown, hts⟩ (g_X3_open l dC dI cy v L K N T I Q J s.heap.size (v (4 + j610015)) hC (hC.kp hj610015).1 (hC.kp hj610015).2) (cwV 0 hts gX5_begin_X3_open rfl rfl rfl (by decide +kernel) ⟨Nat.le_of_ble_eq_true rfl, Nat.le_of_ble_eq_true rfl⟩) ⟨pw_blind, va_recv hK hP (ci := 3) (q0 := j610023) rfl hj610023, fun U hU hW => ⟨rfl, pw_pre hP hK hN hD hU hW⟩⟩ rfl rfl hl.1 rfl (lv_room (Nat.le_of_ble_eq_true rfl)) dX5_begin_34 ⟨Nat.le_of_ble_eq_true rfl, Nat.le_of_ble_eq_true rfl⟩) hS (fun q _ h => hFc q h) hFc (fun d9 t H1 locs ht hvm hw hB hz1 hk1 hS => ?_)
        obtain ⟨I610024, Q610024, J610024⟩ := d9
        obtain ⟨hC, eI610024, eQ610024, eJ610024⟩ := hw
        obtain ⟨hP, hK1, hD1⟩ := hB
        rw [ht] at hP
        have hD := hD1.weaken (fun _ _ _ h => hFc _ h)
        generalize H1 = H at hP hS ⊢
        have eI610024 : I610024 = _ := eI610024
        have eQ610024 : Q610024 = Q := eQ610024
        have eJ610024 : J610024 = J := eJ610024
        have hP : va_P (dC, dI) vwCl (va_pl L (pF cy K N T I610024 Q610024 J610024)) H := hP
        have hD : va_D A (va_pl L (pF cy K N T I610024 Q610024 J610024)) := hD
        have hR : RS v I610024 Q610024 J610024 I610024 Q610024 J610024 := RS.rf
        have hC : CT v L K N T I610024 Q610024 := hC
        obtain ⟨sg610025, esg610025⟩ : ∃ z, z = sA (sA σ 9 j610015 1) 10 j610015 0 := ⟨_, rfl⟩
        have hE : REP v pa ra L K N T I610024 Q610024 J610024 (kxo σ) sg610025 := by rw [esg610025, eJ610024]; rw [eQ610024] at hC ⊢; exact hE.wopen hj610015 hC eI610024
        refine lv_iconst (v := 0) hx hb dX5_begin_37 (by decide) ?_
        have e9 : qBg σ hd = (sg610025, 0) := by unfold qBg; rw [if_neg hih610015, cj610015, if_neg (fun z => z (by rw [← sx610017, ← hr610018]; exact c610019)), if_neg (fun z => z (by rw [← sx610021]; exact c610022))]; rw [esg610025]
        have hk9 : kxo sg610025 = (kxo σ) := kxo_c (by rw [esg610025, sA_q (by omega), sA_q (by omega)]) (fun q => by rw [esg610025, sA_q (by omega), sA_q (by omega)])
        exact W.iret (v := 0) hx hb hr (fun t ht hW => ⟨⟨0, (I610024, Q610024, J610024), rfl, ⟨by show REP v pa ra L K N T I610024 Q610024 J610024 (kxo (qBg σ hd).1) (qBg σ hd).1; rw [e9]; show REP v pa ra L K N T I610024 Q610024 J610024 (kxo sg610025) sg610025; rw [hk9]; exact hE, by show _ = _; rw [e9]⟩, by rw [ht]; exact hP, va_K.moved hW.alike hK, hD⟩, hS.F ht⟩) hS.2.2 dX5_begin_38
      · have kc610022 : ¬ (x610021.toInt = 0) := by have h9 := c610022; rw [xk_eq, xk_0] at h9; exact h9
        refine lv_bipush (v := (-4)) hx hb dX5_begin_30 (by decide) ?_
        have e9 : qBg σ hd = (σ, (-4)) := by unfold qBg; rw [if_neg hih610015, cj610015, if_neg (fun z => z (by rw [← sx610017, ← hr610018]; exact c610019)), if_pos (fun z => c610022 (by rw [sx610021]; exact z))]
        have hk9 : kxo σ = (kxo σ) := rfl
        exact W.iret (v := (-4)) hx hb hr (fun t ht hW => ⟨⟨(-4), (I, Q, J), rfl, ⟨by show REP v pa ra L K N T I Q J (kxo (qBg σ hd).1) (qBg σ hd).1; rw [e9]; show REP v pa ra L K N T I Q J (kxo σ) σ; rw [hk9]; exact hE, by show _ = _; rw [e9]⟩, by rw [ht]; exact hP, va_K.moved hW.alike hK, hD⟩, hS.F ht⟩) hS.2.2 dX5_begin_32
set_option maxHeartbeats 4000000 in
set_option maxRecDepth 100000 in
/-- finish, exactly -/
theorem g_X5_finish (l : Launch) (dC : Nat → ClassId) (dI : Nat → Nat → Nat) (cy : Nat → ClassId) (v : Nat → Nat) (L : List Nat) (K N : Nat → Nat) (T : Nat → Nat → Nat) (I : Nat → Nat → Int32) (Q : Nat → Nat → Option Nat) (J : Nat → Nat → Int32) (sz : Nat) (pa ra : Nat → Nat) (kx : Nat → Prop) (σ : SG) (E : Int) (hd cm : Int32) (hE : REP v pa ra L K N T I Q J kx σ) (hkx : kx = kxo σ) (hSK : SK σ) (hLA : LA E σ) (hE9 : E < 1900) (hB : B5 (σ.1 0 0)) (hcm : narrow .boolean (.int cm) = .int cm) (hcf : fits .boolean (.int cm) = true) (hc01 : cm = 0 ∨ cm = 1) : Met l yX5_finish wsX5_finish ({ frames := 2, cells := 0, slots := 0, locals := 42 }) (va_Pc [.ref (v 0), .int hd, .int cm] (pW dC dI cy L (pF cy K N T I Q J) sz)) (va_Qi (fun (r : Int32) (d : (Nat → Nat → Int32) × (Nat → Nat → Option Nat) × (Nat → Nat → Int32)) => (REP v pa ra L K N T d.1 d.2.1 d.2.2 (kxo (qFi σ hd cm).1) (qFi σ hd cm).1) ∧ r = (qFi σ hd cm).2) (fun (d : (Nat → Nat → Int32) × (Nat → Nat → Option Nat) × (Nat → Nat → Int32)) t => va_P (dC, dI) vwCl (va_pl L (pF cy K N T d.1 d.2.1 d.2.2)) t.heap ∧ va_K (dC, dI) vwCl (pTy cy) t ∧ va_D (va_A (va_pl L (pF cy K N T I Q J)) sz) (va_pl L (pF cy K N T d.1 d.2.1 d.2.2))) (va_A (va_pl L (pF cy K N T I Q J)) sz)) 0 0 (va_A (va_pl L (pF cy K N T I Q J)) sz) := by
  refine Met.ofW (cc := cX5_finish) (maxL := 4) (ret := (some .int)) (by decide) rfl ?_
  intro p e s m args below meth c s₁ B hml hv
  obtain ⟨rfl, hsz, ⟨hP, hK, hN⟩, hD0⟩ := hv
  have hx := B.exec
  have hb := B.bytes
  have hr := B.returns
  have hts := atoms_spec (ws := wsX5_finish) B.pre
  have hown : s.vm.findClass RX5 = some m.cls := findClass_of_methodNamed B.named
  have hlocks := B.notSynchronized
  have hi5 : ∀ w ∈ wsX50, w ∈ wsX5_finish := by decide +kernel
  have hi3 : ∀ w ∈ wsX30, w ∈ wsX5_finish := by decide +kernel
  have hl := lv_entry ([.ref (v 0), .int hd, .int cm]) (n := 4) (Nat.le_of_ble_eq_true rfl)
  rw [lg_entry_eq]
  generalize (lg_sl ([.ref (v 0), .int hd, .int cm]) ++ List.replicate (4 - (lg_sl ([.ref (v 0), .int hd, .int cm])).length) Slot.unset).toArray = ls at hl ⊢
  have hl : lv_has ls 4 [(0, .ref (v 0)), (1, .int hd), (2, .int cm)] := hl
  subst hsz
  have hD := hD0.self (sz := s.heap.size)
  generalize hAe : va_A (va_pl L (pF cy K N T I Q J)) s.heap.size = A at hD ⊢
  have hA : ∀ q : Nat, s.heap.size ≤ q → A q := fun q h => by rw [← hAe]; exact Or.inr h
  have hS : va_S A s.heap s.heap [] := va_S.rf
  have hR : RS v I Q J I Q J := RS.rf
  have hn28 := hN.1
  have hn30 := hN.2.1
  have hn37 := hN.2.2.1
  have hC := hE.ct
  subst hkx
  refine lv_aload_n hx hb dX5_finish_0 rfl (lv_at hl 0 rfl) ?_
  refine lv_iload_n hx hb dX5_finish_1 rfl (lv_at hl 1 rfl) ?_
  obtain ⟨j610027, hj610027⟩ := pG_5 (cy := cy) (N := N) (T := T) (I := I) (Q := Q) (J := J) (hC.at 0 (by decide)) (hC.k 0 (by decide) rfl)
  refine va_csq (W.runV (As := [.int hd]) (rest := []) ⟨hx, hb, hml, hown, hts⟩ (g_X5_producerOf l dC dI cy v L K N T I Q J hd hC) (cwV 1 hts gX5_finish_X5_producerOf rfl rfl rfl (by decide +kernel) ⟨Nat.le_of_ble_eq_true rfl, Nat.le_of_ble_eq_true rfl⟩) ⟨pb_blind, va_recv hK hP (ci := 5) (q0 := j610027) rfl hj610027, fun U hU hW => ⟨rfl, pb_pre hP hK hN hU hW⟩⟩ rfl rfl hl.1 rfl (lv_room (Nat.le_of_ble_eq_true rfl)) dX5_finish_2 ⟨Nat.le_of_ble_eq_true rfl, Nat.le_of_ble_eq_true rfl⟩) (fun r610026 hr610026 => ?_)
  rcases hr610026 with ⟨rfl, hih610028⟩ | ⟨j610028, hj610028, ej610028, hih610028, rfl⟩
  · refine W.eq (g2 := F0 m 5 ls [.null]) rfl ?_
    refine lv_astore_nN (lv' := [(3, .null), (0, .ref (v 0)), (1, .int hd), (2, .int cm)]) hx hb dX5_finish_5 rfl hl (by decide) rfl (fun ls hl => ?_)
    refine lv_aload_nN hx hb dX5_finish_6 rfl (lv_at hl 0 rfl) ?_
    refine lv_ifnonnullN hx hb dX5_finish_7 ?_
    refine lv_iconst (v := (-1)) hx hb dX5_finish_10 (by decide) ?_
    have e9 : qFi σ hd cm = (σ, (-1)) := by unfold qFi; rw [if_pos hih610028]
    have hk9 : kxo σ = (kxo σ) := rfl
    exact W.iret (v := (-1)) hx hb hr (fun t ht hW => ⟨⟨(-1), (I, Q, J), rfl, ⟨by show REP v pa ra L K N T I Q J (kxo (qFi σ hd cm).1) (qFi σ hd cm).1; rw [e9]; show REP v pa ra L K N T I Q J (kxo σ) σ; rw [hk9]; exact hE, by show _ = _; rw [e9]⟩, by rw [ht]; exact hP, va_K.moved hW.alike hK, hD⟩, hS.F ht⟩) hS.2.2 dX5_finish_11
  · refine W.eq (g2 := F0 m 5 ls [.ref (v (4 + j610028))]) rfl ?_
    have cj610028 := nI_cl (by omega) ej610028
    refine lv_astore_n (lv' := [(3, .ref (v (4 + j610028))), (0, .ref (v 0)), (1, .int hd), (2, .int cm)]) hx hb dX5_finish_5 rfl hl (by decide) rfl (fun ls hl => ?_)
    refine lv_aload_n hx hb dX5_finish_6 rfl (lv_at hl 0 rfl) ?_
    refine lv_ifnonnull (tgt := 12) hx hb dX5_finish_7 (by decide) ?_
    refine lv_aload_n hx hb dX5_finish_12 rfl (lv_at hl 0 rfl) ?_
    obtain ⟨j610029, hj610029⟩ := pG_3 (cy := cy) (N := N) (T := T) (I := I) (Q := Q) (J := J) (hC.kp hj610028).1 (hC.kp hj610028).2
    refine va_get (D := (dC, dI)) (ci := 3) (v := .int (I (v (4 + j610028)) 1)) (C := RX3) (T := TX3) (N := 6) hx hb hts hi3 hown hK hP j610029 hj610029 rfl 1 (by decide) (hts (.fieldLink RX5 75 "TallyLogs$Producer" "generation" "I") (by decide +kernel)) (fun _ h9 => h9) rfl dX5_finish_13 ?_
    refine lv_topi (fun x610030 ex610030 => ?_)
    have sx610030 : x610030 = σ.1 8 j610028 := ex610030.trans (hE.pr j610028 hj610028).2.1
    refine lv_iload_n hx hb dX5_finish_16 rfl (lv_at hl 2 rfl) ?_
    refine vp_callSi (W.runS (As := [.int hd]) (rest := [.int x610030]) ⟨hx, hb, hml, hown, hts⟩ (c_X5_generationOf l hd) (va_cwS 1 hts gX5_finish_X5_generationOf rfl rfl rfl (by decide +kernel) ⟨Nat.le_of_ble_eq_true rfl, Nat.le_of_ble_eq_true rfl⟩) preEq rfl rfl hl.1 rfl (lv_room (Nat.le_of_ble_eq_true rfl)) dX5_finish_17 ⟨Nat.le_of_ble_eq_true rfl, Nat.le_of_ble_eq_true rfl⟩) (fun r610031 hr610031 => ?_)
    refine lv_icmp_ne (tgt := 31) hx hb dX5_finish_20 (by decide) (fun c610032 => ?_) (fun c610032 => ?_)
    · have kc610032 : ¬ (x610030.toInt = r610031.toInt) := by have h9 := c610032; rw [xk_eq] at h9; exact h9
      refine lv_bipush (v := (-4)) hx hb dX5_finish_31 (by decide) ?_
      have e9 : qFi σ hd cm = (σ, (-4)) := by unfold qFi; rw [if_neg hih610028, cj610028, if_pos (fun z => c610032 (by rw [sx610030, hr610031]; exact z))]
      have hk9 : kxo σ = (kxo σ) := rfl
      exact W.iret (v := (-4)) hx hb hr (fun t ht hW => ⟨⟨(-4), (I, Q, J), rfl, ⟨by show REP v pa ra L K N T I Q J (kxo (qFi σ hd cm).1) (qFi σ hd cm).1; rw [e9]; show REP v pa ra L K N T I Q J (kxo σ) σ; rw [hk9]; exact hE, by show _ = _; rw [e9]⟩, by rw [ht]; exact hP, va_K.moved hW.alike hK, hD⟩, hS.F ht⟩) hS.2.2 dX5_finish_33
    · have kc610032 : x610030.toInt = r610031.toInt := by have h9 := c610032; rw [xk_eq] at h9; exact h9
      refine lv_aload_n hx hb dX5_finish_23 rfl (lv_at hl 0 rfl) ?_
      obtain ⟨j610033, hj610033⟩ := pG_3 (cy := cy) (N := N) (T := T) (I := I) (Q := Q) (J := J) (hC.kp hj610028).1 (hC.kp hj610028).2
      refine va_get (D := (dC, dI)) (ci := 3) (v := .int (I (v (4 + j610028)) 2)) (C := RX3) (T := TX3) (N := 6) hx hb hts hi3 hown hK hP j610033 hj610033 rfl 2 (by decide) (hts (.fieldLink RX5 78 "TallyLogs$Producer" "mode" "I") (by decide +kernel)) (fun _ h9 => h9) rfl dX5_finish_24 ?_
      refine lv_topi (fun x610034 ex610034 => ?_)
      have sx610034 : x610034 = σ.1 9 j610028 := ex610034.trans (hE.pr j610028 hj610028).2.2.1
      refine lv_iconst (v := 1) hx hb dX5_finish_27 (by decide) ?_
      refine lv_icmp_eq (tgt := 34) hx hb dX5_finish_28 (by decide) (fun c610035 => ?_) (fun c610035 => ?_)
      · have kc610035 : x610034.toInt = 1 := by have h9 := c610035; rw [xk_eq, xk_1] at h9; exact h9
        refine lv_aload_n hx hb dX5_finish_34 rfl (lv_at hl 0 rfl) ?_
        refine lv_iload_n hx hb dX5_finish_35 rfl (lv_at hl 3 rfl) ?_
        obtain ⟨j610036, hj610036⟩ := pG_3 (cy := cy) (N := N) (T := T) (I := I) (Q := Q) (J := J) (hC.kp hj610028).1 (hC.kp hj610028).2
        have hFc := pfree hD hS hA
        refine va_callv (va_runV (As := [.int cm]) (rest := []) ⟨hx, hb, hml, hown, hts⟩ (g_X3_startEnding l dC dI cy v L K N T I Q J s.heap.size (v (4 + j610028)) cm hC (hC.kp hj610028).1 (hC.kp hj610028).2 hcm hcf) (cwV 1 hts gX5_finish_X3_startEnding rfl rfl rfl (by decide +kernel) ⟨Nat.le_of_ble_eq_true rfl, Nat.le_of_ble_eq_true rfl⟩) ⟨pw_blind, va_recv hK hP (ci := 3) (q0 := j610036) rfl hj610036, fun U hU hW => ⟨rfl, pw_pre hP hK hN hD hU hW⟩⟩ rfl rfl hl.1 rfl (lv_room (Nat.le_of_ble_eq_true rfl)) dX5_finish_36 ⟨Nat.le_of_ble_eq_true rfl, Nat.le_of_ble_eq_true rfl⟩) hS (fun q _ h => hFc q h) hFc (fun d9 t H1 locs ht hvm hw hB hz1 hk1 hS => ?_)
        obtain ⟨I610037, Q610037, J610037⟩ := d9
        obtain ⟨hC, eI610037, eQ610037, eJ610037⟩ := hw
        obtain ⟨hP, hK1, hD1⟩ := hB
        rw [ht] at hP
        have hD := hD1.weaken (fun _ _ _ h => hFc _ h)
        generalize H1 = H at hP hS ⊢
        have eI610037 : I610037 = _ := eI610037
        have eQ610037 : Q610037 = Q := eQ610037
        have eJ610037 : J610037 = J := eJ610037
        have hP : va_P (dC, dI) vwCl (va_pl L (pF cy K N T I610037 Q610037 J610037)) H := hP
        have hD : va_D A (va_pl L (pF cy K N T I610037 Q610037 J610037)) := hD
        have hR : RS v I610037 Q610037 J610037 I610037 Q610037 J610037 := RS.rf
        have hC : CT v L K N T I610037 Q610037 := hC
        obtain ⟨sg610038, esg610038⟩ : ∃ z, z = sA (sA (sA σ 9 j610028 2) 11 j610028 (σ.1 8 j610028)) 12 j610028 (if cm = 0 then 2 else 1) := ⟨_, rfl⟩
        have hE : REP v pa ra L K N T I610037 Q610037 J610037 (kxo σ) sg610038 := by rw [esg610038, eJ610037]; rw [eQ610037] at hC ⊢; exact hE.wend hj610028 (by rw [← sx610034]; exact c610035) hc01 hC eI610037
        refine lv_aload_n hx hb dX5_finish_39 rfl (lv_at hl 0 rfl) ?_
        obtain ⟨j610039, hj610039⟩ := pG_3 (cy := cy) (N := N) (T := T) (I := I610037) (Q := Q610037) (J := J610037) (hC.kp hj610028).1 (hC.kp hj610028).2
        refine va_get (D := (dC, dI)) (ci := 3) (v := .int (I610037 (v (4 + j610028)) 5)) (C := RX3) (T := TX3) (N := 6) hx hb hts hi3 hown hK hP j610039 hj610039 rfl 5 (by decide) (hts (.fieldLink RX5 126 "TallyLogs$Producer" "left" "I") (by decide +kernel)) (fun _ h9 => h9) rfl dX5_finish_40 ?_
        refine lv_topi (fun x610040 ex610040 => ?_)
        have sx610040 : x610040 = sg610038.1 10 j610028 := ex610040.trans (hE.pr j610028 hj610028).2.2.2.1
        refine vp_callSi (W.runS (As := [.int x610040]) (rest := []) ⟨hx, hb, hml, hown, hts⟩ (c_J6_bitCount_0f7a4 l x610040) (va_cwS 1 hts gX5_finish_J6_bitCount_0f7a4 rfl rfl rfl (by decide +kernel) ⟨Nat.le_of_ble_eq_true rfl, Nat.le_of_ble_eq_true rfl⟩) preEq rfl rfl hl.1 rfl (lv_room (Nat.le_of_ble_eq_true rfl)) dX5_finish_43 ⟨Nat.le_of_ble_eq_true rfl, Nat.le_of_ble_eq_true rfl⟩) (fun r610041 hr610041 => ?_)
        have e9 : qFi σ hd cm = (sg610038, r610041) := by unfold qFi; rw [if_neg hih610028, cj610028, if_neg (fun z => z (by rw [← sx610030, ← hr610031]; exact c610032)), if_neg (fun z => z (by rw [← sx610034]; exact c610035))]; rw [hr610041, sx610040, esg610038, sA_n (by decide), sA_n (by decide), sA_n (by decide)]
        have hk9 : kxo sg610038 = (kxo σ) := kxo_c (by rw [esg610038, sA_q (by omega), sA_q (by omega), sA_q (by omega)]) (fun q => by rw [esg610038, sA_q (by omega), sA_q (by omega), sA_q (by omega)])
        exact W.iret (v := r610041) hx hb hr (fun t ht hW => ⟨⟨r610041, (I610037, Q610037, J610037), rfl, ⟨by show REP v pa ra L K N T I610037 Q610037 J610037 (kxo (qFi σ hd cm).1) (qFi σ hd cm).1; rw [e9]; show REP v pa ra L K N T I610037 Q610037 J610037 (kxo sg610038) sg610038; rw [hk9]; exact hE, by show _ = _; rw [e9]⟩, by rw [ht]; exact hP, va_K.moved hW.alike hK, hD⟩, hS.F ht⟩) hS.2.2 dX5_finish_46
      · have kc610035 : ¬ (x610034.toInt = 1) := by have h9 := c610035; rw [xk_eq, xk_1] at h9; exact h9
        refine lv_bipush (v := (-4)) hx hb dX5_finish_31 (by decide) ?_
        have e9 : qFi σ hd cm = (σ, (-4)) := by unfold qFi; rw [if_neg hih610028, cj610028, if_neg (fun z => z (by rw [← sx610030, ← hr610031]; exact c610032)), if_pos (fun z => c610035 (by rw [sx610034]; exact z))]
        have hk9 : kxo σ = (kxo σ) := rfl
        exact W.iret (v := (-4)) hx hb hr (fun t ht hW => ⟨⟨(-4), (I, Q, J), rfl, ⟨by show REP v pa ra L K N T I Q J (kxo (qFi σ hd cm).1) (qFi σ hd cm).1; rw [e9]; show REP v pa ra L K N T I Q J (kxo σ) σ; rw [hk9]; exact hE, by show _ = _; rw [e9]⟩, by rw [ht]; exact hP, va_K.moved hW.alike hK, hD⟩, hS.F ht⟩) hS.2.2 dX5_finish_33
set_option maxHeartbeats 4000000 in
set_option maxRecDepth 100000 in
/-- register, exactly -/
theorem g_X5_register (l : Launch) (dC : Nat → ClassId) (dI : Nat → Nat → Nat) (cy : Nat → ClassId) (v : Nat → Nat) (L : List Nat) (K N : Nat → Nat) (T : Nat → Nat → Nat) (I : Nat → Nat → Int32) (Q : Nat → Nat → Option Nat) (J : Nat → Nat → Int32) (sz : Nat) (pa ra : Nat → Nat) (kx : Nat → Prop) (σ : SG) (E : Int) (xk : Int32) (hE : REP v pa ra L K N T I Q J kx σ) (hkx : kx = kxo σ) (hSK : SK σ) (hLA : LA E σ) (hE9 : E < 1900) (hB : B5 (σ.1 0 0)) : Met l yX5_register wsX5_register ({ frames := 1, cells := 0, slots := 0, locals := 21 }) (va_Pc [.ref (v 0), .int xk] (pW dC dI cy L (pF cy K N T I Q J) sz)) (va_Qi (fun (r : Int32) (d : (Nat → Nat → Int32) × (Nat → Nat → Option Nat) × (Nat → Nat → Int32)) => (REP v pa ra L K N T d.1 d.2.1 d.2.2 (kxo (qRg σ xk).1) (qRg σ xk).1) ∧ r = (qRg σ xk).2) (fun (d : (Nat → Nat → Int32) × (Nat → Nat → Option Nat) × (Nat → Nat → Int32)) t => va_P (dC, dI) vwCl (va_pl L (pF cy K N T d.1 d.2.1 d.2.2)) t.heap ∧ va_K (dC, dI) vwCl (pTy cy) t ∧ va_D (va_A (va_pl L (pF cy K N T I Q J)) sz) (va_pl L (pF cy K N T d.1 d.2.1 d.2.2))) (va_A (va_pl L (pF cy K N T I Q J)) sz)) 0 0 (va_A (va_pl L (pF cy K N T I Q J)) sz) := by
  refine Met.ofW (cc := cX5_register) (maxL := 3) (ret := (some .int)) (by decide) rfl ?_
  intro p e s m args below meth c s₁ B hml hv
  obtain ⟨rfl, hsz, ⟨hP, hK, hN⟩, hD0⟩ := hv
  have hx := B.exec
  have hb := B.bytes
  have hr := B.returns
  have hts := atoms_spec (ws := wsX5_register) B.pre
  have hown : s.vm.findClass RX5 = some m.cls := findClass_of_methodNamed B.named
  have hlocks := B.notSynchronized
  have hi5 : ∀ w ∈ wsX50, w ∈ wsX5_register := by decide +kernel
  have hi3 : ∀ w ∈ wsX30, w ∈ wsX5_register := by decide +kernel
  have hl := lv_entry ([.ref (v 0), .int xk]) (n := 3) (Nat.le_of_ble_eq_true rfl)
  rw [lg_entry_eq]
  generalize (lg_sl ([.ref (v 0), .int xk]) ++ List.replicate (3 - (lg_sl ([.ref (v 0), .int xk])).length) Slot.unset).toArray = ls at hl ⊢
  have hl : lv_has ls 3 [(0, .ref (v 0)), (1, .int xk)] := hl
  subst hsz
  have hD := hD0.self (sz := s.heap.size)
  generalize hAe : va_A (va_pl L (pF cy K N T I Q J)) s.heap.size = A at hD ⊢
  have hA : ∀ q : Nat, s.heap.size ≤ q → A q := fun q h => by rw [← hAe]; exact Or.inr h
  have hS : va_S A s.heap s.heap [] := va_S.rf
  have hR : RS v I Q J I Q J := RS.rf
  have hn28 := hN.1
  have hn30 := hN.2.1
  have hn37 := hN.2.2.1
  have hC := hE.ct
  subst hkx
  refine lv_aload_n hx hb dX5_register_0 rfl (lv_at hl 0 rfl) ?_
  refine lv_iload_n hx hb dX5_register_1 rfl (lv_at hl 1 rfl) ?_
  obtain ⟨j610043, hj610043⟩ := pG_5 (cy := cy) (N := N) (T := T) (I := I) (Q := Q) (J := J) (hC.at 0 (by decide)) (hC.k 0 (by decide) rfl)
  refine va_csq (W.runV (As := [.int xk]) (rest := []) ⟨hx, hb, hml, hown, hts⟩ (c_X5_producerAt l dC dI cy v L K N T I Q J  xk hC) (cwV 1 hts gX5_register_X5_producerAt rfl rfl rfl (by decide +kernel) ⟨Nat.le_of_ble_eq_true rfl, Nat.le_of_ble_eq_true rfl⟩) ⟨pb_blind, va_recv hK hP (ci := 5) (q0 := j610043) rfl hj610043, fun U hU hW => ⟨rfl, pb_pre hP hK hN hU hW⟩⟩ rfl rfl hl.1 rfl (lv_room (Nat.le_of_ble_eq_true rfl)) dX5_register_2 ⟨Nat.le_of_ble_eq_true rfl, Nat.le_of_ble_eq_true rfl⟩) (fun r610042 hr610042 => ?_)
  rcases hr610042 with ⟨hn610044, rfl⟩ | ⟨j610044, hj610044, ej610044, rfl⟩
  · refine W.eq (g2 := F0 m 5 ls [.null]) rfl ?_
    refine lv_astore_nN (lv' := [(2, .null), (0, .ref (v 0)), (1, .int xk)]) hx hb dX5_register_5 rfl hl (by decide) rfl (fun ls hl => ?_)
    refine lv_aload_nN hx hb dX5_register_6 rfl (lv_at hl 0 rfl) ?_
    refine lv_ifnonnullN hx hb dX5_register_7 ?_
    refine lv_iconst (v := (-1)) hx hb dX5_register_10 (by decide) ?_
    have e9 : qRg σ xk = (σ, (-1)) := by unfold qRg; rw [if_pos (sp_inl_no (i := 0) (j := 5) (by decide) (by decide) (by omega))]
    have hk9 : kxo σ = (kxo σ) := rfl
    exact W.iret (v := (-1)) hx hb hr (fun t ht hW => ⟨⟨(-1), (I, Q, J), rfl, ⟨by show REP v pa ra L K N T I Q J (kxo (qRg σ xk).1) (qRg σ xk).1; rw [e9]; show REP v pa ra L K N T I Q J (kxo σ) σ; rw [hk9]; exact hE, by show _ = _; rw [e9]⟩, by rw [ht]; exact hP, va_K.moved hW.alike hK, hD⟩, hS.F ht⟩) hS.2.2 dX5_register_11
  · refine W.eq (g2 := F0 m 5 ls [.ref (v (4 + j610044))]) rfl ?_
    have cj610044 := nI_cl (by omega) ej610044
    refine lv_astore_n (lv' := [(2, .ref (v (4 + j610044))), (0, .ref (v 0)), (1, .int xk)]) hx hb dX5_register_5 rfl hl (by decide) rfl (fun ls hl => ?_)
    refine lv_aload_n hx hb dX5_register_6 rfl (lv_at hl 0 rfl) ?_
    refine lv_ifnonnull (tgt := 12) hx hb dX5_register_7 (by decide) ?_
    refine lv_aload_n hx hb dX5_register_12 rfl (lv_at hl 0 rfl) ?_
    refine lv_dup hx hb dX5_register_13 rfl ?_
    obtain ⟨j610045, hj610045⟩ := pG_3 (cy := cy) (N := N) (T := T) (I := I) (Q := Q) (J := J) (hC.kp hj610044).1 (hC.kp hj610044).2
    refine va_get (D := (dC, dI)) (ci := 3) (v := .int (I (v (4 + j610044)) 1)) (C := RX3) (T := TX3) (N := 6) hx hb hts hi3 hown hK hP j610045 hj610045 rfl 1 (by decide) (hts (.fieldLink RX5 75 "TallyLogs$Producer" "generation" "I") (by decide +kernel)) (fun _ h9 => h9) rfl dX5_register_14 ?_
    refine lv_topi (fun x610046 ex610046 => ?_)
    have sx610046 : x610046 = σ.1 8 j610044 := ex610046.trans (hE.pr j610044 hj610044).2.1
    refine lv_iconst (v := 1) hx hb dX5_register_17 (by decide) ?_
    refine lv_iadd hx hb dX5_register_18 ?_
    refine lv_topi (fun v610047 ev610047 => ?_)
    obtain ⟨j610048, hj610048⟩ := pG_3 (cy := cy) (N := N) (T := T) (I := I) (Q := Q) (J := J) (hC.kp hj610044).1 (hC.kp hj610044).2
    have hDo := hD
    refine va_put (D := (dC, dI)) (ci := 3) (v := .int v610047) (ty := .int) (C := RX3) (T := TX3) (N := 6) hx hb hts hi3 tyX3 tyX3_ok nmX3 hown hK hP hD hS j610048 hj610048 rfl 1 (by decide) (hts (.fieldLink RX5 75 "TallyLogs$Producer" "generation" "I") (by decide +kernel)) (fun _ h9 => h9) rfl (by decide +kernel) rfl rfl (Nat.le_of_ble_eq_true rfl) dX5_register_19 (fun H locs hP hD hS => ?_)
    have hP := Eq.mp (congrArg (fun w => va_P (dC, dI) vwCl w H) (pP_3_1 (x := v610047) hDo (hC.kp hj610044).1 (hC.kp hj610044).2 hj610048)) hP
    obtain ⟨I610049, eI610049⟩ : ∃ z, z = p2 I (v (4 + j610044)) 1 v610047 := ⟨_, rfl⟩
    rw [← eI610049] at hP
    have hR : RS v I610049 Q J I610049 Q J := RS.rf
    have hC : CT v L K N T I610049 Q := by rw [eI610049]; exact hC.pi (by rw [(hC.kp hj610044).2]; decide)
    have hD : va_D A (va_pl L (pF cy K N T I610049 Q J)) := pD hDo
    refine lv_aload_n hx hb dX5_register_22 rfl (lv_at hl 0 rfl) ?_
    obtain ⟨j610050, hj610050⟩ := pG_3 (cy := cy) (N := N) (T := T) (I := I610049) (Q := Q) (J := J) (hC.kp hj610044).1 (hC.kp hj610044).2
    refine va_get (D := (dC, dI)) (ci := 3) (v := .int (I610049 (v (4 + j610044)) 2)) (C := RX3) (T := TX3) (N := 6) hx hb hts hi3 hown hK hP j610050 hj610050 rfl 2 (by decide) (hts (.fieldLink RX5 78 "TallyLogs$Producer" "mode" "I") (by decide +kernel)) (fun _ h9 => h9) rfl dX5_register_23 ?_
    refine lv_topi (fun x610051 ex610051 => ?_)
    have hmox610051 : x610051 = σ.1 9 j610044 := by rw [ex610051, eI610049, p2_ne _ _ (by omega)]; exact (hE.pr j610044 hj610044).2.2.1
    refine lv_iconst (v := 1) hx hb dX5_register_26 (by decide) ?_
    refine lv_icmp_ne (tgt := 35) hx hb dX5_register_27 (by decide) (fun c610052 => ?_) (fun c610052 => ?_)
    · have kc610052 : ¬ (x610051.toInt = 1) := by have h9 := c610052; rw [xk_eq, xk_1] at h9; exact h9
      obtain ⟨sg610053, esg610053⟩ : ∃ z, z = sA σ 8 j610044 v610047 := ⟨_, rfl⟩
      have hE : REP v pa ra L K N T I610049 Q J (kxo σ) sg610053 := by rw [esg610053, eI610049]; exact hE.wreg0 hj610044 (fun z => c610052 (by rw [hmox610051]; exact z))
      refine lv_aload_n hx hb dX5_register_35 rfl (lv_at hl 0 rfl) ?_
      obtain ⟨j610054, hj610054⟩ := pG_3 (cy := cy) (N := N) (T := T) (I := I610049) (Q := Q) (J := J) (hC.kp hj610044).1 (hC.kp hj610044).2
      refine va_get (D := (dC, dI)) (ci := 3) (v := .int (I610049 (v (4 + j610044)) 1)) (C := RX3) (T := TX3) (N := 6) hx hb hts hi3 hown hK hP j610054 hj610054 rfl 1 (by decide) (hts (.fieldLink RX5 75 "TallyLogs$Producer" "generation" "I") (by decide +kernel)) (fun _ h9 => h9) rfl dX5_register_36 ?_
      refine lv_topi (fun x610055 ex610055 => ?_)
      have sx610055 : x610055 = sg610053.1 8 j610044 := ex610055.trans (hE.pr j610044 hj610044).2.1
      refine lv_bipush (v := 8) hx hb dX5_register_39 (by decide) ?_
      refine lv_imul hx hb dX5_register_41 ?_
      refine lv_topi (fun v610056 ev610056 => ?_)
      refine lv_iload_n hx hb dX5_register_42 rfl (lv_at hl 2 rfl) ?_
      refine lv_iadd hx hb dX5_register_43 ?_
      refine lv_topi (fun v610057 ev610057 => ?_)
      have e9 : qRg σ xk = (sg610053, v610057) := by have hg9 : v610047 = σ.1 8 j610044 + 1 := (by rw [ev610047, sx610046]); unfold qRg; rw [if_neg (sp_inl_yes (i := 0) (j := 5) (by decide) (by decide) (by rw [ej610044, nI_toInt (by omega)]; omega)), cj610044, if_neg (fun z => c610052 (by rw [hmox610051]; exact z)), ev610057, ev610056, sx610055, Int32.mul_comm, esg610053, sA_s, hg9]
      have hk9 : kxo sg610053 = (kxo σ) := kxo_c (by rw [esg610053, sA_q (by omega)]) (fun q => by rw [esg610053, sA_q (by omega)])
      exact W.iret (v := v610057) hx hb hr (fun t ht hW => ⟨⟨v610057, (I610049, Q, J), rfl, ⟨by show REP v pa ra L K N T I610049 Q J (kxo (qRg σ xk).1) (qRg σ xk).1; rw [e9]; show REP v pa ra L K N T I610049 Q J (kxo sg610053) sg610053; rw [hk9]; exact hE, by show _ = _; rw [e9]⟩, by rw [ht]; exact hP, va_K.moved hW.alike hK, hD⟩, hS.F ht⟩) hS.2.2 dX5_register_44
    · have kc610052 : x610051.toInt = 1 := by have h9 := c610052; rw [xk_eq, xk_1] at h9; exact h9
      refine lv_aload_n hx hb dX5_register_30 rfl (lv_at hl 0 rfl) ?_
      refine lv_iconst (v := 0) hx hb dX5_register_31 (by decide) ?_
      obtain ⟨j610058, hj610058⟩ := pG_3 (cy := cy) (N := N) (T := T) (I := I610049) (Q := Q) (J := J) (hC.kp hj610044).1 (hC.kp hj610044).2
      have hFc := pfree hD hS hA
      refine va_callv (va_runV (As := [.int 0]) (rest := []) ⟨hx, hb, hml, hown, hts⟩ (g_X3_startEnding l dC dI cy v L K N T I610049 Q J H.size (v (4 + j610044)) 0 hC (hC.kp hj610044).1 (hC.kp hj610044).2 rfl rfl) (cwV 1 hts gX5_register_X3_startEnding rfl rfl rfl (by decide +kernel) ⟨Nat.le_of_ble_eq_true rfl, Nat.le_of_ble_eq_true rfl⟩) ⟨pw_blind, va_recv hK hP (ci := 3) (q0 := j610058) rfl hj610058, fun U hU hW => ⟨rfl, pw_pre hP hK hN hD hU hW⟩⟩ rfl rfl hl.1 rfl (lv_room (Nat.le_of_ble_eq_true rfl)) dX5_register_32 ⟨Nat.le_of_ble_eq_true rfl, Nat.le_of_ble_eq_true rfl⟩) hS (fun q _ h => hFc q h) hFc (fun d9 t H1 locs ht hvm hw hB hz1 hk1 hS => ?_)
      obtain ⟨I610059, Q610059, J610059⟩ := d9
      obtain ⟨hC, eI610059, eQ610059, eJ610059⟩ := hw
      obtain ⟨hP, hK1, hD1⟩ := hB
      rw [ht] at hP
      have hD := hD1.weaken (fun _ _ _ h => hFc _ h)
      generalize H1 = H at hP hS ⊢
      have eI610059 : I610059 = _ := eI610059
      have eQ610059 : Q610059 = Q := eQ610059
      have eJ610059 : J610059 = J := eJ610059
      have hP : va_P (dC, dI) vwCl (va_pl L (pF cy K N T I610059 Q610059 J610059)) H := hP
      have hD : va_D A (va_pl L (pF cy K N T I610059 Q610059 J610059)) := hD
      have hR : RS v I610059 Q610059 J610059 I610059 Q610059 J610059 := RS.rf
      have hC : CT v L K N T I610059 Q610059 := hC
      obtain ⟨sg610060, esg610060⟩ : ∃ z, z = sA (sA (sA (sA σ 9 j610044 2) 11 j610044 (σ.1 8 j610044)) 12 j610044 2) 8 j610044 v610047 := ⟨_, rfl⟩
      have hE : REP v pa ra L K N T I610059 Q610059 J610059 (kxo σ) sg610060 := by rw [esg610060, eJ610059]; rw [eQ610059] at hC ⊢; exact hE.wreg1 hj610044 (by rw [← hmox610051]; exact c610052) hC (by rw [eI610059, eI610049])
      refine lv_aload_n hx hb dX5_register_35 rfl (lv_at hl 0 rfl) ?_
      obtain ⟨j610061, hj610061⟩ := pG_3 (cy := cy) (N := N) (T := T) (I := I610059) (Q := Q610059) (J := J610059) (hC.kp hj610044).1 (hC.kp hj610044).2
      refine va_get (D := (dC, dI)) (ci := 3) (v := .int (I610059 (v (4 + j610044)) 1)) (C := RX3) (T := TX3) (N := 6) hx hb hts hi3 hown hK hP j610061 hj610061 rfl 1 (by decide) (hts (.fieldLink RX5 75 "TallyLogs$Producer" "generation" "I") (by decide +kernel)) (fun _ h9 => h9) rfl dX5_register_36 ?_
      refine lv_topi (fun x610062 ex610062 => ?_)
      have sx610062 : x610062 = sg610060.1 8 j610044 := ex610062.trans (hE.pr j610044 hj610044).2.1
      refine lv_bipush (v := 8) hx hb dX5_register_39 (by decide) ?_
      refine lv_imul hx hb dX5_register_41 ?_
      refine lv_topi (fun v610063 ev610063 => ?_)
      refine lv_iload_n hx hb dX5_register_42 rfl (lv_at hl 2 rfl) ?_
      refine lv_iadd hx hb dX5_register_43 ?_
      refine lv_topi (fun v610064 ev610064 => ?_)
      have e9 : qRg σ xk = (sg610060, v610064) := by have hg9 : v610047 = σ.1 8 j610044 + 1 := (by rw [ev610047, sx610046]); unfold qRg; rw [if_neg (sp_inl_yes (i := 0) (j := 5) (by decide) (by decide) (by rw [ej610044, nI_toInt (by omega)]; omega)), cj610044, if_pos (by rw [← hmox610051]; exact c610052), ev610064, ev610063, sx610062, Int32.mul_comm, esg610060, sA_s, hg9]
      have hk9 : kxo sg610060 = (kxo σ) := kxo_c (by rw [esg610060, sA_q (by omega), sA_q (by omega), sA_q (by omega), sA_q (by omega)]) (fun q => by rw [esg610060, sA_q (by omega), sA_q (by omega), sA_q (by omega), sA_q (by omega)])
      exact W.iret (v := v610064) hx hb hr (fun t ht hW => ⟨⟨v610064, (I610059, Q610059, J610059), rfl, ⟨by show REP v pa ra L K N T I610059 Q610059 J610059 (kxo (qRg σ xk).1) (qRg σ xk).1; rw [e9]; show REP v pa ra L K N T I610059 Q610059 J610059 (kxo sg610060) sg610060; rw [hk9]; exact hE, by show _ = _; rw [e9]⟩, by rw [ht]; exact hP, va_K.moved hW.alike hK, hD⟩, hS.F ht⟩) hS.2.2 dX5_register_44
set_option maxHeartbeats 4000000 in
set_option maxRecDepth 100000 in
/-- member, exactly -/
theorem g_X5_member (l : Launch) (dC : Nat → ClassId) (dI : Nat → Nat → Nat) (cy : Nat → ClassId) (v : Nat → Nat) (L : List Nat) (K N : Nat → Nat) (T : Nat → Nat → Nat) (I : Nat → Nat → Int32) (Q : Nat → Nat → Option Nat) (J : Nat → Nat → Int32) (sz : Nat) (pa ra : Nat → Nat) (kx : Nat → Prop) (σ : SG) (E : Int) (xg xm : Int32) (hE : REP v pa ra L K N T I Q J kx σ) (hkx : kx = kxo σ) (hSK : SK σ) (hLA : LA E σ) (hE9 : E < 1900) (hB : B5 (σ.1 0 0)) : Met l yX5_member wsX5_member ({ frames := 1, cells := 0, slots := 0, locals := 21 }) (va_Pc [.ref (v 0), .int xg, .int xm] (pW dC dI cy L (pF cy K N T I Q J) sz)) (va_Qi (fun (r : Int32) (d : (Nat → Nat → Int32) × (Nat → Nat → Option Nat) × (Nat → Nat → Int32)) => (REP v pa ra L K N T d.1 d.2.1 d.2.2 (kxo (qMb σ xg xm).1) (qMb σ xg xm).1) ∧ r = (qMb σ xg xm).2) (fun (d : (Nat → Nat → Int32) × (Nat → Nat → Option Nat) × (Nat → Nat → Int32)) t => va_P (dC, dI) vwCl (va_pl L (pF cy K N T d.1 d.2.1 d.2.2)) t.heap ∧ va_K (dC, dI) vwCl (pTy cy) t ∧ va_D (va_A (va_pl L (pF cy K N T I Q J)) sz) (va_pl L (pF cy K N T d.1 d.2.1 d.2.2))) (va_A (va_pl L (pF cy K N T I Q J)) sz)) 0 0 (va_A (va_pl L (pF cy K N T I Q J)) sz) := by
  refine Met.ofW (cc := cX5_member) (maxL := 4) (ret := (some .int)) (by decide) rfl ?_
  intro p e s m args below meth c s₁ B hml hv
  obtain ⟨rfl, hsz, ⟨hP, hK, hN⟩, hD0⟩ := hv
  have hx := B.exec
  have hb := B.bytes
  have hr := B.returns
  have hts := atoms_spec (ws := wsX5_member) B.pre
  have hown : s.vm.findClass RX5 = some m.cls := findClass_of_methodNamed B.named
  have hlocks := B.notSynchronized
  have hi5 : ∀ w ∈ wsX50, w ∈ wsX5_member := by decide +kernel
  have hi1 : ∀ w ∈ wsX10, w ∈ wsX5_member := by decide +kernel
  have hl := lv_entry ([.ref (v 0), .int xg, .int xm]) (n := 4) (Nat.le_of_ble_eq_true rfl)
  rw [lg_entry_eq]
  generalize (lg_sl ([.ref (v 0), .int xg, .int xm]) ++ List.replicate (4 - (lg_sl ([.ref (v 0), .int xg, .int xm])).length) Slot.unset).toArray = ls at hl ⊢
  have hl : lv_has ls 4 [(0, .ref (v 0)), (1, .int xg), (2, .int xm)] := hl
  subst hsz
  have hD := hD0.self (sz := s.heap.size)
  generalize hAe : va_A (va_pl L (pF cy K N T I Q J)) s.heap.size = A at hD ⊢
  have hA : ∀ q : Nat, s.heap.size ≤ q → A q := fun q h => by rw [← hAe]; exact Or.inr h
  have hS : va_S A s.heap s.heap [] := va_S.rf
  have hR : RS v I Q J I Q J := RS.rf
  have hn28 := hN.1
  have hn30 := hN.2.1
  have hn37 := hN.2.2.1
  have hC := hE.ct
  subst hkx
  refine lv_aload_n hx hb dX5_member_0 rfl (lv_at hl 0 rfl) ?_
  refine lv_iload_n hx hb dX5_member_1 rfl (lv_at hl 1 rfl) ?_
  obtain ⟨j610066, hj610066⟩ := pG_5 (cy := cy) (N := N) (T := T) (I := I) (Q := Q) (J := J) (hC.at 0 (by decide)) (hC.k 0 (by decide) rfl)
  refine va_csq (W.runV (As := [.int xg]) (rest := []) ⟨hx, hb, hml, hown, hts⟩ (c_X5_groupAt l dC dI cy v L K N T I Q J  xg hC) (cwV 1 hts gX5_member_X5_groupAt rfl rfl rfl (by decide +kernel) ⟨Nat.le_of_ble_eq_true rfl, Nat.le_of_ble_eq_true rfl⟩) ⟨pb_blind, va_recv hK hP (ci := 5) (q0 := j610066) rfl hj610066, fun U hU hW => ⟨rfl, pb_pre hP hK hN hU hW⟩⟩ rfl rfl hl.1 rfl (lv_room (Nat.le_of_ble_eq_true rfl)) dX5_member_2 ⟨Nat.le_of_ble_eq_true rfl, Nat.le_of_ble_eq_true rfl⟩) (fun r610065 hr610065 => ?_)
  rcases hr610065 with ⟨hn610067, rfl⟩ | ⟨j610067, hj610067, ej610067, rfl⟩
  · refine W.eq (g2 := F0 m 5 ls [.null]) rfl ?_
    refine lv_astore_nN (lv' := [(3, .null), (0, .ref (v 0)), (1, .int xg), (2, .int xm)]) hx hb dX5_member_5 rfl hl (by decide) rfl (fun ls hl => ?_)
    refine lv_aload_nN hx hb dX5_member_6 rfl (lv_at hl 0 rfl) ?_
    refine lv_ifnullN (tgt := 20) hx hb dX5_member_7 (by decide) ?_
    refine lv_iconst (v := (-1)) hx hb dX5_member_20 (by decide) ?_
    have e9 : qMb σ xg xm = (σ, (-1)) := by unfold qMb; rw [if_pos (sp_inl_no (i := 0) (j := 3) (by decide) (by decide) (by omega))]
    have hk9 : kxo σ = (kxo σ) := rfl
    exact W.iret (v := (-1)) hx hb hr (fun t ht hW => ⟨⟨(-1), (I, Q, J), rfl, ⟨by show REP v pa ra L K N T I Q J (kxo (qMb σ xg xm).1) (qMb σ xg xm).1; rw [e9]; show REP v pa ra L K N T I Q J (kxo σ) σ; rw [hk9]; exact hE, by show _ = _; rw [e9]⟩, by rw [ht]; exact hP, va_K.moved hW.alike hK, hD⟩, hS.F ht⟩) hS.2.2 dX5_member_21
  · refine W.eq (g2 := F0 m 5 ls [.ref (v (10 + j610067))]) rfl ?_
    have cj610067 := nI_cl (by omega) ej610067
    refine lv_astore_n (lv' := [(3, .ref (v (10 + j610067))), (0, .ref (v 0)), (1, .int xg), (2, .int xm)]) hx hb dX5_member_5 rfl hl (by decide) rfl (fun ls hl => ?_)
    refine lv_aload_n hx hb dX5_member_6 rfl (lv_at hl 0 rfl) ?_
    refine lv_ifnull hx hb dX5_member_7 ?_
    refine lv_iload_n hx hb dX5_member_10 rfl (lv_at hl 3 rfl) ?_
    refine lv_if_lt (tgt := 20) hx hb dX5_member_11 (by decide) (fun c610068 => ?_) (fun c610068 => ?_)
    · have kc610068 : xm.toInt < 0 := by have h9 := c610068; rw [xk_lt, xk_0] at h9; exact h9
      refine lv_iconst (v := (-1)) hx hb dX5_member_20 (by decide) ?_
      have e9 : qMb σ xg xm = (σ, (-1)) := by unfold qMb; rw [if_neg (sp_inl_yes (i := 0) (j := 3) (by decide) (by decide) (by rw [ej610067, nI_toInt (by omega)]; omega)), if_pos (sp_inl_no (i := 0) (j := 7) (by decide) (by decide) (by omega))]
      have hk9 : kxo σ = (kxo σ) := rfl
      exact W.iret (v := (-1)) hx hb hr (fun t ht hW => ⟨⟨(-1), (I, Q, J), rfl, ⟨by show REP v pa ra L K N T I Q J (kxo (qMb σ xg xm).1) (qMb σ xg xm).1; rw [e9]; show REP v pa ra L K N T I Q J (kxo σ) σ; rw [hk9]; exact hE, by show _ = _; rw [e9]⟩, by rw [ht]; exact hP, va_K.moved hW.alike hK, hD⟩, hS.F ht⟩) hS.2.2 dX5_member_21
    · have kc610068 : ¬ (xm.toInt < 0) := by have h9 := c610068; rw [xk_lt, xk_0] at h9; exact h9
      refine lv_iload_n hx hb dX5_member_14 rfl (lv_at hl 3 rfl) ?_
      refine lv_bipush (v := 8) hx hb dX5_member_15 (by decide) ?_
      refine lv_icmp_lt (tgt := 22) hx hb dX5_member_17 (by decide) (fun c610069 => ?_) (fun c610069 => ?_)
      · have kc610069 : xm.toInt < 8 := by have h9 := c610069; rw [xk_lt, xk_8] at h9; exact h9
        refine lv_aload_n hx hb dX5_member_22 rfl (lv_at hl 0 rfl) ?_
        refine lv_dup hx hb dX5_member_23 rfl ?_
        obtain ⟨j610070, hj610070⟩ := pG_1 (cy := cy) (N := N) (T := T) (I := I) (Q := Q) (J := J) (hC.kg hj610067).1 (hC.kg hj610067).2
        refine va_get (D := (dC, dI)) (ci := 1) (v := .int (I (v (10 + j610067)) 0)) (C := RX1) (T := TX1) (N := 3) hx hb hts hi1 hown hK hP j610070 hj610070 rfl 0 (by decide) (hts (.fieldLink RX5 198 "TallyLogs$Group" "members" "I") (by decide +kernel)) (fun _ h9 => h9) rfl dX5_member_24 ?_
        refine lv_topi (fun x610071 ex610071 => ?_)
        have sx610071 : x610071 = σ.1 13 j610067 := ex610071.trans (hE.gr j610067 hj610067).1
        refine lv_iconst (v := 1) hx hb dX5_member_27 (by decide) ?_
        refine lv_iload_n hx hb dX5_member_28 rfl (lv_at hl 3 rfl) ?_
        refine lv_ishl hx hb dX5_member_29 ?_
        refine lv_topi (fun v610072 ev610072 => ?_)
        refine lv_ixor hx hb dX5_member_30 ?_
        refine lv_topi (fun v610073 ev610073 => ?_)
        obtain ⟨j610074, hj610074⟩ := pG_1 (cy := cy) (N := N) (T := T) (I := I) (Q := Q) (J := J) (hC.kg hj610067).1 (hC.kg hj610067).2
        have hDo := hD
        refine va_put (D := (dC, dI)) (ci := 1) (v := .int v610073) (ty := .int) (C := RX1) (T := TX1) (N := 3) hx hb hts hi1 tyX1 tyX1_ok nmX1 hown hK hP hD hS j610074 hj610074 rfl 0 (by decide) (hts (.fieldLink RX5 198 "TallyLogs$Group" "members" "I") (by decide +kernel)) (fun _ h9 => h9) rfl (by decide +kernel) rfl rfl (Nat.le_of_ble_eq_true rfl) dX5_member_31 (fun H locs hP hD hS => ?_)
        have hP := Eq.mp (congrArg (fun w => va_P (dC, dI) vwCl w H) (pP_1_0 (x := v610073) hDo (hC.kg hj610067).1 (hC.kg hj610067).2 hj610074)) hP
        obtain ⟨I610075, eI610075⟩ : ∃ z, z = p2 I (v (10 + j610067)) 0 v610073 := ⟨_, rfl⟩
        rw [← eI610075] at hP
        have hR : RS v I610075 Q J I610075 Q J := RS.rf
        obtain ⟨sg610076, esg610076⟩ : ∃ z, z = sA σ 13 j610067 v610073 := ⟨_, rfl⟩
        have hE : REP v pa ra L K N T I610075 Q J (kxo σ) sg610076 := by rw [esg610076, eI610075]; exact hE.wg (f := 0) hj610067 (by decide)
        have hC : CT v L K N T I610075 Q := by rw [eI610075]; exact hC.pi (by rw [(hC.kg hj610067).2]; decide)
        have hD : va_D A (va_pl L (pF cy K N T I610075 Q J)) := pD hDo
        refine lv_aload_n hx hb dX5_member_34 rfl (lv_at hl 0 rfl) ?_
        refine lv_dup hx hb dX5_member_35 rfl ?_
        obtain ⟨j610077, hj610077⟩ := pG_1 (cy := cy) (N := N) (T := T) (I := I610075) (Q := Q) (J := J) (hC.kg hj610067).1 (hC.kg hj610067).2
        refine va_get (D := (dC, dI)) (ci := 1) (v := .int (I610075 (v (10 + j610067)) 1)) (C := RX1) (T := TX1) (N := 3) hx hb hts hi1 hown hK hP j610077 hj610077 rfl 1 (by decide) (hts (.fieldLink RX5 201 "TallyLogs$Group" "round" "I") (by decide +kernel)) (fun _ h9 => h9) rfl dX5_member_36 ?_
        refine lv_topi (fun x610078 ex610078 => ?_)
        have sx610078 : x610078 = sg610076.1 14 j610067 := ex610078.trans (hE.gr j610067 hj610067).2
        refine lv_iconst (v := 1) hx hb dX5_member_39 (by decide) ?_
        refine lv_iadd hx hb dX5_member_40 ?_
        refine lv_topi (fun v610079 ev610079 => ?_)
        obtain ⟨j610080, hj610080⟩ := pG_1 (cy := cy) (N := N) (T := T) (I := I610075) (Q := Q) (J := J) (hC.kg hj610067).1 (hC.kg hj610067).2
        have hDo := hD
        refine va_put (D := (dC, dI)) (ci := 1) (v := .int v610079) (ty := .int) (C := RX1) (T := TX1) (N := 3) hx hb hts hi1 tyX1 tyX1_ok nmX1 hown hK hP hD hS j610080 hj610080 rfl 1 (by decide) (hts (.fieldLink RX5 201 "TallyLogs$Group" "round" "I") (by decide +kernel)) (fun _ h9 => h9) rfl (by decide +kernel) rfl rfl (Nat.le_of_ble_eq_true rfl) dX5_member_41 (fun H locs hP hD hS => ?_)
        have hP := Eq.mp (congrArg (fun w => va_P (dC, dI) vwCl w H) (pP_1_1 (x := v610079) hDo (hC.kg hj610067).1 (hC.kg hj610067).2 hj610080)) hP
        obtain ⟨I610081, eI610081⟩ : ∃ z, z = p2 I610075 (v (10 + j610067)) 1 v610079 := ⟨_, rfl⟩
        rw [← eI610081] at hP
        have hR : RS v I610081 Q J I610081 Q J := RS.rf
        obtain ⟨sg610082, esg610082⟩ : ∃ z, z = sA sg610076 14 j610067 v610079 := ⟨_, rfl⟩
        have hE : REP v pa ra L K N T I610081 Q J (kxo σ) sg610082 := by rw [esg610082, eI610081]; exact hE.wg (f := 1) hj610067 (by decide)
        have hC : CT v L K N T I610081 Q := by rw [eI610081]; exact hC.pi (by rw [(hC.kg hj610067).2]; decide)
        have hD : va_D A (va_pl L (pF cy K N T I610081 Q J)) := pD hDo
        refine lv_aload_n hx hb dX5_member_44 rfl (lv_at hl 0 rfl) ?_
        obtain ⟨j610083, hj610083⟩ := pG_1 (cy := cy) (N := N) (T := T) (I := I610081) (Q := Q) (J := J) (hC.kg hj610067).1 (hC.kg hj610067).2
        refine va_get (D := (dC, dI)) (ci := 1) (v := .int (I610081 (v (10 + j610067)) 1)) (C := RX1) (T := TX1) (N := 3) hx hb hts hi1 hown hK hP j610083 hj610083 rfl 1 (by decide) (hts (.fieldLink RX5 201 "TallyLogs$Group" "round" "I") (by decide +kernel)) (fun _ h9 => h9) rfl dX5_member_45 ?_
        refine lv_topi (fun x610084 ex610084 => ?_)
        have sx610084 : x610084 = sg610082.1 14 j610067 := ex610084.trans (hE.gr j610067 hj610067).2
        have e9 : qMb σ xg xm = (sg610082, x610084) := by unfold qMb; rw [if_neg (sp_inl_yes (i := 0) (j := 3) (by decide) (by decide) (by rw [ej610067, nI_toInt (by omega)]; omega)), if_neg (sp_inl_yes (i := 0) (j := 7) (by decide) (by decide) (by omega)), cj610067, sx610084, esg610082, sA_s, ev610079, sx610078, esg610076, sA_n (i := 14) (by decide), ev610073, sx610071, ev610072]
        have hk9 : kxo sg610082 = (kxo σ) := kxo_c (by rw [esg610082, sA_q (by omega), esg610076, sA_q (by omega)]) (fun q => by rw [esg610082, sA_q (by omega), esg610076, sA_q (by omega)])
        exact W.iret (v := x610084) hx hb hr (fun t ht hW => ⟨⟨x610084, (I610081, Q, J), rfl, ⟨by show REP v pa ra L K N T I610081 Q J (kxo (qMb σ xg xm).1) (qMb σ xg xm).1; rw [e9]; show REP v pa ra L K N T I610081 Q J (kxo sg610082) sg610082; rw [hk9]; exact hE, by show _ = _; rw [e9]⟩, by rw [ht]; exact hP, va_K.moved hW.alike hK, hD⟩, hS.F ht⟩) hS.2.2 dX5_member_48
      · have kc610069 : ¬ (xm.toInt < 8) := by have h9 := c610069; rw [xk_lt, xk_8] at h9; exact h9
        refine lv_iconst (v := (-1)) hx hb dX5_member_20 (by decide) ?_
        have e9 : qMb σ xg xm = (σ, (-1)) := by unfold qMb; rw [if_neg (sp_inl_yes (i := 0) (j := 3) (by decide) (by decide) (by rw [ej610067, nI_toInt (by omega)]; omega)), if_pos (sp_inl_no (i := 0) (j := 7) (by decide) (by decide) (by omega))]
        have hk9 : kxo σ = (kxo σ) := rfl
        exact W.iret (v := (-1)) hx hb hr (fun t ht hW => ⟨⟨(-1), (I, Q, J), rfl, ⟨by show REP v pa ra L K N T I Q J (kxo (qMb σ xg xm).1) (qMb σ xg xm).1; rw [e9]; show REP v pa ra L K N T I Q J (kxo σ) σ; rw [hk9]; exact hE, by show _ = _; rw [e9]⟩, by rw [ht]; exact hP, va_K.moved hW.alike hK, hD⟩, hS.F ht⟩) hS.2.2 dX5_member_21
