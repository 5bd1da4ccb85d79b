set_option maxHeartbeats 4000000 in
set_option maxRecDepth 100000 in
/-- producerOf(handle) -/
theorem c_X5_producerOf (l : Launch) (dC : Nat → ClassId) (dI : Nat → Nat → Nat) (cy : Nat → ClassId) (v : Nat → Nat) (L : List Nat) (K N : Nat → Nat) (T : Nat → Nat → Nat) (I : Nat → Nat → Int32) (Q : Nat → Nat → Option Nat) (J : Nat → Nat → Int32) (hd : Int32) (hC : CT v L K N T I Q) : Met l yX5_producerOf wsX5_producerOf ({ frames := 1, cells := 0, slots := 0, locals := 21 }) (va_Pc [.ref (v 0), .int hd] (pB dC dI cy L (pF cy K N T I Q J))) (va_Sq (fun r => r = none ∨ ∃ j : Nat, j < 6 ∧ r = some (v (4 + j)))) 0 0 (fun _ => False) := by
  refine Met.ofW (cc := cX5_producerOf) (maxL := 2) (ret := (some (.object "TallyLogs$Producer"))) (by decide) rfl ?_
  intro p e s m args below meth c s₁ B hml hv
  obtain ⟨rfl, hP, hK, hN⟩ := hv
  have hx := B.exec
  have hb := B.bytes
  have hr := B.returns
  have hts := atoms_spec (ws := wsX5_producerOf) B.pre
  have hown : s.vm.findClass RX5 = some m.cls := findClass_of_methodNamed B.named
  have hlocks := B.notSynchronized
  have hi5 : ∀ w ∈ wsX50, w ∈ wsX5_producerOf := by decide +kernel
  have hl := lv_entry ([.ref (v 0), .int hd]) (n := 2) (Nat.le_of_ble_eq_true rfl)
  rw [lg_entry_eq]
  generalize (lg_sl ([.ref (v 0), .int hd]) ++ List.replicate (2 - (lg_sl ([.ref (v 0), .int hd])).length) Slot.unset).toArray = ls at hl ⊢
  have hl : lv_has ls 2 [(0, .ref (v 0)), (1, .int hd)] := hl
  have hn28 := hN.1
  have hn30 := hN.2.1
  have hn37 := hN.2.2.1
  refine lv_iload_n hx hb dX5_producerOf_0 rfl (lv_at hl 1 rfl) ?_
  refine lv_if_ge (tgt := 8) hx hb dX5_producerOf_1 (by decide) (fun c848 => ?_) (fun c848 => ?_)
  · refine lv_aload_n hx hb dX5_producerOf_8 rfl (lv_at hl 0 rfl) ?_
    refine lv_iload_n hx hb dX5_producerOf_9 rfl (lv_at hl 1 rfl) ?_
    refine lv_bipush (v := 8) hx hb dX5_producerOf_10 (by decide) ?_
    refine lv_irem hx hb dX5_producerOf_12 (by decide) ?_
    refine lv_topi (fun v849 ev849 => ?_)
    obtain ⟨j851, hj851⟩ := pG_5 (cy := cy) (N := N) (T := T) (I := I) (Q := Q) (J := J) (hC.at 0 (by decide)) (hC.k 0 (by decide) rfl)
    refine va_csq (W.runV (As := [.int v849]) (rest := []) ⟨hx, hb, hml, hown, hts⟩ (c_X5_producerAt l dC dI cy v L K N T I Q J  v849 hC) (cwV 1 hts gX5_producerOf_X5_producerAt rfl rfl rfl (by decide +kernel) ⟨Nat.le_of_ble_eq_true rfl, Nat.le_of_ble_eq_true rfl⟩) ⟨pb_blind, va_recv hK hP (ci := 5) (q0 := j851) rfl hj851, fun U hU hW => ⟨rfl, pb_pre hP hK hN hU hW⟩⟩ rfl rfl hl.1 rfl (lv_room (Nat.le_of_ble_eq_true rfl)) dX5_producerOf_13 ⟨Nat.le_of_ble_eq_true rfl, Nat.le_of_ble_eq_true rfl⟩) (fun r850 hr850 => ?_)
    rcases hr850 with ⟨hn852, rfl⟩ | ⟨j852, hj852, hn852, rfl⟩
    · refine W.eq (g2 := F0 m 16 ls [.null]) rfl ?_
      exact W.aret (v := .null) hx hb hr (Or.inl ⟨_, rfl⟩) (Or.inl rfl) (fun t ht hW => ⟨none, rfl, Or.inl rfl, ht⟩) (fun _ h => by cases h) dX5_producerOf_16
    · refine W.eq (g2 := F0 m 16 ls [.ref (v (4 + j852))]) rfl ?_
      exact W.aret (v := .ref (v (4 + j852))) hx hb hr (Or.inl ⟨_, rfl⟩) (Or.inr ⟨_, rfl⟩) (fun t ht hW => ⟨some (v (4 + j852)), rfl, Or.inr ⟨j852, hj852, rfl⟩, ht⟩) (fun _ h => by cases h) dX5_producerOf_16
  · refine lv_null hx hb dX5_producerOf_4 ?_
    refine lv_goto (tgt := 16) hx hb dX5_producerOf_5 (by decide) ?_
    exact W.aret (v := .null) hx hb hr (Or.inl ⟨_, rfl⟩) (Or.inl rfl) (fun t ht hW => ⟨none, rfl, Or.inl rfl, ht⟩) (fun _ h => by cases h) dX5_producerOf_16
set_option maxHeartbeats 4000000 in
set_option maxRecDepth 100000 in
/-- begin -/
theorem c_X5_begin (l : Launch) (dC : Nat → ClassId) (dI : Nat → Nat → Nat) (cy : Nat → ClassId) (v : Nat → Nat) (L : List Nat) (K N : Nat → Nat) (T : Nat → Nat → Nat) (I : Nat → Nat → Int32) (Q : Nat → Nat → Option Nat) (J : Nat → Nat → Int32) (sz : Nat) (hd : Int32) (hC : CT v L K N T I Q) : Met l yX5_begin wsX5_begin ({ frames := 2, cells := 0, slots := 0, locals := 42 }) (va_Pc [.ref (v 0), .int hd] (pW dC dI cy L (pF cy K N T I Q J) sz)) (va_Qi (fun (r : Int32) (d : (Nat → Nat → Int32) × (Nat → Nat → Option Nat) × (Nat → Nat → Int32)) => (CT v L K N T d.1 d.2.1 ∧ RS v I Q J d.1 d.2.1 d.2.2) ∧ True) (fun (d : (Nat → Nat → Int32) × (Nat → Nat → Option Nat) × (Nat → Nat → Int32)) t => va_P (dC, dI) vwCl (va_pl L (pF cy K N T d.1 d.2.1 d.2.2)) t.heap ∧ va_K (dC, dI) vwCl (pTy cy) t ∧ va_D (va_A (va_pl L (pF cy K N T I Q J)) sz) (va_pl L (pF cy K N T d.1 d.2.1 d.2.2))) (va_A (va_pl L (pF cy K N T I Q J)) sz)) 0 0 (va_A (va_pl L (pF cy K N T I Q J)) sz) := by
  refine Met.ofW (cc := cX5_begin) (maxL := 3) (ret := (some .int)) (by decide) rfl ?_
  intro p e s m args below meth c s₁ B hml hv
  obtain ⟨rfl, hsz, ⟨hP, hK, hN⟩, hD0⟩ := hv
  have hx := B.exec
  have hb := B.bytes
  have hr := B.returns
  have hts := atoms_spec (ws := wsX5_begin) B.pre
  have hown : s.vm.findClass RX5 = some m.cls := findClass_of_methodNamed B.named
  have hlocks := B.notSynchronized
  have hi5 : ∀ w ∈ wsX50, w ∈ wsX5_begin := by decide +kernel
  have hi3 : ∀ w ∈ wsX30, w ∈ wsX5_begin := by decide +kernel
  have hl := lv_entry ([.ref (v 0), .int hd]) (n := 3) (Nat.le_of_ble_eq_true rfl)
  rw [lg_entry_eq]
  generalize (lg_sl ([.ref (v 0), .int hd]) ++ List.replicate (3 - (lg_sl ([.ref (v 0), .int hd])).length) Slot.unset).toArray = ls at hl ⊢
  have hl : lv_has ls 3 [(0, .ref (v 0)), (1, .int hd)] := hl
  subst hsz
  have hD := hD0.self (sz := s.heap.size)
  generalize hAe : va_A (va_pl L (pF cy K N T I Q J)) s.heap.size = A at hD ⊢
  have hA : ∀ q : Nat, s.heap.size ≤ q → A q := fun q h => by rw [← hAe]; exact Or.inr h
  have hS : va_S A s.heap s.heap [] := va_S.rf
  have hR : RS v I Q J I Q J := RS.rf
  have hn28 := hN.1
  have hn30 := hN.2.1
  have hn37 := hN.2.2.1
  refine lv_aload_n hx hb dX5_begin_0 rfl (lv_at hl 0 rfl) ?_
  refine lv_iload_n hx hb dX5_begin_1 rfl (lv_at hl 1 rfl) ?_
  obtain ⟨j854, hj854⟩ := pG_5 (cy := cy) (N := N) (T := T) (I := I) (Q := Q) (J := J) (hC.at 0 (by decide)) (hC.k 0 (by decide) rfl)
  refine va_csq (W.runV (As := [.int hd]) (rest := []) ⟨hx, hb, hml, hown, hts⟩ (c_X5_producerOf l dC dI cy v L K N T I Q J  hd hC) (cwV 1 hts gX5_begin_X5_producerOf rfl rfl rfl (by decide +kernel) ⟨Nat.le_of_ble_eq_true rfl, Nat.le_of_ble_eq_true rfl⟩) ⟨pb_blind, va_recv hK hP (ci := 5) (q0 := j854) rfl hj854, fun U hU hW => ⟨rfl, pb_pre hP hK hN hU hW⟩⟩ rfl rfl hl.1 rfl (lv_room (Nat.le_of_ble_eq_true rfl)) dX5_begin_2 ⟨Nat.le_of_ble_eq_true rfl, Nat.le_of_ble_eq_true rfl⟩) (fun r853 hr853 => ?_)
  rcases hr853 with rfl | ⟨j855, hj855, rfl⟩
  · refine W.eq (g2 := F0 m 5 ls [.null]) rfl ?_
    refine lv_astore_nN (lv' := [(2, .null), (0, .ref (v 0)), (1, .int hd)]) hx hb dX5_begin_5 rfl hl (by decide) rfl (fun ls hl => ?_)
    refine lv_aload_nN hx hb dX5_begin_6 rfl (lv_at hl 0 rfl) ?_
    refine lv_ifnonnullN hx hb dX5_begin_7 ?_
    refine lv_iconst (v := (-1)) hx hb dX5_begin_10 (by decide) ?_
    exact W.iret (v := (-1)) hx hb hr (fun t ht hW => ⟨⟨(-1), (I, Q, J), rfl, ⟨⟨hC, hR⟩, trivial⟩, by rw [ht]; exact hP, va_K.moved hW.alike hK, hD⟩, hS.F ht⟩) hS.2.2 dX5_begin_11
  · refine W.eq (g2 := F0 m 5 ls [.ref (v (4 + j855))]) rfl ?_
    refine lv_astore_n (lv' := [(2, .ref (v (4 + j855))), (0, .ref (v 0)), (1, .int hd)]) hx hb dX5_begin_5 rfl hl (by decide) rfl (fun ls hl => ?_)
    refine lv_aload_n hx hb dX5_begin_6 rfl (lv_at hl 0 rfl) ?_
    refine lv_ifnonnull (tgt := 12) hx hb dX5_begin_7 (by decide) ?_
    refine lv_aload_n hx hb dX5_begin_12 rfl (lv_at hl 0 rfl) ?_
    obtain ⟨j856, hj856⟩ := pG_3 (cy := cy) (N := N) (T := T) (I := I) (Q := Q) (J := J) (hC.kp hj855).1 (hC.kp hj855).2
    refine va_get (D := (dC, dI)) (ci := 3) (v := .int (I (v (4 + j855)) 1)) (C := RX3) (T := TX3) (N := 6) hx hb hts hi3 hown hK hP j856 hj856 rfl 1 (by decide) (hts (.fieldLink RX5 75 "TallyLogs$Producer" "generation" "I") (by decide +kernel)) (fun _ h9 => h9) rfl dX5_begin_13 ?_
    refine lv_topi (fun x857 ex857 => ?_)
    refine lv_iload_n hx hb dX5_begin_16 rfl (lv_at hl 2 rfl) ?_
    refine vp_callSi (W.runS (As := [.int hd]) (rest := [.int x857]) ⟨hx, hb, hml, hown, hts⟩ (c_X5_generationOf l hd) (va_cwS 1 hts gX5_begin_X5_generationOf rfl rfl rfl (by decide +kernel) ⟨Nat.le_of_ble_eq_true rfl, Nat.le_of_ble_eq_true rfl⟩) preEq rfl rfl hl.1 rfl (lv_room (Nat.le_of_ble_eq_true rfl)) dX5_begin_17 ⟨Nat.le_of_ble_eq_true rfl, Nat.le_of_ble_eq_true rfl⟩) (fun r858 hr858 => ?_)
    refine lv_icmp_ne (tgt := 30) hx hb dX5_begin_20 (by decide) (fun c859 => ?_) (fun c859 => ?_)
    · refine lv_bipush (v := (-4)) hx hb dX5_begin_30 (by decide) ?_
      exact W.iret (v := (-4)) hx hb hr (fun t ht hW => ⟨⟨(-4), (I, Q, J), rfl, ⟨⟨hC, hR⟩, trivial⟩, by rw [ht]; exact hP, va_K.moved hW.alike hK, hD⟩, hS.F ht⟩) hS.2.2 dX5_begin_32
    · refine lv_aload_n hx hb dX5_begin_23 rfl (lv_at hl 0 rfl) ?_
      obtain ⟨j860, hj860⟩ := pG_3 (cy := cy) (N := N) (T := T) (I := I) (Q := Q) (J := J) (hC.kp hj855).1 (hC.kp hj855).2
      refine va_get (D := (dC, dI)) (ci := 3) (v := .int (I (v (4 + j855)) 2)) (C := RX3) (T := TX3) (N := 6) hx hb hts hi3 hown hK hP j860 hj860 rfl 2 (by decide) (hts (.fieldLink RX5 78 "TallyLogs$Producer" "mode" "I") (by decide +kernel)) (fun _ h9 => h9) rfl dX5_begin_24 ?_
      refine lv_topi (fun x861 ex861 => ?_)
      refine lv_if_eq (tgt := 33) hx hb dX5_begin_27 (by decide) (fun c862 => ?_) (fun c862 => ?_)
      · refine lv_aload_n hx hb dX5_begin_33 rfl (lv_at hl 0 rfl) ?_
        obtain ⟨j863, hj863⟩ := pG_3 (cy := cy) (N := N) (T := T) (I := I) (Q := Q) (J := J) (hC.kp hj855).1 (hC.kp hj855).2
        have hFc := pfree hD hS hA
        refine va_callv (va_runV (As := []) (rest := []) ⟨hx, hb, hml, hown, hts⟩ (c_X3_open l dC dI cy v L K N T I Q J s.heap.size (v (4 + j855))  hC (hC.kp hj855).1 (hC.kp hj855).2) (cwV 0 hts gX5_begin_X3_open rfl rfl rfl (by decide +kernel) ⟨Nat.le_of_ble_eq_true rfl, Nat.le_of_ble_eq_true rfl⟩) ⟨pw_blind, va_recv hK hP (ci := 3) (q0 := j863) rfl hj863, fun U hU hW => ⟨rfl, pw_pre hP hK hN hD hU hW⟩⟩ rfl rfl hl.1 rfl (lv_room (Nat.le_of_ble_eq_true rfl)) dX5_begin_34 ⟨Nat.le_of_ble_eq_true rfl, Nat.le_of_ble_eq_true rfl⟩) hS (fun q _ h => hFc q h) hFc (fun d9 t H1 locs ht hvm hw hB hz1 hk1 hS => ?_)
        obtain ⟨I864, Q864, J864⟩ := d9
        obtain ⟨hC, hR1⟩ := hw
        obtain ⟨hP, hK1, hD1⟩ := hB
        rw [ht] at hP
        have hD := hD1.weaken (fun _ _ _ h => hFc _ h)
        have hR := hR.trans hR1
        generalize H1 = H at hP hS ⊢
        have hP : va_P (dC, dI) vwCl (va_pl L (pF cy K N T I864 Q864 J864)) H := hP
        have hD : va_D A (va_pl L (pF cy K N T I864 Q864 J864)) := hD
        have hC : CT v L K N T I864 Q864 := hC
        have hR : RS v I Q J I864 Q864 J864 := hR
        refine lv_iconst (v := 0) hx hb dX5_begin_37 (by decide) ?_
        exact W.iret (v := 0) hx hb hr (fun t ht hW => ⟨⟨0, (I864, Q864, J864), rfl, ⟨⟨hC, hR⟩, trivial⟩, by rw [ht]; exact hP, va_K.moved hW.alike hK, hD⟩, hS.F ht⟩) hS.2.2 dX5_begin_38
      · refine lv_bipush (v := (-4)) hx hb dX5_begin_30 (by decide) ?_
        exact W.iret (v := (-4)) hx hb hr (fun t ht hW => ⟨⟨(-4), (I, Q, J), rfl, ⟨⟨hC, hR⟩, trivial⟩, by rw [ht]; exact hP, va_K.moved hW.alike hK, hD⟩, hS.F ht⟩) hS.2.2 dX5_begin_32
set_option maxHeartbeats 4000000 in
set_option maxRecDepth 100000 in
/-- finish -/
theorem c_X5_finish (l : Launch) (dC : Nat → ClassId) (dI : Nat → Nat → Nat) (cy : Nat → ClassId) (v : Nat → Nat) (L : List Nat) (K N : Nat → Nat) (T : Nat → Nat → Nat) (I : Nat → Nat → Int32) (Q : Nat → Nat → Option Nat) (J : Nat → Nat → Int32) (sz : Nat) (hd : Int32) (cm : Int32) (hC : CT v L K N T I Q) (hcm : narrow .boolean (.int cm) = .int cm) (hcf : fits .boolean (.int cm) = true) : Met l yX5_finish wsX5_finish ({ frames := 2, cells := 0, slots := 0, locals := 42 }) (va_Pc [.ref (v 0), .int hd, .int cm] (pW dC dI cy L (pF cy K N T I Q J) sz)) (va_Qi (fun (r : Int32) (d : (Nat → Nat → Int32) × (Nat → Nat → Option Nat) × (Nat → Nat → Int32)) => (CT v L K N T d.1 d.2.1 ∧ RS v I Q J d.1 d.2.1 d.2.2) ∧ True) (fun (d : (Nat → Nat → Int32) × (Nat → Nat → Option Nat) × (Nat → Nat → Int32)) t => va_P (dC, dI) vwCl (va_pl L (pF cy K N T d.1 d.2.1 d.2.2)) t.heap ∧ va_K (dC, dI) vwCl (pTy cy) t ∧ va_D (va_A (va_pl L (pF cy K N T I Q J)) sz) (va_pl L (pF cy K N T d.1 d.2.1 d.2.2))) (va_A (va_pl L (pF cy K N T I Q J)) sz)) 0 0 (va_A (va_pl L (pF cy K N T I Q J)) sz) := by
  refine Met.ofW (cc := cX5_finish) (maxL := 4) (ret := (some .int)) (by decide) rfl ?_
  intro p e s m args below meth c s₁ B hml hv
  obtain ⟨rfl, hsz, ⟨hP, hK, hN⟩, hD0⟩ := hv
  have hx := B.exec
  have hb := B.bytes
  have hr := B.returns
  have hts := atoms_spec (ws := wsX5_finish) B.pre
  have hown : s.vm.findClass RX5 = some m.cls := findClass_of_methodNamed B.named
  have hlocks := B.notSynchronized
  have hi5 : ∀ w ∈ wsX50, w ∈ wsX5_finish := by decide +kernel
  have hi3 : ∀ w ∈ wsX30, w ∈ wsX5_finish := by decide +kernel
  have hl := lv_entry ([.ref (v 0), .int hd, .int cm]) (n := 4) (Nat.le_of_ble_eq_true rfl)
  rw [lg_entry_eq]
  generalize (lg_sl ([.ref (v 0), .int hd, .int cm]) ++ List.replicate (4 - (lg_sl ([.ref (v 0), .int hd, .int cm])).length) Slot.unset).toArray = ls at hl ⊢
  have hl : lv_has ls 4 [(0, .ref (v 0)), (1, .int hd), (2, .int cm)] := hl
  subst hsz
  have hD := hD0.self (sz := s.heap.size)
  generalize hAe : va_A (va_pl L (pF cy K N T I Q J)) s.heap.size = A at hD ⊢
  have hA : ∀ q : Nat, s.heap.size ≤ q → A q := fun q h => by rw [← hAe]; exact Or.inr h
  have hS : va_S A s.heap s.heap [] := va_S.rf
  have hR : RS v I Q J I Q J := RS.rf
  have hn28 := hN.1
  have hn30 := hN.2.1
  have hn37 := hN.2.2.1
  refine lv_aload_n hx hb dX5_finish_0 rfl (lv_at hl 0 rfl) ?_
  refine lv_iload_n hx hb dX5_finish_1 rfl (lv_at hl 1 rfl) ?_
  obtain ⟨j867, hj867⟩ := pG_5 (cy := cy) (N := N) (T := T) (I := I) (Q := Q) (J := J) (hC.at 0 (by decide)) (hC.k 0 (by decide) rfl)
  refine va_csq (W.runV (As := [.int hd]) (rest := []) ⟨hx, hb, hml, hown, hts⟩ (c_X5_producerOf l dC dI cy v L K N T I Q J  hd hC) (cwV 1 hts gX5_finish_X5_producerOf rfl rfl rfl (by decide +kernel) ⟨Nat.le_of_ble_eq_true rfl, Nat.le_of_ble_eq_true rfl⟩) ⟨pb_blind, va_recv hK hP (ci := 5) (q0 := j867) rfl hj867, fun U hU hW => ⟨rfl, pb_pre hP hK hN hU hW⟩⟩ rfl rfl hl.1 rfl (lv_room (Nat.le_of_ble_eq_true rfl)) dX5_finish_2 ⟨Nat.le_of_ble_eq_true rfl, Nat.le_of_ble_eq_true rfl⟩) (fun r866 hr866 => ?_)
  rcases hr866 with rfl | ⟨j868, hj868, rfl⟩
  · refine W.eq (g2 := F0 m 5 ls [.null]) rfl ?_
    refine lv_astore_nN (lv' := [(3, .null), (0, .ref (v 0)), (1, .int hd), (2, .int cm)]) hx hb dX5_finish_5 rfl hl (by decide) rfl (fun ls hl => ?_)
    refine lv_aload_nN hx hb dX5_finish_6 rfl (lv_at hl 0 rfl) ?_
    refine lv_ifnonnullN hx hb dX5_finish_7 ?_
    refine lv_iconst (v := (-1)) hx hb dX5_finish_10 (by decide) ?_
    exact W.iret (v := (-1)) hx hb hr (fun t ht hW => ⟨⟨(-1), (I, Q, J), rfl, ⟨⟨hC, hR⟩, trivial⟩, by rw [ht]; exact hP, va_K.moved hW.alike hK, hD⟩, hS.F ht⟩) hS.2.2 dX5_finish_11
  · refine W.eq (g2 := F0 m 5 ls [.ref (v (4 + j868))]) rfl ?_
    refine lv_astore_n (lv' := [(3, .ref (v (4 + j868))), (0, .ref (v 0)), (1, .int hd), (2, .int cm)]) hx hb dX5_finish_5 rfl hl (by decide) rfl (fun ls hl => ?_)
    refine lv_aload_n hx hb dX5_finish_6 rfl (lv_at hl 0 rfl) ?_
    refine lv_ifnonnull (tgt := 12) hx hb dX5_finish_7 (by decide) ?_
    refine lv_aload_n hx hb dX5_finish_12 rfl (lv_at hl 0 rfl) ?_
    obtain ⟨j869, hj869⟩ := pG_3 (cy := cy) (N := N) (T := T) (I := I) (Q := Q) (J := J) (hC.kp hj868).1 (hC.kp hj868).2
    refine va_get (D := (dC, dI)) (ci := 3) (v := .int (I (v (4 + j868)) 1)) (C := RX3) (T := TX3) (N := 6) hx hb hts hi3 hown hK hP j869 hj869 rfl 1 (by decide) (hts (.fieldLink RX5 75 "TallyLogs$Producer" "generation" "I") (by decide +kernel)) (fun _ h9 => h9) rfl dX5_finish_13 ?_
    refine lv_topi (fun x870 ex870 => ?_)
    refine lv_iload_n hx hb dX5_finish_16 rfl (lv_at hl 2 rfl) ?_
    refine vp_callSi (W.runS (As := [.int hd]) (rest := [.int x870]) ⟨hx, hb, hml, hown, hts⟩ (c_X5_generationOf l hd) (va_cwS 1 hts gX5_finish_X5_generationOf rfl rfl rfl (by decide +kernel) ⟨Nat.le_of_ble_eq_true rfl, Nat.le_of_ble_eq_true rfl⟩) preEq rfl rfl hl.1 rfl (lv_room (Nat.le_of_ble_eq_true rfl)) dX5_finish_17 ⟨Nat.le_of_ble_eq_true rfl, Nat.le_of_ble_eq_true rfl⟩) (fun r871 hr871 => ?_)
    refine lv_icmp_ne (tgt := 31) hx hb dX5_finish_20 (by decide) (fun c872 => ?_) (fun c872 => ?_)
    · refine lv_bipush (v := (-4)) hx hb dX5_finish_31 (by decide) ?_
      exact W.iret (v := (-4)) hx hb hr (fun t ht hW => ⟨⟨(-4), (I, Q, J), rfl, ⟨⟨hC, hR⟩, trivial⟩, by rw [ht]; exact hP, va_K.moved hW.alike hK, hD⟩, hS.F ht⟩) hS.2.2 dX5_finish_33
    · refine lv_aload_n hx hb dX5_finish_23 rfl (lv_at hl 0 rfl) ?_
      obtain ⟨j873, hj873⟩ := pG_3 (cy := cy) (N := N) (T := T) (I := I) (Q := Q) (J := J) (hC.kp hj868).1 (hC.kp hj868).2
      refine va_get (D := (dC, dI)) (ci := 3) (v := .int (I (v (4 + j868)) 2)) (C := RX3) (T := TX3) (N := 6) hx hb hts hi3 hown hK hP j873 hj873 rfl 2 (by decide) (hts (.fieldLink RX5 78 "TallyLogs$Producer" "mode" "I") (by decide +kernel)) (fun _ h9 => h9) rfl dX5_finish_24 ?_
      refine lv_topi (fun x874 ex874 => ?_)
      refine lv_iconst (v := 1) hx hb dX5_finish_27 (by decide) ?_
      refine lv_icmp_eq (tgt := 34) hx hb dX5_finish_28 (by decide) (fun c875 => ?_) (fun c875 => ?_)
      · refine lv_aload_n hx hb dX5_finish_34 rfl (lv_at hl 0 rfl) ?_
        refine lv_iload_n hx hb dX5_finish_35 rfl (lv_at hl 3 rfl) ?_
        obtain ⟨j876, hj876⟩ := pG_3 (cy := cy) (N := N) (T := T) (I := I) (Q := Q) (J := J) (hC.kp hj868).1 (hC.kp hj868).2
        have hFc := pfree hD hS hA
        refine va_callv (va_runV (As := [.int cm]) (rest := []) ⟨hx, hb, hml, hown, hts⟩ (c_X3_startEnding l dC dI cy v L K N T I Q J s.heap.size (v (4 + j868)) cm hC (hC.kp hj868).1 (hC.kp hj868).2 hcm hcf) (cwV 1 hts gX5_finish_X3_startEnding rfl rfl rfl (by decide +kernel) ⟨Nat.le_of_ble_eq_true rfl, Nat.le_of_ble_eq_true rfl⟩) ⟨pw_blind, va_recv hK hP (ci := 3) (q0 := j876) rfl hj876, fun U hU hW => ⟨rfl, pw_pre hP hK hN hD hU hW⟩⟩ rfl rfl hl.1 rfl (lv_room (Nat.le_of_ble_eq_true rfl)) dX5_finish_36 ⟨Nat.le_of_ble_eq_true rfl, Nat.le_of_ble_eq_true rfl⟩) hS (fun q _ h => hFc q h) hFc (fun d9 t H1 locs ht hvm hw hB hz1 hk1 hS => ?_)
        obtain ⟨I877, Q877, J877⟩ := d9
        obtain ⟨hC, hR1⟩ := hw
        obtain ⟨hP, hK1, hD1⟩ := hB
        rw [ht] at hP
        have hD := hD1.weaken (fun _ _ _ h => hFc _ h)
        have hR := hR.trans hR1
        generalize H1 = H at hP hS ⊢
        have hP : va_P (dC, dI) vwCl (va_pl L (pF cy K N T I877 Q877 J877)) H := hP
        have hD : va_D A (va_pl L (pF cy K N T I877 Q877 J877)) := hD
        have hC : CT v L K N T I877 Q877 := hC
        have hR : RS v I Q J I877 Q877 J877 := hR
        refine lv_aload_n hx hb dX5_finish_39 rfl (lv_at hl 0 rfl) ?_
        obtain ⟨j879, hj879⟩ := pG_3 (cy := cy) (N := N) (T := T) (I := I877) (Q := Q877) (J := J877) (hC.kp hj868).1 (hC.kp hj868).2
        refine va_get (D := (dC, dI)) (ci := 3) (v := .int (I877 (v (4 + j868)) 5)) (C := RX3) (T := TX3) (N := 6) hx hb hts hi3 hown hK hP j879 hj879 rfl 5 (by decide) (hts (.fieldLink RX5 126 "TallyLogs$Producer" "left" "I") (by decide +kernel)) (fun _ h9 => h9) rfl dX5_finish_40 ?_
        refine lv_topi (fun x880 ex880 => ?_)
        refine vp_callSi (W.runS (As := [.int x880]) (rest := []) ⟨hx, hb, hml, hown, hts⟩ (c_J6_bitCount_0f7a4 l x880) (va_cwS 1 hts gX5_finish_J6_bitCount_0f7a4 rfl rfl rfl (by decide +kernel) ⟨Nat.le_of_ble_eq_true rfl, Nat.le_of_ble_eq_true rfl⟩) preEq rfl rfl hl.1 rfl (lv_room (Nat.le_of_ble_eq_true rfl)) dX5_finish_43 ⟨Nat.le_of_ble_eq_true rfl, Nat.le_of_ble_eq_true rfl⟩) (fun r881 hr881 => ?_)
        exact W.iret (v := r881) hx hb hr (fun t ht hW => ⟨⟨r881, (I877, Q877, J877), rfl, ⟨⟨hC, hR⟩, trivial⟩, by rw [ht]; exact hP, va_K.moved hW.alike hK, hD⟩, hS.F ht⟩) hS.2.2 dX5_finish_46
      · refine lv_bipush (v := (-4)) hx hb dX5_finish_31 (by decide) ?_
        exact W.iret (v := (-4)) hx hb hr (fun t ht hW => ⟨⟨(-4), (I, Q, J), rfl, ⟨⟨hC, hR⟩, trivial⟩, by rw [ht]; exact hP, va_K.moved hW.alike hK, hD⟩, hS.F ht⟩) hS.2.2 dX5_finish_33
