set_option maxHeartbeats 4000000 in
set_option maxRecDepth 100000 in
/-- newData by a Producer -/
theorem c_X5_newData (l : Launch) (dC : Nat → ClassId) (dI : Nat → Nat → Nat) (cy : Nat → ClassId) (v : Nat → Nat) (L : List Nat) (K N : Nat → Nat) (T : Nat → Nat → Nat) (I : Nat → Nat → Int32) (Q : Nat → Nat → Option Nat) (J : Nat → Nat → Int32) (sz : Nat) (ep : Int32) (pb : Nat) (sq ke va : Int32) (hC : CT v L K N T I Q) (hb3 : pb ∈ L) (hkb : K pb = 3) : Met l yX5_newData wsX5_newData ({ frames := 2, cells := 1, slots := 8, locals := 39 }) (va_Pc [.int ep, .ref pb, .int sq, .int ke, .int va] (pW dC dI cy L (pF cy K N T I Q J) sz)) (va_Qr (fun d : List Nat × (Nat → Nat) × (Nat → Nat → Nat) × (Nat → Nat → Int32) × (Nat → Nat → Option Nat) × (Nat → Nat → Int32) => CT v d.1 d.2.1 N d.2.2.1 d.2.2.2.1 d.2.2.2.2.1 ∧ RS v I Q J d.2.2.2.1 d.2.2.2.2.1 d.2.2.2.2.2 ∧ PX L K N T d.1 d.2.1 N d.2.2.1) (fun (d : List Nat × (Nat → Nat) × (Nat → Nat → Nat) × (Nat → Nat → Int32) × (Nat → Nat → Option Nat) × (Nat → Nat → Int32)) (ra : Nat) t => (ra ∈ d.1 ∧ d.2.1 ra = 0) ∧ va_P (dC, dI) vwCl (va_pl d.1 (pF cy d.2.1 N d.2.2.1 d.2.2.2.1 d.2.2.2.2.1 d.2.2.2.2.2)) t.heap ∧ va_K (dC, dI) vwCl (pTy cy) t ∧ va_D (va_A (va_pl L (pF cy K N T I Q J)) sz) (va_pl d.1 (pF cy d.2.1 N d.2.2.1 d.2.2.2.1 d.2.2.2.2.1 d.2.2.2.2.2))) (va_A (va_pl L (pF cy K N T I Q J)) sz)) 1 8 (va_A (va_pl L (pF cy K N T I Q J)) sz) := by
  refine Met.ofW (cc := cX5_newData) (maxL := 5) (ret := (some (.object "TallyLogs$Entry"))) (by decide) rfl ?_
  intro p e s m args below meth c s₁ B hml hv
  obtain ⟨rfl, hsz, ⟨hP, hK, hN⟩, hD0⟩ := hv
  have hx := B.exec
  have hb := B.bytes
  have hr := B.returns
  have hts := atoms_spec (ws := wsX5_newData) B.pre
  have hown : s.vm.findClass RX5 = some m.cls := findClass_of_methodNamed B.named
  have hlocks := B.notSynchronized
  have hi0 : ∀ w ∈ wsX00, w ∈ wsX5_newData := by decide +kernel
  have hi3 : ∀ w ∈ wsX30, w ∈ wsX5_newData := by decide +kernel
  have hl := lv_entry ([.int ep, .ref pb, .int sq, .int ke, .int va]) (n := 5) (Nat.le_of_ble_eq_true rfl)
  rw [lg_entry_eq]
  generalize (lg_sl ([.int ep, .ref pb, .int sq, .int ke, .int va]) ++ List.replicate (5 - (lg_sl ([.int ep, .ref pb, .int sq, .int ke, .int va])).length) Slot.unset).toArray = ls at hl ⊢
  have hl : lv_has ls 5 [(0, .int ep), (1, .ref pb), (2, .int sq), (3, .int ke), (4, .int va)] := hl
  subst hsz
  have hD := hD0.self (sz := s.heap.size)
  generalize hAe : va_A (va_pl L (pF cy K N T I Q J)) s.heap.size = A at hD ⊢
  have hA : ∀ q : Nat, s.heap.size ≤ q → A q := fun q h => by rw [← hAe]; exact Or.inr h
  have hS : va_S A s.heap s.heap [] := va_S.rf
  have hR : RS v I Q J I Q J := RS.rf
  have hX : PX L K N T L K N T := PX.rf
  have hn28 := hN.1
  have hn30 := hN.2.1
  have hn37 := hN.2.2.1
  refine lv_aload_n hx hb dX5_newData_0 rfl (lv_at hl 1 rfl) ?_
  refine lv_ifnonnull (tgt := 20) hx hb dX5_newData_1 (by decide) ?_
  refine va_new (ci := 0) (fs := [.int 0, .int 0, .int 0, .int 0, .int 0, .int 0, .int 0, .int 0]) (C := RX0) (T := TX0) (N := 8) hx hb hts hi0 tyX0 tyX0_ok hown (hts (.classLink RX5 179 RX0) (by decide +kernel)) (hts (.instantiable RX0 8) (by decide +kernel)) (hts (.initialized RX0) (by decide +kernel)) hK hP hD hS hA rfl (fun j hj => by rcases (show j = 0 ∨ j = 1 ∨ j = 2 ∨ j = 3 ∨ j = 4 ∨ j = 5 ∨ j = 6 ∨ j = 7 by omega) with rfl | rfl | rfl | rfl | rfl | rfl | rfl | rfl <;> rfl) (Nat.le_of_ble_eq_true rfl) (Nat.le_of_ble_eq_true rfl) dX5_newData_20 (fun q1045 H hP hD hS => ?_)
  refine W.widen (k := 1) (n := 8) (by omega) (by omega) ?_
  obtain ⟨L, K, T, I1046, Q1046, ⟨hP, hD, hC, hR⟩, hXe, hLq1045, hkq1045⟩ := pNew0 hC hR hP hD
  have hX := hX.trans hXe
  have hLz1047 : pb ∈ L := (hXe _ hb3).1
  have hkz1047 : K pb = 3 := (hXe _ hb3).2.1.trans hkb
  refine lv_dup hx hb dX5_newData_23 rfl ?_
  refine lv_iload_n hx hb dX5_newData_24 rfl (lv_at hl 0 rfl) ?_
  refine lv_aload_n hx hb dX5_newData_25 rfl (lv_at hl 1 rfl) ?_
  obtain ⟨j1048, hj1048⟩ := pG_3 (cy := cy) (N := N) (T := T) (I := I1046) (Q := Q1046) (J := J) hLz1047 hkz1047
  refine va_get (D := (dC, dI)) (ci := 3) (v := .int (I1046 pb 0)) (C := RX3) (T := TX3) (N := 6) hx hb hts hi3 hown hK hP j1048 hj1048 rfl 0 (by decide) (hts (.fieldLink RX5 98 "TallyLogs$Producer" "number" "I") (by decide +kernel)) (fun _ h9 => h9) rfl dX5_newData_26 ?_
  refine lv_topi (fun x1049 ex1049 => ?_)
  refine lv_aload_n hx hb dX5_newData_29 rfl (lv_at hl 1 rfl) ?_
  obtain ⟨j1050, hj1050⟩ := pG_3 (cy := cy) (N := N) (T := T) (I := I1046) (Q := Q1046) (J := J) hLz1047 hkz1047
  refine va_get (D := (dC, dI)) (ci := 3) (v := .int (I1046 pb 1)) (C := RX3) (T := TX3) (N := 6) hx hb hts hi3 hown hK hP j1050 hj1050 rfl 1 (by decide) (hts (.fieldLink RX5 75 "TallyLogs$Producer" "generation" "I") (by decide +kernel)) (fun _ h9 => h9) rfl dX5_newData_30 ?_
  refine lv_topi (fun x1051 ex1051 => ?_)
  refine lv_iload_n hx hb dX5_newData_33 rfl (lv_at hl 2 rfl) ?_
  refine lv_iload_n hx hb dX5_newData_34 rfl (lv_at hl 3 rfl) ?_
  refine lv_iload hx hb dX5_newData_35 (lv_at hl 4 rfl) ?_
  refine lv_aload_n hx hb dX5_newData_37 rfl (lv_at hl 1 rfl) ?_
  obtain ⟨j1052, hj1052⟩ := pG_3 (cy := cy) (N := N) (T := T) (I := I1046) (Q := Q1046) (J := J) hLz1047 hkz1047
  refine va_get (D := (dC, dI)) (ci := 3) (v := .int (I1046 pb 2)) (C := RX3) (T := TX3) (N := 6) hx hb hts hi3 hown hK hP j1052 hj1052 rfl 2 (by decide) (hts (.fieldLink RX5 78 "TallyLogs$Producer" "mode" "I") (by decide +kernel)) (fun _ h9 => h9) rfl dX5_newData_38 ?_
  refine lv_topi (fun x1053 ex1053 => ?_)
  refine lv_iconst (v := 1) hx hb dX5_newData_41 (by decide) ?_
  refine lv_icmp_ne (tgt := 49) hx hb dX5_newData_42 (by decide) (fun c1054 => ?_) (fun c1054 => ?_)
  · refine lv_iconst (v := 0) hx hb dX5_newData_49 (by decide) ?_
    have hFc := pfree hD hS hA
    refine va_callv (va_runI (As := [.int ep, .int x1049, .int x1051, .int sq, .int ke, .int va, .int 0]) (rest := [.ref q1045]) ⟨hx, hb, hml, hown, hts⟩ (c_X0_init l dC dI cy v L K N T I1046 Q1046 J H.size q1045 ep x1049 x1051 sq ke va 0 hC hLq1045 hkq1045 rfl rfl) (cwI 7 hts gX5_newData_X0_init rfl rfl rfl (hts (.initialized RX0) (by decide +kernel)) (hts (.methodLink RX5 251 yX0_init) (by decide +kernel)) (hts (.instanceMethod yX0_init) (by decide +kernel)) rfl (by decide +kernel) ⟨Nat.le_of_ble_eq_true rfl, Nat.le_of_ble_eq_true rfl⟩) ⟨pw_blind, fun U hU hW => ⟨rfl, pw_pre hP hK hN hD hU hW⟩⟩ rfl rfl hl.1 rfl (lv_room (Nat.le_of_ble_eq_true rfl)) dX5_newData_50 ⟨Nat.le_of_ble_eq_true rfl, Nat.le_of_ble_eq_true rfl⟩) hS (fun q _ h => hFc q h) hFc (fun d9 t H1 locs ht hvm hw hB hz1 hk1 hS => ?_)
    obtain ⟨I1055, Q1055, J1055⟩ := d9
    obtain ⟨hC, hR1⟩ := hw
    obtain ⟨hP, hK1, hD1⟩ := hB
    rw [ht] at hP
    have hD := hD1.weaken (fun _ _ _ h => hFc _ h)
    have hR := hR.trans hR1
    generalize H1 = H at hP hS ⊢
    have hP : va_P (dC, dI) vwCl (va_pl L (pF cy K N T I1055 Q1055 J1055)) H := hP
    have hD : va_D A (va_pl L (pF cy K N T I1055 Q1055 J1055)) := hD
    have hC : CT v L K N T I1055 Q1055 := hC
    have hR : RS v I Q J I1055 Q1055 J1055 := hR
    refine W.widen (k := 1) (n := 8) (by omega) (by omega) ?_
    refine W.widen (k := 1) (n := 8) (by omega) (by omega) ?_
    exact W.aret (v := .ref q1045) hx hb hr (Or.inl ⟨_, rfl⟩) (Or.inr ⟨_, rfl⟩) (fun t ht hW => ⟨⟨(L, K, T, I1055, Q1055, J1055), q1045, rfl, ⟨hC, hR, hX⟩, ⟨hLq1045, hkq1045⟩, by rw [ht]; exact hP, va_K.moved hW.alike hK, hD⟩, hS.F ht⟩) hS.2.2 dX5_newData_53
  · refine lv_iconst (v := 1) hx hb dX5_newData_45 (by decide) ?_
    refine lv_goto (tgt := 50) hx hb dX5_newData_46 (by decide) ?_
    have hFc := pfree hD hS hA
    refine va_callv (va_runI (As := [.int ep, .int x1049, .int x1051, .int sq, .int ke, .int va, .int 1]) (rest := [.ref q1045]) ⟨hx, hb, hml, hown, hts⟩ (c_X0_init l dC dI cy v L K N T I1046 Q1046 J H.size q1045 ep x1049 x1051 sq ke va 1 hC hLq1045 hkq1045 rfl rfl) (cwI 7 hts gX5_newData_X0_init rfl rfl rfl (hts (.initialized RX0) (by decide +kernel)) (hts (.methodLink RX5 251 yX0_init) (by decide +kernel)) (hts (.instanceMethod yX0_init) (by decide +kernel)) rfl (by decide +kernel) ⟨Nat.le_of_ble_eq_true rfl, Nat.le_of_ble_eq_true rfl⟩) ⟨pw_blind, fun U hU hW => ⟨rfl, pw_pre hP hK hN hD hU hW⟩⟩ rfl rfl hl.1 rfl (lv_room (Nat.le_of_ble_eq_true rfl)) dX5_newData_50 ⟨Nat.le_of_ble_eq_true rfl, Nat.le_of_ble_eq_true rfl⟩) hS (fun q _ h => hFc q h) hFc (fun d9 t H1 locs ht hvm hw hB hz1 hk1 hS => ?_)
    obtain ⟨I1056, Q1056, J1056⟩ := d9
    obtain ⟨hC, hR1⟩ := hw
    obtain ⟨hP, hK1, hD1⟩ := hB
    rw [ht] at hP
    have hD := hD1.weaken (fun _ _ _ h => hFc _ h)
    have hR := hR.trans hR1
    generalize H1 = H at hP hS ⊢
    have hP : va_P (dC, dI) vwCl (va_pl L (pF cy K N T I1056 Q1056 J1056)) H := hP
    have hD : va_D A (va_pl L (pF cy K N T I1056 Q1056 J1056)) := hD
    have hC : CT v L K N T I1056 Q1056 := hC
    have hR : RS v I Q J I1056 Q1056 J1056 := hR
    refine W.widen (k := 1) (n := 8) (by omega) (by omega) ?_
    refine W.widen (k := 1) (n := 8) (by omega) (by omega) ?_
    exact W.aret (v := .ref q1045) hx hb hr (Or.inl ⟨_, rfl⟩) (Or.inr ⟨_, rfl⟩) (fun t ht hW => ⟨⟨(L, K, T, I1056, Q1056, J1056), q1045, rfl, ⟨hC, hR, hX⟩, ⟨hLq1045, hkq1045⟩, by rw [ht]; exact hP, va_K.moved hW.alike hK, hD⟩, hS.F ht⟩) hS.2.2 dX5_newData_53
set_option maxHeartbeats 4000000 in
set_option maxRecDepth 100000 in
/-- newData by nobody -/
theorem c_X5_newData0 (l : Launch) (dC : Nat → ClassId) (dI : Nat → Nat → Nat) (cy : Nat → ClassId) (v : Nat → Nat) (L : List Nat) (K N : Nat → Nat) (T : Nat → Nat → Nat) (I : Nat → Nat → Int32) (Q : Nat → Nat → Option Nat) (J : Nat → Nat → Int32) (sz : Nat) (ep : Int32) (sq ke va : Int32) (hC : CT v L K N T I Q) : Met l yX5_newData wsX5_newData ({ frames := 2, cells := 1, slots := 8, locals := 39 }) (va_Pc [.int ep, .null, .int sq, .int ke, .int va] (pW dC dI cy L (pF cy K N T I Q J) sz)) (va_Qr (fun d : List Nat × (Nat → Nat) × (Nat → Nat → Nat) × (Nat → Nat → Int32) × (Nat → Nat → Option Nat) × (Nat → Nat → Int32) => CT v d.1 d.2.1 N d.2.2.1 d.2.2.2.1 d.2.2.2.2.1 ∧ RS v I Q J d.2.2.2.1 d.2.2.2.2.1 d.2.2.2.2.2 ∧ PX L K N T d.1 d.2.1 N d.2.2.1) (fun (d : List Nat × (Nat → Nat) × (Nat → Nat → Nat) × (Nat → Nat → Int32) × (Nat → Nat → Option Nat) × (Nat → Nat → Int32)) (ra : Nat) t => (ra ∈ d.1 ∧ d.2.1 ra = 0) ∧ va_P (dC, dI) vwCl (va_pl d.1 (pF cy d.2.1 N d.2.2.1 d.2.2.2.1 d.2.2.2.2.1 d.2.2.2.2.2)) t.heap ∧ va_K (dC, dI) vwCl (pTy cy) t ∧ va_D (va_A (va_pl L (pF cy K N T I Q J)) sz) (va_pl d.1 (pF cy d.2.1 N d.2.2.1 d.2.2.2.1 d.2.2.2.2.1 d.2.2.2.2.2))) (va_A (va_pl L (pF cy K N T I Q J)) sz)) 1 8 (va_A (va_pl L (pF cy K N T I Q J)) sz) := by
  refine Met.ofW (cc := cX5_newData) (maxL := 5) (ret := (some (.object "TallyLogs$Entry"))) (by decide) rfl ?_
  intro p e s m args below meth c s₁ B hml hv
  obtain ⟨rfl, hsz, ⟨hP, hK, hN⟩, hD0⟩ := hv
  have hx := B.exec
  have hb := B.bytes
  have hr := B.returns
  have hts := atoms_spec (ws := wsX5_newData) B.pre
  have hown : s.vm.findClass RX5 = some m.cls := findClass_of_methodNamed B.named
  have hlocks := B.notSynchronized
  have hi0 : ∀ w ∈ wsX00, w ∈ wsX5_newData := by decide +kernel
  have hi3 : ∀ w ∈ wsX30, w ∈ wsX5_newData := by decide +kernel
  have hl := lv_entry ([.int ep, .null, .int sq, .int ke, .int va]) (n := 5) (Nat.le_of_ble_eq_true rfl)
  rw [lg_entry_eq]
  generalize (lg_sl ([.int ep, .null, .int sq, .int ke, .int va]) ++ List.replicate (5 - (lg_sl ([.int ep, .null, .int sq, .int ke, .int va])).length) Slot.unset).toArray = ls at hl ⊢
  have hl : lv_has ls 5 [(0, .int ep), (1, .null), (2, .int sq), (3, .int ke), (4, .int va)] := hl
  subst hsz
  have hD := hD0.self (sz := s.heap.size)
  generalize hAe : va_A (va_pl L (pF cy K N T I Q J)) s.heap.size = A at hD ⊢
  have hA : ∀ q : Nat, s.heap.size ≤ q → A q := fun q h => by rw [← hAe]; exact Or.inr h
  have hS : va_S A s.heap s.heap [] := va_S.rf
  have hR : RS v I Q J I Q J := RS.rf
  have hX : PX L K N T L K N T := PX.rf
  have hn28 := hN.1
  have hn30 := hN.2.1
  have hn37 := hN.2.2.1
  refine lv_aload_nN hx hb dX5_newData_0 rfl (lv_at hl 1 rfl) ?_
  refine lv_ifnonnullN hx hb dX5_newData_1 ?_
  refine va_new (ci := 0) (fs := [.int 0, .int 0, .int 0, .int 0, .int 0, .int 0, .int 0, .int 0]) (C := RX0) (T := TX0) (N := 8) hx hb hts hi0 tyX0 tyX0_ok hown (hts (.classLink RX5 179 RX0) (by decide +kernel)) (hts (.instantiable RX0 8) (by decide +kernel)) (hts (.initialized RX0) (by decide +kernel)) hK hP hD hS hA rfl (fun j hj => by rcases (show j = 0 ∨ j = 1 ∨ j = 2 ∨ j = 3 ∨ j = 4 ∨ j = 5 ∨ j = 6 ∨ j = 7 by omega) with rfl | rfl | rfl | rfl | rfl | rfl | rfl | rfl <;> rfl) (Nat.le_of_ble_eq_true rfl) (Nat.le_of_ble_eq_true rfl) dX5_newData_4 (fun q1057 H hP hD hS => ?_)
  refine W.widen (k := 1) (n := 8) (by omega) (by omega) ?_
  obtain ⟨L, K, T, I1058, Q1058, ⟨hP, hD, hC, hR⟩, hXe, hLq1057, hkq1057⟩ := pNew0 hC hR hP hD
  have hX := hX.trans hXe
  refine lv_dup hx hb dX5_newData_7 rfl ?_
  refine lv_iload_n hx hb dX5_newData_8 rfl (lv_at hl 0 rfl) ?_
  refine lv_iconst (v := (-1)) hx hb dX5_newData_9 (by decide) ?_
  refine lv_iconst (v := (-1)) hx hb dX5_newData_10 (by decide) ?_
  refine lv_iconst (v := (-1)) hx hb dX5_newData_11 (by decide) ?_
  refine lv_iload_n hx hb dX5_newData_12 rfl (lv_at hl 3 rfl) ?_
  refine lv_iload hx hb dX5_newData_13 (lv_at hl 4 rfl) ?_
  refine lv_iconst (v := 0) hx hb dX5_newData_15 (by decide) ?_
  have hFc := pfree hD hS hA
  refine va_callv (va_runI (As := [.int ep, .int (-1), .int (-1), .int (-1), .int ke, .int va, .int 0]) (rest := [.ref q1057]) ⟨hx, hb, hml, hown, hts⟩ (c_X0_init l dC dI cy v L K N T I1058 Q1058 J H.size q1057 ep (-1) (-1) (-1) ke va 0 hC hLq1057 hkq1057 rfl rfl) (cwI 7 hts gX5_newData_X0_init rfl rfl rfl (hts (.initialized RX0) (by decide +kernel)) (hts (.methodLink RX5 251 yX0_init) (by decide +kernel)) (hts (.instanceMethod yX0_init) (by decide +kernel)) rfl (by decide +kernel) ⟨Nat.le_of_ble_eq_true rfl, Nat.le_of_ble_eq_true rfl⟩) ⟨pw_blind, fun U hU hW => ⟨rfl, pw_pre hP hK hN hD hU hW⟩⟩ rfl rfl hl.1 rfl (lv_room (Nat.le_of_ble_eq_true rfl)) dX5_newData_16 ⟨Nat.le_of_ble_eq_true rfl, Nat.le_of_ble_eq_true rfl⟩) hS (fun q _ h => hFc q h) hFc (fun d9 t H1 locs ht hvm hw hB hz1 hk1 hS => ?_)
  obtain ⟨I1059, Q1059, J1059⟩ := d9
  obtain ⟨hC, hR1⟩ := hw
  obtain ⟨hP, hK1, hD1⟩ := hB
  rw [ht] at hP
  have hD := hD1.weaken (fun _ _ _ h => hFc _ h)
  have hR := hR.trans hR1
  generalize H1 = H at hP hS ⊢
  have hP : va_P (dC, dI) vwCl (va_pl L (pF cy K N T I1059 Q1059 J1059)) H := hP
  have hD : va_D A (va_pl L (pF cy K N T I1059 Q1059 J1059)) := hD
  have hC : CT v L K N T I1059 Q1059 := hC
  have hR : RS v I Q J I1059 Q1059 J1059 := hR
  refine W.widen (k := 1) (n := 8) (by omega) (by omega) ?_
  refine W.widen (k := 1) (n := 8) (by omega) (by omega) ?_
  exact W.aret (v := .ref q1057) hx hb hr (Or.inl ⟨_, rfl⟩) (Or.inr ⟨_, rfl⟩) (fun t ht hW => ⟨⟨(L, K, T, I1059, Q1059, J1059), q1057, rfl, ⟨hC, hR, hX⟩, ⟨hLq1057, hkq1057⟩, by rw [ht]; exact hP, va_K.moved hW.alike hK, hD⟩, hS.F ht⟩) hS.2.2 dX5_newData_19
set_option maxHeartbeats 4000000 in
set_option maxRecDepth 100000 in
/-- markEnd of a Partition -/
theorem c_X5_markEnd (l : Launch) (dC : Nat → ClassId) (dI : Nat → Nat → Nat) (cy : Nat → ClassId) (v : Nat → Nat) (L : List Nat) (K N : Nat → Nat) (T : Nat → Nat → Nat) (I : Nat → Nat → Int32) (Q : Nat → Nat → Option Nat) (J : Nat → Nat → Int32) (sz : Nat) (pa pb : Nat) (hC : CT v L K N T I Q) (ha2 : pa ∈ L) (hka : K pa = 2) (hb3 : pb ∈ L) (hkb : K pb = 3) : Met l yX5_markEnd wsX5_markEnd ({ frames := 3, cells := 1, slots := 8, locals := 66 }) (va_Pc [.ref pa, .ref pb] (pW dC dI cy L (pF cy K N T I Q J) sz)) (va_Qi (fun (r : Int32) (d : List Nat × (Nat → Nat) × (Nat → Nat → Nat) × (Nat → Nat → Int32) × (Nat → Nat → Option Nat) × (Nat → Nat → Int32)) => (CT v d.1 d.2.1 N d.2.2.1 d.2.2.2.1 d.2.2.2.2.1 ∧ RS v I Q J d.2.2.2.1 d.2.2.2.2.1 d.2.2.2.2.2 ∧ PX L K N T d.1 d.2.1 N d.2.2.1) ∧ True) (fun (d : List Nat × (Nat → Nat) × (Nat → Nat → Nat) × (Nat → Nat → Int32) × (Nat → Nat → Option Nat) × (Nat → Nat → Int32)) t => va_P (dC, dI) vwCl (va_pl d.1 (pF cy d.2.1 N d.2.2.1 d.2.2.2.1 d.2.2.2.2.1 d.2.2.2.2.2)) t.heap ∧ va_K (dC, dI) vwCl (pTy cy) t ∧ va_D (va_A (va_pl L (pF cy K N T I Q J)) sz) (va_pl d.1 (pF cy d.2.1 N d.2.2.1 d.2.2.2.1 d.2.2.2.2.1 d.2.2.2.2.2))) (va_A (va_pl L (pF cy K N T I Q J)) sz)) 1 8 (va_A (va_pl L (pF cy K N T I Q J)) sz) := by
  refine Met.ofW (cc := cX5_markEnd) (maxL := 3) (ret := (some .boolean)) (by decide) rfl ?_
  intro p e s m args below meth c s₁ B hml hv
  obtain ⟨rfl, hsz, ⟨hP, hK, hN⟩, hD0⟩ := hv
  have hx := B.exec
  have hb := B.bytes
  have hr := B.returns
  have hts := atoms_spec (ws := wsX5_markEnd) B.pre
  have hown : s.vm.findClass RX5 = some m.cls := findClass_of_methodNamed B.named
  have hlocks := B.notSynchronized
  have hi0 : ∀ w ∈ wsX00, w ∈ wsX5_markEnd := by decide +kernel
  have hi2 : ∀ w ∈ wsX20, w ∈ wsX5_markEnd := by decide +kernel
  have hi3 : ∀ w ∈ wsX30, w ∈ wsX5_markEnd := by decide +kernel
  have hi4 : ∀ w ∈ wsX40, w ∈ wsX5_markEnd := by decide +kernel
  have hl := lv_entry ([.ref pa, .ref pb]) (n := 3) (Nat.le_of_ble_eq_true rfl)
  rw [lg_entry_eq]
  generalize (lg_sl ([.ref pa, .ref pb]) ++ List.replicate (3 - (lg_sl ([.ref pa, .ref pb])).length) Slot.unset).toArray = ls at hl ⊢
  have hl : lv_has ls 3 [(0, .ref pa), (1, .ref pb)] := hl
  subst hsz
  have hD := hD0.self (sz := s.heap.size)
  generalize hAe : va_A (va_pl L (pF cy K N T I Q J)) s.heap.size = A at hD ⊢
  have hA : ∀ q : Nat, s.heap.size ≤ q → A q := fun q h => by rw [← hAe]; exact Or.inr h
  have hS : va_S A s.heap s.heap [] := va_S.rf
  have hR : RS v I Q J I Q J := RS.rf
  have hX : PX L K N T L K N T := PX.rf
  have hn28 := hN.1
  have hn30 := hN.2.1
  have hn37 := hN.2.2.1
  refine lv_aload_n hx hb dX5_markEnd_0 rfl (lv_at hl 0 rfl) ?_
  refine lv_ifnonnull (tgt := 6) hx hb dX5_markEnd_1 (by decide) ?_
  refine lv_aload_n hx hb dX5_markEnd_6 rfl (lv_at hl 0 rfl) ?_
  obtain ⟨j1061, hj1061⟩ := pG_2 (cy := cy) (N := N) (T := T) (I := I) (Q := Q) (J := J) ha2 hka
  refine va_csq (W.runV (As := []) (rest := []) ⟨hx, hb, hml, hown, hts⟩ (c_X2_leading l dC dI cy v L K N T I Q J pa  hC ha2 hka) (cwV 0 hts gX5_markEnd_X2_leading rfl rfl rfl (by decide +kernel) ⟨Nat.le_of_ble_eq_true rfl, Nat.le_of_ble_eq_true rfl⟩) ⟨pb_blind, va_recv hK hP (ci := 2) (q0 := j1061) rfl hj1061, fun U hU hW => ⟨rfl, pb_pre hP hK hN hU hW⟩⟩ rfl rfl hl.1 rfl (lv_room (Nat.le_of_ble_eq_true rfl)) dX5_markEnd_7 ⟨Nat.le_of_ble_eq_true rfl, Nat.le_of_ble_eq_true rfl⟩) (fun r1060 hr1060 => ?_)
  cases r1060 with
  | none =>
    refine W.eq (g2 := F0 m 10 ls [.null]) rfl ?_
    refine lv_astore_nN (lv' := [(2, .null), (0, .ref pa), (1, .ref pb)]) hx hb dX5_markEnd_10 rfl hl (by decide) rfl (fun ls hl => ?_)
    refine lv_aload_nN hx hb dX5_markEnd_11 rfl (lv_at hl 0 rfl) ?_
    refine lv_ifnullN (tgt := 22) hx hb dX5_markEnd_12 (by decide) ?_
    refine lv_iconst (v := 0) hx hb dX5_markEnd_22 (by decide) ?_
    refine W.widen (k := 1) (n := 8) (by omega) (by omega) ?_
    exact W.zret (v := 0) hx hb hr (by decide) (fun t ht hW => ⟨⟨0, (L, K, T, I, Q, J), rfl, ⟨⟨hC, hR, hX⟩, trivial⟩, by rw [ht]; exact hP, va_K.moved hW.alike hK, hD⟩, hS.F ht⟩) hS.2.2 dX5_markEnd_23
  | some b1062 =>
    have hTb1062 := hr1060 b1062 rfl
    refine W.eq (g2 := F0 m 10 ls [.ref b1062]) rfl ?_
    refine lv_astore_n (lv' := [(2, .ref b1062), (0, .ref pa), (1, .ref pb)]) hx hb dX5_markEnd_10 rfl hl (by decide) rfl (fun ls hl => ?_)
    refine lv_aload_n hx hb dX5_markEnd_11 rfl (lv_at hl 0 rfl) ?_
    refine lv_ifnull hx hb dX5_markEnd_12 ?_
    refine lv_aload_n hx hb dX5_markEnd_15 rfl (lv_at hl 0 rfl) ?_
    obtain ⟨j1064, hj1064⟩ := pG_4 (cy := cy) (N := N) (T := T) (I := I) (Q := Q) (J := J) hTb1062.1 hTb1062.2
    refine vp_callSi (W.runV (As := []) (rest := []) ⟨hx, hb, hml, hown, hts⟩ (c_X4_isFull l dC dI cy v L K N T I Q J b1062  hC hTb1062.1 hTb1062.2) (cwV 0 hts gX5_markEnd_X4_isFull rfl rfl rfl (by decide +kernel) ⟨Nat.le_of_ble_eq_true rfl, Nat.le_of_ble_eq_true rfl⟩) ⟨pb_blind, va_recv hK hP (ci := 4) (q0 := j1064) rfl hj1064, fun U hU hW => ⟨rfl, pb_pre hP hK hN hU hW⟩⟩ rfl rfl hl.1 rfl (lv_room (Nat.le_of_ble_eq_true rfl)) dX5_markEnd_16 ⟨Nat.le_of_ble_eq_true rfl, Nat.le_of_ble_eq_true rfl⟩) (fun r1063 hr1063 => ?_)
    refine lv_if_eq (tgt := 24) hx hb dX5_markEnd_19 (by decide) (fun c1065 => ?_) (fun c1065 => ?_)
    · refine lv_aload_n hx hb dX5_markEnd_24 rfl (lv_at hl 0 rfl) ?_
      refine va_new (ci := 0) (fs := [.int 0, .int 0, .int 0, .int 0, .int 0, .int 0, .int 0, .int 0]) (C := RX0) (T := TX0) (N := 8) hx hb hts hi0 tyX0 tyX0_ok hown (hts (.classLink RX5 179 RX0) (by decide +kernel)) (hts (.instantiable RX0 8) (by decide +kernel)) (hts (.initialized RX0) (by decide +kernel)) hK hP hD hS hA rfl (fun j hj => by rcases (show j = 0 ∨ j = 1 ∨ j = 2 ∨ j = 3 ∨ j = 4 ∨ j = 5 ∨ j = 6 ∨ j = 7 by omega) with rfl | rfl | rfl | rfl | rfl | rfl | rfl | rfl <;> rfl) (Nat.le_of_ble_eq_true rfl) (Nat.le_of_ble_eq_true rfl) dX5_markEnd_25 (fun q1066 H hP hD hS => ?_)
      refine W.widen (k := 1) (n := 8) (by omega) (by omega) ?_
      obtain ⟨L, K, T, I1067, Q1067, ⟨hP, hD, hC, hR⟩, hXe, hLq1066, hkq1066⟩ := pNew0 hC hR hP hD
      have hX := hX.trans hXe
      have hLz1068 : pa ∈ L := (hXe _ ha2).1
      have hkz1068 : K pa = 2 := (hXe _ ha2).2.1.trans hka
      have hLz1069 : pb ∈ L := (hXe _ hb3).1
      have hkz1069 : K pb = 3 := (hXe _ hb3).2.1.trans hkb
      have hLz1070 : b1062 ∈ L := (hXe _ hTb1062.1).1
      have hkz1070 : K b1062 = 4 := (hXe _ hTb1062.1).2.1.trans hTb1062.2
      refine lv_dup hx hb dX5_markEnd_28 rfl ?_
      refine lv_aload_n hx hb dX5_markEnd_29 rfl (lv_at hl 1 rfl) ?_
      obtain ⟨j1071, hj1071⟩ := pG_2 (cy := cy) (N := N) (T := T) (I := I1067) (Q := Q1067) (J := J) hLz1068 hkz1068
      refine va_get (D := (dC, dI)) (ci := 2) (v := .int (I1067 pa 4)) (C := RX2) (T := TX2) (N := 6) hx hb hts hi2 hown hK hP j1071 hj1071 rfl 4 (by decide) (hts (.fieldLink RX5 115 "TallyLogs$Partition" "epoch" "I") (by decide +kernel)) (fun _ h9 => h9) rfl dX5_markEnd_30 ?_
      refine lv_topi (fun x1072 ex1072 => ?_)
      refine lv_aload_n hx hb dX5_markEnd_33 rfl (lv_at hl 2 rfl) ?_
      obtain ⟨j1073, hj1073⟩ := pG_3 (cy := cy) (N := N) (T := T) (I := I1067) (Q := Q1067) (J := J) hLz1069 hkz1069
      refine va_get (D := (dC, dI)) (ci := 3) (v := .int (I1067 pb 3)) (C := RX3) (T := TX3) (N := 6) hx hb hts hi3 hown hK hP j1073 hj1073 rfl 3 (by decide) (hts (.fieldLink RX5 254 "TallyLogs$Producer" "commits" "Z") (by decide +kernel)) (fun _ h9 => h9) rfl dX5_markEnd_34 ?_
      refine lv_topi (fun x1074 ex1074 => ?_)
      refine lv_if_eq (tgt := 44) hx hb dX5_markEnd_37 (by decide) (fun c1075 => ?_) (fun c1075 => ?_)
      · refine lv_iconst (v := 2) hx hb dX5_markEnd_44 (by decide) ?_
        refine lv_aload_n hx hb dX5_markEnd_45 rfl (lv_at hl 2 rfl) ?_
        obtain ⟨j1076, hj1076⟩ := pG_3 (cy := cy) (N := N) (T := T) (I := I1067) (Q := Q1067) (J := J) hLz1069 hkz1069
        refine va_get (D := (dC, dI)) (ci := 3) (v := .int (I1067 pb 0)) (C := RX3) (T := TX3) (N := 6) hx hb hts hi3 hown hK hP j1076 hj1076 rfl 0 (by decide) (hts (.fieldLink RX5 98 "TallyLogs$Producer" "number" "I") (by decide +kernel)) (fun _ h9 => h9) rfl dX5_markEnd_46 ?_
        refine lv_topi (fun x1077 ex1077 => ?_)
        refine lv_aload_n hx hb dX5_markEnd_49 rfl (lv_at hl 2 rfl) ?_
        obtain ⟨j1078, hj1078⟩ := pG_3 (cy := cy) (N := N) (T := T) (I := I1067) (Q := Q1067) (J := J) hLz1069 hkz1069
        refine va_get (D := (dC, dI)) (ci := 3) (v := .int (I1067 pb 4)) (C := RX3) (T := TX3) (N := 6) hx hb hts hi3 hown hK hP j1078 hj1078 rfl 4 (by decide) (hts (.fieldLink RX5 257 "TallyLogs$Producer" "boundGeneration" "I") (by decide +kernel)) (fun _ h9 => h9) rfl dX5_markEnd_50 ?_
        refine lv_topi (fun x1079 ex1079 => ?_)
        have hFc := pfree hD hS hA
        refine va_callv (va_runI (As := [.int x1072, .int 2, .int x1077, .int x1079]) (rest := [.ref q1066, .ref b1062]) ⟨hx, hb, hml, hown, hts⟩ (c_X0_init_ l dC dI cy v L K N T I1067 Q1067 J H.size q1066 x1072 2 x1077 x1079 hC hLq1066 hkq1066) (cwI 4 hts gX5_markEnd_X0_init_ rfl rfl rfl (hts (.initialized RX0) (by decide +kernel)) (hts (.methodLink RX5 260 yX0_init_) (by decide +kernel)) (hts (.instanceMethod yX0_init_) (by decide +kernel)) rfl (by decide +kernel) ⟨Nat.le_of_ble_eq_true rfl, Nat.le_of_ble_eq_true rfl⟩) ⟨pw_blind, fun U hU hW => ⟨rfl, pw_pre hP hK hN hD hU hW⟩⟩ rfl rfl hl.1 rfl (lv_room (Nat.le_of_ble_eq_true rfl)) dX5_markEnd_53 ⟨Nat.le_of_ble_eq_true rfl, Nat.le_of_ble_eq_true rfl⟩) hS (fun q _ h => hFc q h) hFc (fun d9 t H1 locs ht hvm hw hB hz1 hk1 hS => ?_)
        obtain ⟨I1080, Q1080, J1080⟩ := d9
        obtain ⟨hC, hR1⟩ := hw
        obtain ⟨hP, hK1, hD1⟩ := hB
        rw [ht] at hP
        have hD := hD1.weaken (fun _ _ _ h => hFc _ h)
        have hR := hR.trans hR1
        generalize H1 = H at hP hS ⊢
        have hP : va_P (dC, dI) vwCl (va_pl L (pF cy K N T I1080 Q1080 J1080)) H := hP
        have hD : va_D A (va_pl L (pF cy K N T I1080 Q1080 J1080)) := hD
        have hC : CT v L K N T I1080 Q1080 := hC
        have hR : RS v I Q J I1080 Q1080 J1080 := hR
        refine W.widen (k := 1) (n := 8) (by omega) (by omega) ?_
        obtain ⟨j1081, hj1081⟩ := pG_4 (cy := cy) (N := N) (T := T) (I := I1080) (Q := Q1080) (J := J1080) hLz1070 hkz1070
        have hFc := pfree hD hS hA
        refine va_callv (va_runV (As := [.ref q1066]) (rest := []) ⟨hx, hb, hml, hown, hts⟩ (c_X4_append l dC dI cy v L K N T I1080 Q1080 J1080 H.size b1062 q1066 hC hLz1070 hkz1070 hLq1066 hkq1066) (cwV 1 hts gX5_markEnd_X4_append rfl rfl rfl (by decide +kernel) ⟨Nat.le_of_ble_eq_true rfl, Nat.le_of_ble_eq_true rfl⟩) ⟨pw_blind, va_recv hK hP (ci := 4) (q0 := j1081) rfl hj1081, fun U hU hW => ⟨rfl, pw_pre hP hK hN hD hU hW⟩⟩ rfl rfl hl.1 rfl (lv_room (Nat.le_of_ble_eq_true rfl)) dX5_markEnd_56 ⟨Nat.le_of_ble_eq_true rfl, Nat.le_of_ble_eq_true rfl⟩) hS (fun q _ h => hFc q h) hFc (fun d9 t H1 locs ht hvm hw hB hz1 hk1 hS => ?_)
        obtain ⟨I1082, Q1082, J1082⟩ := d9
        obtain ⟨hC, hR1⟩ := hw
        obtain ⟨hP, hK1, hD1⟩ := hB
        rw [ht] at hP
        have hD := hD1.weaken (fun _ _ _ h => hFc _ h)
        have hR := hR.trans hR1
        generalize H1 = H at hP hS ⊢
        have hP : va_P (dC, dI) vwCl (va_pl L (pF cy K N T I1082 Q1082 J1082)) H := hP
        have hD : va_D A (va_pl L (pF cy K N T I1082 Q1082 J1082)) := hD
        have hC : CT v L K N T I1082 Q1082 := hC
        have hR : RS v I Q J I1082 Q1082 J1082 := hR
        refine lv_aload_n hx hb dX5_markEnd_59 rfl (lv_at hl 1 rfl) ?_
        obtain ⟨j1084, hj1084⟩ := pG_2 (cy := cy) (N := N) (T := T) (I := I1082) (Q := Q1082) (J := J1082) hLz1068 hkz1068
        have hFc := pfree hD hS hA
        refine va_callv (va_runV (As := []) (rest := []) ⟨hx, hb, hml, hown, hts⟩ (c_X2_raiseHw l dC dI cy v L K N T I1082 Q1082 J1082 H.size pa  hC hLz1068 hkz1068) (cwV 0 hts gX5_markEnd_X2_raiseHw rfl rfl rfl (by decide +kernel) ⟨Nat.le_of_ble_eq_true rfl, Nat.le_of_ble_eq_true rfl⟩) ⟨pw_blind, va_recv hK hP (ci := 2) (q0 := j1084) rfl hj1084, fun U hU hW => ⟨rfl, pw_pre hP hK hN hD hU hW⟩⟩ rfl rfl hl.1 rfl (lv_room (Nat.le_of_ble_eq_true rfl)) dX5_markEnd_60 ⟨Nat.le_of_ble_eq_true rfl, Nat.le_of_ble_eq_true rfl⟩) hS (fun q _ h => hFc q h) hFc (fun d9 t H1 locs ht hvm hw hB hz1 hk1 hS => ?_)
        obtain ⟨I1085, Q1085, J1085⟩ := d9
        obtain ⟨hC, hR1⟩ := hw
        obtain ⟨hP, hK1, hD1⟩ := hB
        rw [ht] at hP
        have hD := hD1.weaken (fun _ _ _ h => hFc _ h)
        have hR := hR.trans hR1
        generalize H1 = H at hP hS ⊢
        have hP : va_P (dC, dI) vwCl (va_pl L (pF cy K N T I1085 Q1085 J1085)) H := hP
        have hD : va_D A (va_pl L (pF cy K N T I1085 Q1085 J1085)) := hD
        have hC : CT v L K N T I1085 Q1085 := hC
        have hR : RS v I Q J I1085 Q1085 J1085 := hR
        refine lv_iconst (v := 1) hx hb dX5_markEnd_63 (by decide) ?_
        refine W.widen (k := 1) (n := 8) (by omega) (by omega) ?_
        exact W.zret (v := 1) hx hb hr (by decide) (fun t ht hW => ⟨⟨1, (L, K, T, I1085, Q1085, J1085), rfl, ⟨⟨hC, hR, hX⟩, trivial⟩, by rw [ht]; exact hP, va_K.moved hW.alike hK, hD⟩, hS.F ht⟩) hS.2.2 dX5_markEnd_64
      · refine lv_iconst (v := 1) hx hb dX5_markEnd_40 (by decide) ?_
        refine lv_goto (tgt := 45) hx hb dX5_markEnd_41 (by decide) ?_
        refine lv_aload_n hx hb dX5_markEnd_45 rfl (lv_at hl 2 rfl) ?_
        obtain ⟨j1087, hj1087⟩ := pG_3 (cy := cy) (N := N) (T := T) (I := I1067) (Q := Q1067) (J := J) hLz1069 hkz1069
        refine va_get (D := (dC, dI)) (ci := 3) (v := .int (I1067 pb 0)) (C := RX3) (T := TX3) (N := 6) hx hb hts hi3 hown hK hP j1087 hj1087 rfl 0 (by decide) (hts (.fieldLink RX5 98 "TallyLogs$Producer" "number" "I") (by decide +kernel)) (fun _ h9 => h9) rfl dX5_markEnd_46 ?_
        refine lv_topi (fun x1088 ex1088 => ?_)
        refine lv_aload_n hx hb dX5_markEnd_49 rfl (lv_at hl 2 rfl) ?_
        obtain ⟨j1089, hj1089⟩ := pG_3 (cy := cy) (N := N) (T := T) (I := I1067) (Q := Q1067) (J := J) hLz1069 hkz1069
        refine va_get (D := (dC, dI)) (ci := 3) (v := .int (I1067 pb 4)) (C := RX3) (T := TX3) (N := 6) hx hb hts hi3 hown hK hP j1089 hj1089 rfl 4 (by decide) (hts (.fieldLink RX5 257 "TallyLogs$Producer" "boundGeneration" "I") (by decide +kernel)) (fun _ h9 => h9) rfl dX5_markEnd_50 ?_
        refine lv_topi (fun x1090 ex1090 => ?_)
        have hFc := pfree hD hS hA
        refine va_callv (va_runI (As := [.int x1072, .int 1, .int x1088, .int x1090]) (rest := [.ref q1066, .ref b1062]) ⟨hx, hb, hml, hown, hts⟩ (c_X0_init_ l dC dI cy v L K N T I1067 Q1067 J H.size q1066 x1072 1 x1088 x1090 hC hLq1066 hkq1066) (cwI 4 hts gX5_markEnd_X0_init_ rfl rfl rfl (hts (.initialized RX0) (by decide +kernel)) (hts (.methodLink RX5 260 yX0_init_) (by decide +kernel)) (hts (.instanceMethod yX0_init_) (by decide +kernel)) rfl (by decide +kernel) ⟨Nat.le_of_ble_eq_true rfl, Nat.le_of_ble_eq_true rfl⟩) ⟨pw_blind, fun U hU hW => ⟨rfl, pw_pre hP hK hN hD hU hW⟩⟩ rfl rfl hl.1 rfl (lv_room (Nat.le_of_ble_eq_true rfl)) dX5_markEnd_53 ⟨Nat.le_of_ble_eq_true rfl, Nat.le_of_ble_eq_true rfl⟩) hS (fun q _ h => hFc q h) hFc (fun d9 t H1 locs ht hvm hw hB hz1 hk1 hS => ?_)
        obtain ⟨I1091, Q1091, J1091⟩ := d9
        obtain ⟨hC, hR1⟩ := hw
        obtain ⟨hP, hK1, hD1⟩ := hB
        rw [ht] at hP
        have hD := hD1.weaken (fun _ _ _ h => hFc _ h)
        have hR := hR.trans hR1
        generalize H1 = H at hP hS ⊢
        have hP : va_P (dC, dI) vwCl (va_pl L (pF cy K N T I1091 Q1091 J1091)) H := hP
        have hD : va_D A (va_pl L (pF cy K N T I1091 Q1091 J1091)) := hD
        have hC : CT v L K N T I1091 Q1091 := hC
        have hR : RS v I Q J I1091 Q1091 J1091 := hR
        refine W.widen (k := 1) (n := 8) (by omega) (by omega) ?_
        obtain ⟨j1092, hj1092⟩ := pG_4 (cy := cy) (N := N) (T := T) (I := I1091) (Q := Q1091) (J := J1091) hLz1070 hkz1070
        have hFc := pfree hD hS hA
        refine va_callv (va_runV (As := [.ref q1066]) (rest := []) ⟨hx, hb, hml, hown, hts⟩ (c_X4_append l dC dI cy v L K N T I1091 Q1091 J1091 H.size b1062 q1066 hC hLz1070 hkz1070 hLq1066 hkq1066) (cwV 1 hts gX5_markEnd_X4_append rfl rfl rfl (by decide +kernel) ⟨Nat.le_of_ble_eq_true rfl, Nat.le_of_ble_eq_true rfl⟩) ⟨pw_blind, va_recv hK hP (ci := 4) (q0 := j1092) rfl hj1092, fun U hU hW => ⟨rfl, pw_pre hP hK hN hD hU hW⟩⟩ rfl rfl hl.1 rfl (lv_room (Nat.le_of_ble_eq_true rfl)) dX5_markEnd_56 ⟨Nat.le_of_ble_eq_true rfl, Nat.le_of_ble_eq_true rfl⟩) hS (fun q _ h => hFc q h) hFc (fun d9 t H1 locs ht hvm hw hB hz1 hk1 hS => ?_)
        obtain ⟨I1093, Q1093, J1093⟩ := d9
        obtain ⟨hC, hR1⟩ := hw
        obtain ⟨hP, hK1, hD1⟩ := hB
        rw [ht] at hP
        have hD := hD1.weaken (fun _ _ _ h => hFc _ h)
        have hR := hR.trans hR1
        generalize H1 = H at hP hS ⊢
        have hP : va_P (dC, dI) vwCl (va_pl L (pF cy K N T I1093 Q1093 J1093)) H := hP
        have hD : va_D A (va_pl L (pF cy K N T I1093 Q1093 J1093)) := hD
        have hC : CT v L K N T I1093 Q1093 := hC
        have hR : RS v I Q J I1093 Q1093 J1093 := hR
        refine lv_aload_n hx hb dX5_markEnd_59 rfl (lv_at hl 1 rfl) ?_
        obtain ⟨j1095, hj1095⟩ := pG_2 (cy := cy) (N := N) (T := T) (I := I1093) (Q := Q1093) (J := J1093) hLz1068 hkz1068
        have hFc := pfree hD hS hA
        refine va_callv (va_runV (As := []) (rest := []) ⟨hx, hb, hml, hown, hts⟩ (c_X2_raiseHw l dC dI cy v L K N T I1093 Q1093 J1093 H.size pa  hC hLz1068 hkz1068) (cwV 0 hts gX5_markEnd_X2_raiseHw rfl rfl rfl (by decide +kernel) ⟨Nat.le_of_ble_eq_true rfl, Nat.le_of_ble_eq_true rfl⟩) ⟨pw_blind, va_recv hK hP (ci := 2) (q0 := j1095) rfl hj1095, fun U hU hW => ⟨rfl, pw_pre hP hK hN hD hU hW⟩⟩ rfl rfl hl.1 rfl (lv_room (Nat.le_of_ble_eq_true rfl)) dX5_markEnd_60 ⟨Nat.le_of_ble_eq_true rfl, Nat.le_of_ble_eq_true rfl⟩) hS (fun q _ h => hFc q h) hFc (fun d9 t H1 locs ht hvm hw hB hz1 hk1 hS => ?_)
        obtain ⟨I1096, Q1096, J1096⟩ := d9
        obtain ⟨hC, hR1⟩ := hw
        obtain ⟨hP, hK1, hD1⟩ := hB
        rw [ht] at hP
        have hD := hD1.weaken (fun _ _ _ h => hFc _ h)
        have hR := hR.trans hR1
        generalize H1 = H at hP hS ⊢
        have hP : va_P (dC, dI) vwCl (va_pl L (pF cy K N T I1096 Q1096 J1096)) H := hP
        have hD : va_D A (va_pl L (pF cy K N T I1096 Q1096 J1096)) := hD
        have hC : CT v L K N T I1096 Q1096 := hC
        have hR : RS v I Q J I1096 Q1096 J1096 := hR
        refine lv_iconst (v := 1) hx hb dX5_markEnd_63 (by decide) ?_
        refine W.widen (k := 1) (n := 8) (by omega) (by omega) ?_
        exact W.zret (v := 1) hx hb hr (by decide) (fun t ht hW => ⟨⟨1, (L, K, T, I1096, Q1096, J1096), rfl, ⟨⟨hC, hR, hX⟩, trivial⟩, by rw [ht]; exact hP, va_K.moved hW.alike hK, hD⟩, hS.F ht⟩) hS.2.2 dX5_markEnd_64
    · refine lv_iconst (v := 0) hx hb dX5_markEnd_22 (by decide) ?_
      refine W.widen (k := 1) (n := 8) (by omega) (by omega) ?_
      exact W.zret (v := 0) hx hb hr (by decide) (fun t ht hW => ⟨⟨0, (L, K, T, I, Q, J), rfl, ⟨⟨hC, hR, hX⟩, trivial⟩, by rw [ht]; exact hP, va_K.moved hW.alike hK, hD⟩, hS.F ht⟩) hS.2.2 dX5_markEnd_23
set_option maxHeartbeats 4000000 in
set_option maxRecDepth 100000 in
/-- markEnd of null -/
theorem c_X5_markEnd0 (l : Launch) (dC : Nat → ClassId) (dI : Nat → Nat → Nat) (cy : Nat → ClassId) (v : Nat → Nat) (L : List Nat) (K N : Nat → Nat) (T : Nat → Nat → Nat) (I : Nat → Nat → Int32) (Q : Nat → Nat → Option Nat) (J : Nat → Nat → Int32) (sz : Nat) (pb : Nat) (hC : CT v L K N T I Q) : Met l yX5_markEnd wsX5_markEnd ({ frames := 3, cells := 1, slots := 8, locals := 66 }) (va_Pc [.null, .ref pb] (pW dC dI cy L (pF cy K N T I Q J) sz)) (va_Qi (fun (r : Int32) (d : List Nat × (Nat → Nat) × (Nat → Nat → Nat) × (Nat → Nat → Int32) × (Nat → Nat → Option Nat) × (Nat → Nat → Int32)) => (CT v d.1 d.2.1 N d.2.2.1 d.2.2.2.1 d.2.2.2.2.1 ∧ RS v I Q J d.2.2.2.1 d.2.2.2.2.1 d.2.2.2.2.2 ∧ PX L K N T d.1 d.2.1 N d.2.2.1) ∧ True) (fun (d : List Nat × (Nat → Nat) × (Nat → Nat → Nat) × (Nat → Nat → Int32) × (Nat → Nat → Option Nat) × (Nat → Nat → Int32)) t => va_P (dC, dI) vwCl (va_pl d.1 (pF cy d.2.1 N d.2.2.1 d.2.2.2.1 d.2.2.2.2.1 d.2.2.2.2.2)) t.heap ∧ va_K (dC, dI) vwCl (pTy cy) t ∧ va_D (va_A (va_pl L (pF cy K N T I Q J)) sz) (va_pl d.1 (pF cy d.2.1 N d.2.2.1 d.2.2.2.1 d.2.2.2.2.1 d.2.2.2.2.2))) (va_A (va_pl L (pF cy K N T I Q J)) sz)) 1 8 (va_A (va_pl L (pF cy K N T I Q J)) sz) := by
  refine Met.ofW (cc := cX5_markEnd) (maxL := 3) (ret := (some .boolean)) (by decide) rfl ?_
  intro p e s m args below meth c s₁ B hml hv
  obtain ⟨rfl, hsz, ⟨hP, hK, hN⟩, hD0⟩ := hv
  have hx := B.exec
  have hb := B.bytes
  have hr := B.returns
  have hts := atoms_spec (ws := wsX5_markEnd) B.pre
  have hown : s.vm.findClass RX5 = some m.cls := findClass_of_methodNamed B.named
  have hlocks := B.notSynchronized
  have hi0 : ∀ w ∈ wsX00, w ∈ wsX5_markEnd := by decide +kernel
  have hi2 : ∀ w ∈ wsX20, w ∈ wsX5_markEnd := by decide +kernel
  have hi3 : ∀ w ∈ wsX30, w ∈ wsX5_markEnd := by decide +kernel
  have hi4 : ∀ w ∈ wsX40, w ∈ wsX5_markEnd := by decide +kernel
  have hl := lv_entry ([.null, .ref pb]) (n := 3) (Nat.le_of_ble_eq_true rfl)
  rw [lg_entry_eq]
  generalize (lg_sl ([.null, .ref pb]) ++ List.replicate (3 - (lg_sl ([.null, .ref pb])).length) Slot.unset).toArray = ls at hl ⊢
  have hl : lv_has ls 3 [(0, .null), (1, .ref pb)] := hl
  subst hsz
  have hD := hD0.self (sz := s.heap.size)
  generalize hAe : va_A (va_pl L (pF cy K N T I Q J)) s.heap.size = A at hD ⊢
  have hA : ∀ q : Nat, s.heap.size ≤ q → A q := fun q h => by rw [← hAe]; exact Or.inr h
  have hS : va_S A s.heap s.heap [] := va_S.rf
  have hR : RS v I Q J I Q J := RS.rf
  have hX : PX L K N T L K N T := PX.rf
  have hn28 := hN.1
  have hn30 := hN.2.1
  have hn37 := hN.2.2.1
  refine lv_aload_nN hx hb dX5_markEnd_0 rfl (lv_at hl 0 rfl) ?_
  refine lv_ifnonnullN hx hb dX5_markEnd_1 ?_
  refine lv_iconst (v := 0) hx hb dX5_markEnd_4 (by decide) ?_
  refine W.widen (k := 1) (n := 8) (by omega) (by omega) ?_
  exact W.zret (v := 0) hx hb hr (by decide) (fun t ht hW => ⟨⟨0, (L, K, T, I, Q, J), rfl, ⟨⟨hC, hR, hX⟩, trivial⟩, by rw [ht]; exact hP, va_K.moved hW.alike hK, hD⟩, hS.F ht⟩) hS.2.2 dX5_markEnd_5
