set_option maxHeartbeats 4000000 in
set_option maxRecDepth 100000 in
/-- Entry(epoch, producer, generation, seq, key, value, bound) -/
theorem c_X0_init (l : Launch) (dC : Nat → ClassId) (dI : Nat → Nat → Nat) (cy : Nat → ClassId) (v : Nat → Nat) (L : List Nat) (K N : Nat → Nat) (T : Nat → Nat → Nat) (I : Nat → Nat → Int32) (Q : Nat → Nat → Option Nat) (J : Nat → Nat → Int32) (sz : Nat) (a : Nat) (ep : Int32) (pr : Int32) (ge : Int32) (sq : Int32) (ke : Int32) (va : Int32) (bo : Int32) (hC : CT v L K N T I Q) (ha : a ∈ L) (hk : K a = 0) (hcm : narrow .boolean (.int bo) = .int bo) (hcf : fits .boolean (.int bo) = true) : Met l yX0_init wsX0_init ({ frames := 1, cells := 0, slots := 0, locals := 12 }) (va_Pc [.ref a, .int ep, .int pr, .int ge, .int sq, .int ke, .int va, .int bo] (pW dC dI cy L (pF cy K N T I Q J) sz)) (va_Qv (fun d : (Nat → Nat → Int32) × (Nat → Nat → Option Nat) × (Nat → Nat → Int32) => CT v L K N T d.1 d.2.1 ∧ RS v I Q J d.1 d.2.1 d.2.2) (fun (d : (Nat → Nat → Int32) × (Nat → Nat → Option Nat) × (Nat → Nat → Int32)) t => va_P (dC, dI) vwCl (va_pl L (pF cy K N T d.1 d.2.1 d.2.2)) t.heap ∧ va_K (dC, dI) vwCl (pTy cy) t ∧ va_D (va_A (va_pl L (pF cy K N T I Q J)) sz) (va_pl L (pF cy K N T d.1 d.2.1 d.2.2))) (va_A (va_pl L (pF cy K N T I Q J)) sz)) 0 0 (va_A (va_pl L (pF cy K N T I Q J)) sz) := by
  refine Met.ofW (cc := cX0_init) (maxL := 8) (ret := none) (by decide) rfl ?_
  intro p e s m args below meth c s₁ B hml hv
  obtain ⟨rfl, hsz, ⟨hP, hK, hN⟩, hD0⟩ := hv
  have hx := B.exec
  have hb := B.bytes
  have hr := B.returns
  have hts := atoms_spec (ws := wsX0_init) B.pre
  have hown : s.vm.findClass RX0 = some m.cls := findClass_of_methodNamed B.named
  have hlocks := B.notSynchronized
  have hi0 : ∀ w ∈ wsX00, w ∈ wsX0_init := by decide +kernel
  have hl := lv_entry ([.ref a, .int ep, .int pr, .int ge, .int sq, .int ke, .int va, .int bo]) (n := 8) (Nat.le_of_ble_eq_true rfl)
  rw [lg_entry_eq]
  generalize (lg_sl ([.ref a, .int ep, .int pr, .int ge, .int sq, .int ke, .int va, .int bo]) ++ List.replicate (8 - (lg_sl ([.ref a, .int ep, .int pr, .int ge, .int sq, .int ke, .int va, .int bo])).length) Slot.unset).toArray = ls at hl ⊢
  have hl : lv_has ls 8 [(0, .ref a), (1, .int ep), (2, .int pr), (3, .int ge), (4, .int sq), (5, .int ke), (6, .int va), (7, .int bo)] := hl
  subst hsz
  have hD := hD0.self (sz := s.heap.size)
  generalize hAe : va_A (va_pl L (pF cy K N T I Q J)) s.heap.size = A at hD ⊢
  have hA : ∀ q : Nat, s.heap.size ≤ q → A q := fun q h => by rw [← hAe]; exact Or.inr h
  have hS : va_S A s.heap s.heap [] := va_S.rf
  have hR : RS v I Q J I Q J := RS.rf
  have hn28 := hN.1
  have hn30 := hN.2.1
  have hn37 := hN.2.2.1
  have hin : meth.name = "<init>" := (name_of_methodNamed B.named B.method).1
  refine lv_aload_n hx hb dX0_init_0 rfl (lv_at hl 0 rfl) ?_
  refine W.objInit hx hb hown (hts (.methodLink RX0 3 objectInit) (by decide +kernel)) (hts (.instanceMethod objectInit) (by decide +kernel)) (hts _ (List.mem_of_getElem? (i := 3) rfl)) rfl (by rw [hml]; exact hl.1) rfl dX0_init_1 (Nat.le_of_ble_eq_true rfl) (Nat.le_of_ble_eq_true rfl) ?_
  refine W.eq (g2 := F0 m 4 ls []) rfl ?_
  refine lv_aload_n hx hb dX0_init_4 rfl (lv_at hl 0 rfl) ?_
  refine lv_iload_n hx hb dX0_init_5 rfl (lv_at hl 1 rfl) ?_
  obtain ⟨j902, hj902⟩ := pG_0 (cy := cy) (N := N) (T := T) (I := I) (Q := Q) (J := J) ha hk
  have hDo := hD
  refine va_putF (D := (dC, dI)) (ci := 0) (v := .int ep) (ty := .int) (C := RX0) (T := TX0) (N := 8) hx hb hts hi0 tyX0 tyX0_ok nmX0 hown hK hP hD hS j902 hj902 rfl 0 (by decide) (hts (.fieldLink RX0 9 "TallyLogs$Entry" "epoch" "I") (by decide +kernel)) (fun _ h9 => h9) rfl hin rfl (by decide +kernel) rfl rfl (Nat.le_of_ble_eq_true rfl) dX0_init_6 (fun H locs hP hD hS => ?_)
  have hP := Eq.mp (congrArg (fun w => va_P (dC, dI) vwCl w H) (pP_0_0 (x := ep) hDo ha hk hj902)) hP
  obtain ⟨I903, eI903⟩ : ∃ z, z = p2 I a 0 ep := ⟨_, rfl⟩
  rw [← eI903] at hP
  have hR : RS v I Q J I903 Q J := by rw [eI903]; exact hR.pi hC (by rw [hk]; decide)
  have hC : CT v L K N T I903 Q := by rw [eI903]; exact hC.pi (by rw [hk]; decide)
  have hD : va_D A (va_pl L (pF cy K N T I903 Q J)) := pD hDo
  refine lv_aload_n hx hb dX0_init_9 rfl (lv_at hl 0 rfl) ?_
  refine lv_iconst (v := 0) hx hb dX0_init_10 (by decide) ?_
  obtain ⟨j904, hj904⟩ := pG_0 (cy := cy) (N := N) (T := T) (I := I903) (Q := Q) (J := J) ha hk
  have hDo := hD
  refine va_putF (D := (dC, dI)) (ci := 0) (v := .int 0) (ty := .int) (C := RX0) (T := TX0) (N := 8) hx hb hts hi0 tyX0 tyX0_ok nmX0 hown hK hP hD hS j904 hj904 rfl 1 (by decide) (hts (.fieldLink RX0 15 "TallyLogs$Entry" "kind" "I") (by decide +kernel)) (fun _ h9 => h9) rfl hin rfl (by decide +kernel) rfl rfl (Nat.le_of_ble_eq_true rfl) dX0_init_11 (fun H locs hP hD hS => ?_)
  have hP := Eq.mp (congrArg (fun w => va_P (dC, dI) vwCl w H) (pP_0_1 (x := 0) hDo ha hk hj904)) hP
  obtain ⟨I905, eI905⟩ : ∃ z, z = p2 I903 a 1 0 := ⟨_, rfl⟩
  rw [← eI905] at hP
  have hR : RS v I Q J I905 Q J := by rw [eI905]; exact hR.pi hC (by rw [hk]; decide)
  have hC : CT v L K N T I905 Q := by rw [eI905]; exact hC.pi (by rw [hk]; decide)
  have hD : va_D A (va_pl L (pF cy K N T I905 Q J)) := pD hDo
  refine lv_aload_n hx hb dX0_init_14 rfl (lv_at hl 0 rfl) ?_
  refine lv_iload_n hx hb dX0_init_15 rfl (lv_at hl 2 rfl) ?_
  obtain ⟨j906, hj906⟩ := pG_0 (cy := cy) (N := N) (T := T) (I := I905) (Q := Q) (J := J) ha hk
  have hDo := hD
  refine va_putF (D := (dC, dI)) (ci := 0) (v := .int pr) (ty := .int) (C := RX0) (T := TX0) (N := 8) hx hb hts hi0 tyX0 tyX0_ok nmX0 hown hK hP hD hS j906 hj906 rfl 2 (by decide) (hts (.fieldLink RX0 18 "TallyLogs$Entry" "producer" "I") (by decide +kernel)) (fun _ h9 => h9) rfl hin rfl (by decide +kernel) rfl rfl (Nat.le_of_ble_eq_true rfl) dX0_init_16 (fun H locs hP hD hS => ?_)
  have hP := Eq.mp (congrArg (fun w => va_P (dC, dI) vwCl w H) (pP_0_2 (x := pr) hDo ha hk hj906)) hP
  obtain ⟨I907, eI907⟩ : ∃ z, z = p2 I905 a 2 pr := ⟨_, rfl⟩
  rw [← eI907] at hP
  have hR : RS v I Q J I907 Q J := by rw [eI907]; exact hR.pi hC (by rw [hk]; decide)
  have hC : CT v L K N T I907 Q := by rw [eI907]; exact hC.pi (by rw [hk]; decide)
  have hD : va_D A (va_pl L (pF cy K N T I907 Q J)) := pD hDo
  refine lv_aload_n hx hb dX0_init_19 rfl (lv_at hl 0 rfl) ?_
  refine lv_iload_n hx hb dX0_init_20 rfl (lv_at hl 3 rfl) ?_
  obtain ⟨j908, hj908⟩ := pG_0 (cy := cy) (N := N) (T := T) (I := I907) (Q := Q) (J := J) ha hk
  have hDo := hD
  refine va_putF (D := (dC, dI)) (ci := 0) (v := .int ge) (ty := .int) (C := RX0) (T := TX0) (N := 8) hx hb hts hi0 tyX0 tyX0_ok nmX0 hown hK hP hD hS j908 hj908 rfl 3 (by decide) (hts (.fieldLink RX0 21 "TallyLogs$Entry" "generation" "I") (by decide +kernel)) (fun _ h9 => h9) rfl hin rfl (by decide +kernel) rfl rfl (Nat.le_of_ble_eq_true rfl) dX0_init_21 (fun H locs hP hD hS => ?_)
  have hP := Eq.mp (congrArg (fun w => va_P (dC, dI) vwCl w H) (pP_0_3 (x := ge) hDo ha hk hj908)) hP
  obtain ⟨I909, eI909⟩ : ∃ z, z = p2 I907 a 3 ge := ⟨_, rfl⟩
  rw [← eI909] at hP
  have hR : RS v I Q J I909 Q J := by rw [eI909]; exact hR.pi hC (by rw [hk]; decide)
  have hC : CT v L K N T I909 Q := by rw [eI909]; exact hC.pi (by rw [hk]; decide)
  have hD : va_D A (va_pl L (pF cy K N T I909 Q J)) := pD hDo
  refine lv_aload_n hx hb dX0_init_24 rfl (lv_at hl 0 rfl) ?_
  refine lv_iload hx hb dX0_init_25 (lv_at hl 4 rfl) ?_
  obtain ⟨j910, hj910⟩ := pG_0 (cy := cy) (N := N) (T := T) (I := I909) (Q := Q) (J := J) ha hk
  have hDo := hD
  refine va_putF (D := (dC, dI)) (ci := 0) (v := .int sq) (ty := .int) (C := RX0) (T := TX0) (N := 8) hx hb hts hi0 tyX0 tyX0_ok nmX0 hown hK hP hD hS j910 hj910 rfl 4 (by decide) (hts (.fieldLink RX0 24 "TallyLogs$Entry" "seq" "I") (by decide +kernel)) (fun _ h9 => h9) rfl hin rfl (by decide +kernel) rfl rfl (Nat.le_of_ble_eq_true rfl) dX0_init_27 (fun H locs hP hD hS => ?_)
  have hP := Eq.mp (congrArg (fun w => va_P (dC, dI) vwCl w H) (pP_0_4 (x := sq) hDo ha hk hj910)) hP
  obtain ⟨I911, eI911⟩ : ∃ z, z = p2 I909 a 4 sq := ⟨_, rfl⟩
  rw [← eI911] at hP
  have hR : RS v I Q J I911 Q J := by rw [eI911]; exact hR.pi hC (by rw [hk]; decide)
  have hC : CT v L K N T I911 Q := by rw [eI911]; exact hC.pi (by rw [hk]; decide)
  have hD : va_D A (va_pl L (pF cy K N T I911 Q J)) := pD hDo
  refine lv_aload_n hx hb dX0_init_30 rfl (lv_at hl 0 rfl) ?_
  refine lv_iload hx hb dX0_init_31 (lv_at hl 5 rfl) ?_
  obtain ⟨j912, hj912⟩ := pG_0 (cy := cy) (N := N) (T := T) (I := I911) (Q := Q) (J := J) ha hk
  have hDo := hD
  refine va_putF (D := (dC, dI)) (ci := 0) (v := .int ke) (ty := .int) (C := RX0) (T := TX0) (N := 8) hx hb hts hi0 tyX0 tyX0_ok nmX0 hown hK hP hD hS j912 hj912 rfl 5 (by decide) (hts (.fieldLink RX0 27 "TallyLogs$Entry" "key" "I") (by decide +kernel)) (fun _ h9 => h9) rfl hin rfl (by decide +kernel) rfl rfl (Nat.le_of_ble_eq_true rfl) dX0_init_33 (fun H locs hP hD hS => ?_)
  have hP := Eq.mp (congrArg (fun w => va_P (dC, dI) vwCl w H) (pP_0_5 (x := ke) hDo ha hk hj912)) hP
  obtain ⟨I913, eI913⟩ : ∃ z, z = p2 I911 a 5 ke := ⟨_, rfl⟩
  rw [← eI913] at hP
  have hR : RS v I Q J I913 Q J := by rw [eI913]; exact hR.pi hC (by rw [hk]; decide)
  have hC : CT v L K N T I913 Q := by rw [eI913]; exact hC.pi (by rw [hk]; decide)
  have hD : va_D A (va_pl L (pF cy K N T I913 Q J)) := pD hDo
  refine lv_aload_n hx hb dX0_init_36 rfl (lv_at hl 0 rfl) ?_
  refine lv_iload hx hb dX0_init_37 (lv_at hl 6 rfl) ?_
  obtain ⟨j914, hj914⟩ := pG_0 (cy := cy) (N := N) (T := T) (I := I913) (Q := Q) (J := J) ha hk
  have hDo := hD
  refine va_putF (D := (dC, dI)) (ci := 0) (v := .int va) (ty := .int) (C := RX0) (T := TX0) (N := 8) hx hb hts hi0 tyX0 tyX0_ok nmX0 hown hK hP hD hS j914 hj914 rfl 6 (by decide) (hts (.fieldLink RX0 30 "TallyLogs$Entry" "value" "I") (by decide +kernel)) (fun _ h9 => h9) rfl hin rfl (by decide +kernel) rfl rfl (Nat.le_of_ble_eq_true rfl) dX0_init_39 (fun H locs hP hD hS => ?_)
  have hP := Eq.mp (congrArg (fun w => va_P (dC, dI) vwCl w H) (pP_0_6 (x := va) hDo ha hk hj914)) hP
  obtain ⟨I915, eI915⟩ : ∃ z, z = p2 I913 a 6 va := ⟨_, rfl⟩
  rw [← eI915] at hP
  have hR : RS v I Q J I915 Q J := by rw [eI915]; exact hR.pi hC (by rw [hk]; decide)
  have hC : CT v L K N T I915 Q := by rw [eI915]; exact hC.pi (by rw [hk]; decide)
  have hD : va_D A (va_pl L (pF cy K N T I915 Q J)) := pD hDo
  refine lv_aload_n hx hb dX0_init_42 rfl (lv_at hl 0 rfl) ?_
  refine lv_iload hx hb dX0_init_43 (lv_at hl 7 rfl) ?_
  obtain ⟨j916, hj916⟩ := pG_0 (cy := cy) (N := N) (T := T) (I := I915) (Q := Q) (J := J) ha hk
  have hDo := hD
  refine va_putF (D := (dC, dI)) (ci := 0) (v := .int bo) (ty := .boolean) (C := RX0) (T := TX0) (N := 8) hx hb hts hi0 tyX0 tyX0_ok nmX0 hown hK hP hD hS j916 hj916 rfl 7 (by decide) (hts (.fieldLink RX0 33 "TallyLogs$Entry" "bound" "Z") (by decide +kernel)) (fun _ h9 => h9) rfl hin rfl (by decide +kernel) hcm hcf (Nat.le_of_ble_eq_true rfl) dX0_init_45 (fun H locs hP hD hS => ?_)
  have hP := Eq.mp (congrArg (fun w => va_P (dC, dI) vwCl w H) (pP_0_7 (x := bo) hDo ha hk hj916)) hP
  obtain ⟨I917, eI917⟩ : ∃ z, z = p2 I915 a 7 bo := ⟨_, rfl⟩
  rw [← eI917] at hP
  have hR : RS v I Q J I917 Q J := by rw [eI917]; exact hR.pi hC (by rw [hk]; decide)
  have hC : CT v L K N T I917 Q := by rw [eI917]; exact hC.pi (by rw [hk]; decide)
  have hD : va_D A (va_pl L (pF cy K N T I917 Q J)) := pD hDo
  exact W.vret hx hb hr (fun t ht hW => ⟨⟨(I917, Q, J), rfl, ⟨hC, hR⟩, by rw [ht]; exact hP, va_K.moved hW.alike hK, hD⟩, hS.F ht⟩) hS.2.2 dX0_init_48
set_option maxHeartbeats 4000000 in
set_option maxRecDepth 100000 in
/-- Entry(epoch, kind, producer, generation) -/
theorem c_X0_init_ (l : Launch) (dC : Nat → ClassId) (dI : Nat → Nat → Nat) (cy : Nat → ClassId) (v : Nat → Nat) (L : List Nat) (K N : Nat → Nat) (T : Nat → Nat → Nat) (I : Nat → Nat → Int32) (Q : Nat → Nat → Option Nat) (J : Nat → Nat → Int32) (sz : Nat) (a : Nat) (ep : Int32) (kd : Int32) (pr : Int32) (ge : Int32) (hC : CT v L K N T I Q) (ha : a ∈ L) (hk : K a = 0) : Met l yX0_init_ wsX0_init_ ({ frames := 1, cells := 0, slots := 0, locals := 12 }) (va_Pc [.ref a, .int ep, .int kd, .int pr, .int ge] (pW dC dI cy L (pF cy K N T I Q J) sz)) (va_Qv (fun d : (Nat → Nat → Int32) × (Nat → Nat → Option Nat) × (Nat → Nat → Int32) => CT v L K N T d.1 d.2.1 ∧ RS v I Q J d.1 d.2.1 d.2.2) (fun (d : (Nat → Nat → Int32) × (Nat → Nat → Option Nat) × (Nat → Nat → Int32)) t => va_P (dC, dI) vwCl (va_pl L (pF cy K N T d.1 d.2.1 d.2.2)) t.heap ∧ va_K (dC, dI) vwCl (pTy cy) t ∧ va_D (va_A (va_pl L (pF cy K N T I Q J)) sz) (va_pl L (pF cy K N T d.1 d.2.1 d.2.2))) (va_A (va_pl L (pF cy K N T I Q J)) sz)) 0 0 (va_A (va_pl L (pF cy K N T I Q J)) sz) := by
  refine Met.ofW (cc := cX0_init_) (maxL := 5) (ret := none) (by decide) rfl ?_
  intro p e s m args below meth c s₁ B hml hv
  obtain ⟨rfl, hsz, ⟨hP, hK, hN⟩, hD0⟩ := hv
  have hx := B.exec
  have hb := B.bytes
  have hr := B.returns
  have hts := atoms_spec (ws := wsX0_init_) B.pre
  have hown : s.vm.findClass RX0 = some m.cls := findClass_of_methodNamed B.named
  have hlocks := B.notSynchronized
  have hi0 : ∀ w ∈ wsX00, w ∈ wsX0_init_ := by decide +kernel
  have hl := lv_entry ([.ref a, .int ep, .int kd, .int pr, .int ge]) (n := 5) (Nat.le_of_ble_eq_true rfl)
  rw [lg_entry_eq]
  generalize (lg_sl ([.ref a, .int ep, .int kd, .int pr, .int ge]) ++ List.replicate (5 - (lg_sl ([.ref a, .int ep, .int kd, .int pr, .int ge])).length) Slot.unset).toArray = ls at hl ⊢
  have hl : lv_has ls 5 [(0, .ref a), (1, .int ep), (2, .int kd), (3, .int pr), (4, .int ge)] := hl
  subst hsz
  have hD := hD0.self (sz := s.heap.size)
  generalize hAe : va_A (va_pl L (pF cy K N T I Q J)) s.heap.size = A at hD ⊢
  have hA : ∀ q : Nat, s.heap.size ≤ q → A q := fun q h => by rw [← hAe]; exact Or.inr h
  have hS : va_S A s.heap s.heap [] := va_S.rf
  have hR : RS v I Q J I Q J := RS.rf
  have hn28 := hN.1
  have hn30 := hN.2.1
  have hn37 := hN.2.2.1
  have hin : meth.name = "<init>" := (name_of_methodNamed B.named B.method).1
  refine lv_aload_n hx hb dX0_init__0 rfl (lv_at hl 0 rfl) ?_
  refine W.objInit hx hb hown (hts (.methodLink RX0 3 objectInit) (by decide +kernel)) (hts (.instanceMethod objectInit) (by decide +kernel)) (hts _ (List.mem_of_getElem? (i := 3) rfl)) rfl (by rw [hml]; exact hl.1) rfl dX0_init__1 (Nat.le_of_ble_eq_true rfl) (Nat.le_of_ble_eq_true rfl) ?_
  refine W.eq (g2 := F0 m 4 ls []) rfl ?_
  refine lv_aload_n hx hb dX0_init__4 rfl (lv_at hl 0 rfl) ?_
  refine lv_iload_n hx hb dX0_init__5 rfl (lv_at hl 1 rfl) ?_
  obtain ⟨j918, hj918⟩ := pG_0 (cy := cy) (N := N) (T := T) (I := I) (Q := Q) (J := J) ha hk
  have hDo := hD
  refine va_putF (D := (dC, dI)) (ci := 0) (v := .int ep) (ty := .int) (C := RX0) (T := TX0) (N := 8) hx hb hts hi0 tyX0 tyX0_ok nmX0 hown hK hP hD hS j918 hj918 rfl 0 (by decide) (hts (.fieldLink RX0 9 "TallyLogs$Entry" "epoch" "I") (by decide +kernel)) (fun _ h9 => h9) rfl hin rfl (by decide +kernel) rfl rfl (Nat.le_of_ble_eq_true rfl) dX0_init__6 (fun H locs hP hD hS => ?_)
  have hP := Eq.mp (congrArg (fun w => va_P (dC, dI) vwCl w H) (pP_0_0 (x := ep) hDo ha hk hj918)) hP
  obtain ⟨I919, eI919⟩ : ∃ z, z = p2 I a 0 ep := ⟨_, rfl⟩
  rw [← eI919] at hP
  have hR : RS v I Q J I919 Q J := by rw [eI919]; exact hR.pi hC (by rw [hk]; decide)
  have hC : CT v L K N T I919 Q := by rw [eI919]; exact hC.pi (by rw [hk]; decide)
  have hD : va_D A (va_pl L (pF cy K N T I919 Q J)) := pD hDo
  refine lv_aload_n hx hb dX0_init__9 rfl (lv_at hl 0 rfl) ?_
  refine lv_iload_n hx hb dX0_init__10 rfl (lv_at hl 2 rfl) ?_
  obtain ⟨j920, hj920⟩ := pG_0 (cy := cy) (N := N) (T := T) (I := I919) (Q := Q) (J := J) ha hk
  have hDo := hD
  refine va_putF (D := (dC, dI)) (ci := 0) (v := .int kd) (ty := .int) (C := RX0) (T := TX0) (N := 8) hx hb hts hi0 tyX0 tyX0_ok nmX0 hown hK hP hD hS j920 hj920 rfl 1 (by decide) (hts (.fieldLink RX0 15 "TallyLogs$Entry" "kind" "I") (by decide +kernel)) (fun _ h9 => h9) rfl hin rfl (by decide +kernel) rfl rfl (Nat.le_of_ble_eq_true rfl) dX0_init__11 (fun H locs hP hD hS => ?_)
  have hP := Eq.mp (congrArg (fun w => va_P (dC, dI) vwCl w H) (pP_0_1 (x := kd) hDo ha hk hj920)) hP
  obtain ⟨I921, eI921⟩ : ∃ z, z = p2 I919 a 1 kd := ⟨_, rfl⟩
  rw [← eI921] at hP
  have hR : RS v I Q J I921 Q J := by rw [eI921]; exact hR.pi hC (by rw [hk]; decide)
  have hC : CT v L K N T I921 Q := by rw [eI921]; exact hC.pi (by rw [hk]; decide)
  have hD : va_D A (va_pl L (pF cy K N T I921 Q J)) := pD hDo
  refine lv_aload_n hx hb dX0_init__14 rfl (lv_at hl 0 rfl) ?_
  refine lv_iload_n hx hb dX0_init__15 rfl (lv_at hl 3 rfl) ?_
  obtain ⟨j922, hj922⟩ := pG_0 (cy := cy) (N := N) (T := T) (I := I921) (Q := Q) (J := J) ha hk
  have hDo := hD
  refine va_putF (D := (dC, dI)) (ci := 0) (v := .int pr) (ty := .int) (C := RX0) (T := TX0) (N := 8) hx hb hts hi0 tyX0 tyX0_ok nmX0 hown hK hP hD hS j922 hj922 rfl 2 (by decide) (hts (.fieldLink RX0 18 "TallyLogs$Entry" "producer" "I") (by decide +kernel)) (fun _ h9 => h9) rfl hin rfl (by decide +kernel) rfl rfl (Nat.le_of_ble_eq_true rfl) dX0_init__16 (fun H locs hP hD hS => ?_)
  have hP := Eq.mp (congrArg (fun w => va_P (dC, dI) vwCl w H) (pP_0_2 (x := pr) hDo ha hk hj922)) hP
  obtain ⟨I923, eI923⟩ : ∃ z, z = p2 I921 a 2 pr := ⟨_, rfl⟩
  rw [← eI923] at hP
  have hR : RS v I Q J I923 Q J := by rw [eI923]; exact hR.pi hC (by rw [hk]; decide)
  have hC : CT v L K N T I923 Q := by rw [eI923]; exact hC.pi (by rw [hk]; decide)
  have hD : va_D A (va_pl L (pF cy K N T I923 Q J)) := pD hDo
  refine lv_aload_n hx hb dX0_init__19 rfl (lv_at hl 0 rfl) ?_
  refine lv_iload hx hb dX0_init__20 (lv_at hl 4 rfl) ?_
  obtain ⟨j924, hj924⟩ := pG_0 (cy := cy) (N := N) (T := T) (I := I923) (Q := Q) (J := J) ha hk
  have hDo := hD
  refine va_putF (D := (dC, dI)) (ci := 0) (v := .int ge) (ty := .int) (C := RX0) (T := TX0) (N := 8) hx hb hts hi0 tyX0 tyX0_ok nmX0 hown hK hP hD hS j924 hj924 rfl 3 (by decide) (hts (.fieldLink RX0 21 "TallyLogs$Entry" "generation" "I") (by decide +kernel)) (fun _ h9 => h9) rfl hin rfl (by decide +kernel) rfl rfl (Nat.le_of_ble_eq_true rfl) dX0_init__22 (fun H locs hP hD hS => ?_)
  have hP := Eq.mp (congrArg (fun w => va_P (dC, dI) vwCl w H) (pP_0_3 (x := ge) hDo ha hk hj924)) hP
  obtain ⟨I925, eI925⟩ : ∃ z, z = p2 I923 a 3 ge := ⟨_, rfl⟩
  rw [← eI925] at hP
  have hR : RS v I Q J I925 Q J := by rw [eI925]; exact hR.pi hC (by rw [hk]; decide)
  have hC : CT v L K N T I925 Q := by rw [eI925]; exact hC.pi (by rw [hk]; decide)
  have hD : va_D A (va_pl L (pF cy K N T I925 Q J)) := pD hDo
  refine lv_aload_n hx hb dX0_init__25 rfl (lv_at hl 0 rfl) ?_
  refine lv_iconst (v := (-1)) hx hb dX0_init__26 (by decide) ?_
  obtain ⟨j926, hj926⟩ := pG_0 (cy := cy) (N := N) (T := T) (I := I925) (Q := Q) (J := J) ha hk
  have hDo := hD
  refine va_putF (D := (dC, dI)) (ci := 0) (v := .int (-1)) (ty := .int) (C := RX0) (T := TX0) (N := 8) hx hb hts hi0 tyX0 tyX0_ok nmX0 hown hK hP hD hS j926 hj926 rfl 4 (by decide) (hts (.fieldLink RX0 24 "TallyLogs$Entry" "seq" "I") (by decide +kernel)) (fun _ h9 => h9) rfl hin rfl (by decide +kernel) rfl rfl (Nat.le_of_ble_eq_true rfl) dX0_init__27 (fun H locs hP hD hS => ?_)
  have hP := Eq.mp (congrArg (fun w => va_P (dC, dI) vwCl w H) (pP_0_4 (x := (-1)) hDo ha hk hj926)) hP
  obtain ⟨I927, eI927⟩ : ∃ z, z = p2 I925 a 4 (-1) := ⟨_, rfl⟩
  rw [← eI927] at hP
  have hR : RS v I Q J I927 Q J := by rw [eI927]; exact hR.pi hC (by rw [hk]; decide)
  have hC : CT v L K N T I927 Q := by rw [eI927]; exact hC.pi (by rw [hk]; decide)
  have hD : va_D A (va_pl L (pF cy K N T I927 Q J)) := pD hDo
  refine lv_aload_n hx hb dX0_init__30 rfl (lv_at hl 0 rfl) ?_
  refine lv_iconst (v := 0) hx hb dX0_init__31 (by decide) ?_
  obtain ⟨j928, hj928⟩ := pG_0 (cy := cy) (N := N) (T := T) (I := I927) (Q := Q) (J := J) ha hk
  have hDo := hD
  refine va_putF (D := (dC, dI)) (ci := 0) (v := .int 0) (ty := .int) (C := RX0) (T := TX0) (N := 8) hx hb hts hi0 tyX0 tyX0_ok nmX0 hown hK hP hD hS j928 hj928 rfl 5 (by decide) (hts (.fieldLink RX0 27 "TallyLogs$Entry" "key" "I") (by decide +kernel)) (fun _ h9 => h9) rfl hin rfl (by decide +kernel) rfl rfl (Nat.le_of_ble_eq_true rfl) dX0_init__32 (fun H locs hP hD hS => ?_)
  have hP := Eq.mp (congrArg (fun w => va_P (dC, dI) vwCl w H) (pP_0_5 (x := 0) hDo ha hk hj928)) hP
  obtain ⟨I929, eI929⟩ : ∃ z, z = p2 I927 a 5 0 := ⟨_, rfl⟩
  rw [← eI929] at hP
  have hR : RS v I Q J I929 Q J := by rw [eI929]; exact hR.pi hC (by rw [hk]; decide)
  have hC : CT v L K N T I929 Q := by rw [eI929]; exact hC.pi (by rw [hk]; decide)
  have hD : va_D A (va_pl L (pF cy K N T I929 Q J)) := pD hDo
  refine lv_aload_n hx hb dX0_init__35 rfl (lv_at hl 0 rfl) ?_
  refine lv_iconst (v := 0) hx hb dX0_init__36 (by decide) ?_
  obtain ⟨j930, hj930⟩ := pG_0 (cy := cy) (N := N) (T := T) (I := I929) (Q := Q) (J := J) ha hk
  have hDo := hD
  refine va_putF (D := (dC, dI)) (ci := 0) (v := .int 0) (ty := .int) (C := RX0) (T := TX0) (N := 8) hx hb hts hi0 tyX0 tyX0_ok nmX0 hown hK hP hD hS j930 hj930 rfl 6 (by decide) (hts (.fieldLink RX0 30 "TallyLogs$Entry" "value" "I") (by decide +kernel)) (fun _ h9 => h9) rfl hin rfl (by decide +kernel) rfl rfl (Nat.le_of_ble_eq_true rfl) dX0_init__37 (fun H locs hP hD hS => ?_)
  have hP := Eq.mp (congrArg (fun w => va_P (dC, dI) vwCl w H) (pP_0_6 (x := 0) hDo ha hk hj930)) hP
  obtain ⟨I931, eI931⟩ : ∃ z, z = p2 I929 a 6 0 := ⟨_, rfl⟩
  rw [← eI931] at hP
  have hR : RS v I Q J I931 Q J := by rw [eI931]; exact hR.pi hC (by rw [hk]; decide)
  have hC : CT v L K N T I931 Q := by rw [eI931]; exact hC.pi (by rw [hk]; decide)
  have hD : va_D A (va_pl L (pF cy K N T I931 Q J)) := pD hDo
  refine lv_aload_n hx hb dX0_init__40 rfl (lv_at hl 0 rfl) ?_
  refine lv_iconst (v := 0) hx hb dX0_init__41 (by decide) ?_
  obtain ⟨j932, hj932⟩ := pG_0 (cy := cy) (N := N) (T := T) (I := I931) (Q := Q) (J := J) ha hk
  have hDo := hD
  refine va_putF (D := (dC, dI)) (ci := 0) (v := .int 0) (ty := .boolean) (C := RX0) (T := TX0) (N := 8) hx hb hts hi0 tyX0 tyX0_ok nmX0 hown hK hP hD hS j932 hj932 rfl 7 (by decide) (hts (.fieldLink RX0 33 "TallyLogs$Entry" "bound" "Z") (by decide +kernel)) (fun _ h9 => h9) rfl hin rfl (by decide +kernel) rfl rfl (Nat.le_of_ble_eq_true rfl) dX0_init__42 (fun H locs hP hD hS => ?_)
  have hP := Eq.mp (congrArg (fun w => va_P (dC, dI) vwCl w H) (pP_0_7 (x := 0) hDo ha hk hj932)) hP
  obtain ⟨I933, eI933⟩ : ∃ z, z = p2 I931 a 7 0 := ⟨_, rfl⟩
  rw [← eI933] at hP
  have hR : RS v I Q J I933 Q J := by rw [eI933]; exact hR.pi hC (by rw [hk]; decide)
  have hC : CT v L K N T I933 Q := by rw [eI933]; exact hC.pi (by rw [hk]; decide)
  have hD : va_D A (va_pl L (pF cy K N T I933 Q J)) := pD hDo
  exact W.vret hx hb hr (fun t ht hW => ⟨⟨(I933, Q, J), rfl, ⟨hC, hR⟩, by rw [ht]; exact hP, va_K.moved hW.alike hK, hD⟩, hS.F ht⟩) hS.2.2 dX0_init__45
set_option maxHeartbeats 4000000 in
set_option maxRecDepth 100000 in
/-- Replica(now) -/
theorem c_X4_init (l : Launch) (dC : Nat → ClassId) (dI : Nat → Nat → Nat) (cy : Nat → ClassId) (v : Nat → Nat) (L : List Nat) (K N : Nat → Nat) (T : Nat → Nat → Nat) (I : Nat → Nat → Int32) (Q : Nat → Nat → Option Nat) (J : Nat → Nat → Int32) (sz : Nat) (h0 : Nat) (nw : Int32) (hC : CT v L K N T I Q) : Met l yX4_init wsX4_init ({ frames := 1, cells := 1, slots := 60, locals := 12 }) (va_Pc [.ref h0, .int nw] (pW1 dC dI cy (h0, .inr (4, [.null, .int 0, .int 0, .int 0, .int 0, .int 0, .int 0])) L (pF cy K N T I Q J) sz)) (va_Qv (fun d : List Nat × (Nat → Nat) × (Nat → Nat → Nat) × (Nat → Nat → Int32) × (Nat → Nat → Option Nat) × (Nat → Nat → Int32) => (CT v d.1 d.2.1 N d.2.2.1 d.2.2.2.1 d.2.2.2.2.1 ∧ RS v I Q J d.2.2.2.1 d.2.2.2.2.1 d.2.2.2.2.2 ∧ PX L K N T d.1 d.2.1 N d.2.2.1) ∧ h0 ∈ d.1 ∧ d.2.1 h0 = 4) (fun (d : List Nat × (Nat → Nat) × (Nat → Nat → Nat) × (Nat → Nat → Int32) × (Nat → Nat → Option Nat) × (Nat → Nat → Int32)) t => va_P (dC, dI) vwCl (va_pl d.1 (pF cy d.2.1 N d.2.2.1 d.2.2.2.1 d.2.2.2.2.1 d.2.2.2.2.2)) t.heap ∧ va_K (dC, dI) vwCl (pTy cy) t ∧ va_D (va_A ((h0, .inr (4, [.null, .int 0, .int 0, .int 0, .int 0, .int 0, .int 0])) :: va_pl L (pF cy K N T I Q J)) sz) (va_pl d.1 (pF cy d.2.1 N d.2.2.1 d.2.2.2.1 d.2.2.2.2.1 d.2.2.2.2.2))) (va_A ((h0, .inr (4, [.null, .int 0, .int 0, .int 0, .int 0, .int 0, .int 0])) :: va_pl L (pF cy K N T I Q J)) sz)) 1 60 (va_A ((h0, .inr (4, [.null, .int 0, .int 0, .int 0, .int 0, .int 0, .int 0])) :: va_pl L (pF cy K N T I Q J)) sz) := by
  refine Met.ofW (cc := cX4_init) (maxL := 2) (ret := none) (by decide) rfl ?_
  intro p e s m args below meth c s₁ B hml hv
  obtain ⟨rfl, hsz, ⟨hP, hK, hN⟩, hD0⟩ := hv
  have hx := B.exec
  have hb := B.bytes
  have hr := B.returns
  have hts := atoms_spec (ws := wsX4_init) B.pre
  have hown : s.vm.findClass RX4 = some m.cls := findClass_of_methodNamed B.named
  have hlocks := B.notSynchronized
  have hi4 : ∀ w ∈ wsX40, w ∈ wsX4_init := by decide +kernel
  have hl := lv_entry ([.ref h0, .int nw]) (n := 2) (Nat.le_of_ble_eq_true rfl)
  rw [lg_entry_eq]
  generalize (lg_sl ([.ref h0, .int nw]) ++ List.replicate (2 - (lg_sl ([.ref h0, .int nw])).length) Slot.unset).toArray = ls at hl ⊢
  have hl : lv_has ls 2 [(0, .ref h0), (1, .int nw)] := hl
  subst hsz
  have hD := hD0.self (sz := s.heap.size)
  generalize hAe : va_A ((h0, .inr (4, [.null, .int 0, .int 0, .int 0, .int 0, .int 0, .int 0])) :: va_pl L (pF cy K N T I Q J)) s.heap.size = A at hD ⊢
  have hA : ∀ q : Nat, s.heap.size ≤ q → A q := fun q h => by rw [← hAe]; exact Or.inr h
  have hS : va_S A s.heap s.heap [] := va_S.rf
  have hR : RS v I Q J I Q J := RS.rf
  have hX : PX L K N T L K N T := PX.rf
  have hn28 := hN.1
  have hn30 := hN.2.1
  have hn37 := hN.2.2.1
  have hin : meth.name = "<init>" := (name_of_methodNamed B.named B.method).1
  refine lv_aload_n hx hb dX4_init_0 rfl (lv_at hl 0 rfl) ?_
  refine W.objInit hx hb hown (hts (.methodLink RX4 3 objectInit) (by decide +kernel)) (hts (.instanceMethod objectInit) (by decide +kernel)) (hts _ (List.mem_of_getElem? (i := 3) rfl)) rfl (by rw [hml]; exact hl.1) rfl dX4_init_1 (Nat.le_of_ble_eq_true rfl) (Nat.le_of_ble_eq_true rfl) ?_
  refine W.eq (g2 := F0 m 4 ls []) rfl ?_
  refine lv_aload_n hx hb dX4_init_4 rfl (lv_at hl 0 rfl) ?_
  refine lv_bipush (v := 60) hx hb dX4_init_5 (by decide) ?_
  refine va_newq (C := "TallyLogs$Entry") (n := 60) (N' := 60) hx hb hown (hts (.classLink RX4 9 RX0) (by decide +kernel)) hN.2.2.2.2 hK hP hD hS hA (by decide) (by decide) (by decide) (Nat.le_of_ble_eq_true rfl) (Nat.le_of_ble_eq_true rfl) dX4_init_7 (fun q934 cA H hKn hP hD hS => ?_)
  obtain rfl : cA = cy 8 := xk_sameQ hKn 6 1 rfl rfl
  refine W.widen (k := 1) (n := 60) (by omega) (by omega) ?_
  refine va_putF (D := (dC, dI)) (ci := 4) (v := .ref q934) (ty := (.array (.object "TallyLogs$Entry"))) (C := RX4) (T := TX4) (N := 7) hx hb hts hi4 tyX4 tyX4_ok nmX4 hown hK hP hD hS 0 rfl rfl 0 (by decide) (hts (.fieldLink RX4 11 "TallyLogs$Replica" "slots" "[LTallyLogs$Entry;") (by decide +kernel)) (fun _ h9 => h9) rfl hin rfl (by decide +kernel) rfl rfl (Nat.le_of_ble_eq_true rfl) dX4_init_10 (fun H locs hP hD hS => ?_)
  have hP : va_P (dC, dI) vwCl ((h0, .inr (4, [.ref q934, .int 0, .int 0, .int 0, .int 0, .int 0, .int 0])) :: va_pl L (pF cy K N T I Q J) ++ [(q934, .inl (cy 8, 60, .inr (.inr (.inr (.inr (fun _ => none))))))]) H := hP
  have hD : va_D A ((h0, .inr (4, [.ref q934, .int 0, .int 0, .int 0, .int 0, .int 0, .int 0])) :: va_pl L (pF cy K N T I Q J) ++ [(q934, .inl (cy 8, 60, .inr (.inr (.inr (.inr (fun _ => none))))))]) := hD
  obtain ⟨L, K, T, I935, Q935, ⟨hP, hD, hC, hR⟩, hXe, hLq934, hkq934⟩ := pNew4 (by decide) hC hR hP hD
  have hX := hX.trans hXe
  refine lv_aload_n hx hb dX4_init_13 rfl (lv_at hl 0 rfl) ?_
  refine lv_iconst (v := 0) hx hb dX4_init_14 (by decide) ?_
  obtain ⟨j936, hj936⟩ := pG_4 (cy := cy) (N := N) (T := T) (I := I935) (Q := Q935) (J := J) hLq934 hkq934
  have hDo := hD
  refine va_put (D := (dC, dI)) (ci := 4) (v := .int 0) (ty := .int) (C := RX4) (T := TX4) (N := 7) hx hb hts hi4 tyX4 tyX4_ok nmX4 hown hK hP hD hS j936 hj936 rfl 1 (by decide) (hts (.fieldLink RX4 17 "TallyLogs$Replica" "start" "I") (by decide +kernel)) (fun _ h9 => h9) rfl (by decide +kernel) rfl rfl (Nat.le_of_ble_eq_true rfl) dX4_init_15 (fun H locs hP hD hS => ?_)
  have hP := Eq.mp (congrArg (fun w => va_P (dC, dI) vwCl w H) (pP_4_1 (x := 0) hDo hLq934 hkq934 hj936)) hP
  obtain ⟨I937, eI937⟩ : ∃ z, z = p2 I935 h0 1 0 := ⟨_, rfl⟩
  rw [← eI937] at hP
  have hR : RS v I Q J I937 Q935 J := by rw [eI937]; exact hR.pi hC (by rw [hkq934]; decide)
  have hC : CT v L K N T I937 Q935 := by rw [eI937]; exact hC.ps (by decide)
  have hD : va_D A (va_pl L (pF cy K N T I937 Q935 J)) := pD hDo
  refine lv_aload_n hx hb dX4_init_18 rfl (lv_at hl 0 rfl) ?_
  refine lv_iconst (v := 0) hx hb dX4_init_19 (by decide) ?_
  obtain ⟨j938, hj938⟩ := pG_4 (cy := cy) (N := N) (T := T) (I := I937) (Q := Q935) (J := J) hLq934 hkq934
  have hDo := hD
  refine va_put (D := (dC, dI)) (ci := 4) (v := .int 0) (ty := .int) (C := RX4) (T := TX4) (N := 7) hx hb hts hi4 tyX4 tyX4_ok nmX4 hown hK hP hD hS j938 hj938 rfl 2 (by decide) (hts (.fieldLink RX4 21 "TallyLogs$Replica" "end" "I") (by decide +kernel)) (fun _ h9 => h9) rfl (by decide +kernel) rfl rfl (Nat.le_of_ble_eq_true rfl) dX4_init_20 (fun H locs hP hD hS => ?_)
  have hP := Eq.mp (congrArg (fun w => va_P (dC, dI) vwCl w H) (pP_4_2 (x := 0) hDo hLq934 hkq934 hj938)) hP
  obtain ⟨I939, eI939⟩ : ∃ z, z = p2 I937 h0 2 0 := ⟨_, rfl⟩
  rw [← eI939] at hP
  have hR : RS v I Q J I939 Q935 J := by rw [eI939]; exact hR.pi hC (by rw [hkq934]; decide)
  have hC : CT v L K N T I939 Q935 := by rw [eI939]; exact hC.pi (by rw [hkq934]; decide)
  have hD : va_D A (va_pl L (pF cy K N T I939 Q935 J)) := pD hDo
  refine lv_aload_n hx hb dX4_init_23 rfl (lv_at hl 0 rfl) ?_
  refine lv_iconst (v := 0) hx hb dX4_init_24 (by decide) ?_
  obtain ⟨j940, hj940⟩ := pG_4 (cy := cy) (N := N) (T := T) (I := I939) (Q := Q935) (J := J) hLq934 hkq934
  have hDo := hD
  refine va_put (D := (dC, dI)) (ci := 4) (v := .int 0) (ty := .int) (C := RX4) (T := TX4) (N := 7) hx hb hts hi4 tyX4 tyX4_ok nmX4 hown hK hP hD hS j940 hj940 rfl 3 (by decide) (hts (.fieldLink RX4 24 "TallyLogs$Replica" "hw" "I") (by decide +kernel)) (fun _ h9 => h9) rfl (by decide +kernel) rfl rfl (Nat.le_of_ble_eq_true rfl) dX4_init_25 (fun H locs hP hD hS => ?_)
  have hP := Eq.mp (congrArg (fun w => va_P (dC, dI) vwCl w H) (pP_4_3 (x := 0) hDo hLq934 hkq934 hj940)) hP
  obtain ⟨I941, eI941⟩ : ∃ z, z = p2 I939 h0 3 0 := ⟨_, rfl⟩
  rw [← eI941] at hP
  have hR : RS v I Q J I941 Q935 J := by rw [eI941]; exact hR.pi hC (by rw [hkq934]; decide)
  have hC : CT v L K N T I941 Q935 := by rw [eI941]; exact hC.pi (by rw [hkq934]; decide)
  have hD : va_D A (va_pl L (pF cy K N T I941 Q935 J)) := pD hDo
  refine lv_aload_n hx hb dX4_init_28 rfl (lv_at hl 0 rfl) ?_
  refine lv_iconst (v := 0) hx hb dX4_init_29 (by decide) ?_
  obtain ⟨j942, hj942⟩ := pG_4 (cy := cy) (N := N) (T := T) (I := I941) (Q := Q935) (J := J) hLq934 hkq934
  have hDo := hD
  refine va_put (D := (dC, dI)) (ci := 4) (v := .int 0) (ty := .int) (C := RX4) (T := TX4) (N := 7) hx hb hts hi4 tyX4 tyX4_ok nmX4 hown hK hP hD hS j942 hj942 rfl 4 (by decide) (hts (.fieldLink RX4 27 "TallyLogs$Replica" "flushed" "I") (by decide +kernel)) (fun _ h9 => h9) rfl (by decide +kernel) rfl rfl (Nat.le_of_ble_eq_true rfl) dX4_init_30 (fun H locs hP hD hS => ?_)
  have hP := Eq.mp (congrArg (fun w => va_P (dC, dI) vwCl w H) (pP_4_4 (x := 0) hDo hLq934 hkq934 hj942)) hP
  obtain ⟨I943, eI943⟩ : ∃ z, z = p2 I941 h0 4 0 := ⟨_, rfl⟩
  rw [← eI943] at hP
  have hR : RS v I Q J I943 Q935 J := by rw [eI943]; exact hR.pi hC (by rw [hkq934]; decide)
  have hC : CT v L K N T I943 Q935 := by rw [eI943]; exact hC.pi (by rw [hkq934]; decide)
  have hD : va_D A (va_pl L (pF cy K N T I943 Q935 J)) := pD hDo
  refine lv_aload_n hx hb dX4_init_33 rfl (lv_at hl 0 rfl) ?_
  refine lv_iconst (v := 0) hx hb dX4_init_34 (by decide) ?_
  obtain ⟨j944, hj944⟩ := pG_4 (cy := cy) (N := N) (T := T) (I := I943) (Q := Q935) (J := J) hLq934 hkq934
  have hDo := hD
  refine va_put (D := (dC, dI)) (ci := 4) (v := .int 0) (ty := .int) (C := RX4) (T := TX4) (N := 7) hx hb hts hi4 tyX4 tyX4_ok nmX4 hown hK hP hD hS j944 hj944 rfl 5 (by decide) (hts (.fieldLink RX4 30 "TallyLogs$Replica" "known" "I") (by decide +kernel)) (fun _ h9 => h9) rfl (by decide +kernel) rfl rfl (Nat.le_of_ble_eq_true rfl) dX4_init_35 (fun H locs hP hD hS => ?_)
  have hP := Eq.mp (congrArg (fun w => va_P (dC, dI) vwCl w H) (pP_4_5 (x := 0) hDo hLq934 hkq934 hj944)) hP
  obtain ⟨I945, eI945⟩ : ∃ z, z = p2 I943 h0 5 0 := ⟨_, rfl⟩
  rw [← eI945] at hP
  have hR : RS v I Q J I945 Q935 J := by rw [eI945]; exact hR.pi hC (by rw [hkq934]; decide)
  have hC : CT v L K N T I945 Q935 := by rw [eI945]; exact hC.pi (by rw [hkq934]; decide)
  have hD : va_D A (va_pl L (pF cy K N T I945 Q935 J)) := pD hDo
  refine lv_aload_n hx hb dX4_init_38 rfl (lv_at hl 0 rfl) ?_
  refine lv_iload_n hx hb dX4_init_39 rfl (lv_at hl 1 rfl) ?_
  obtain ⟨j946, hj946⟩ := pG_4 (cy := cy) (N := N) (T := T) (I := I945) (Q := Q935) (J := J) hLq934 hkq934
  have hDo := hD
  refine va_put (D := (dC, dI)) (ci := 4) (v := .int nw) (ty := .int) (C := RX4) (T := TX4) (N := 7) hx hb hts hi4 tyX4 tyX4_ok nmX4 hown hK hP hD hS j946 hj946 rfl 6 (by decide) (hts (.fieldLink RX4 33 "TallyLogs$Replica" "caught" "I") (by decide +kernel)) (fun _ h9 => h9) rfl (by decide +kernel) rfl rfl (Nat.le_of_ble_eq_true rfl) dX4_init_40 (fun H locs hP hD hS => ?_)
  have hP := Eq.mp (congrArg (fun w => va_P (dC, dI) vwCl w H) (pP_4_6 (x := nw) hDo hLq934 hkq934 hj946)) hP
  obtain ⟨I947, eI947⟩ : ∃ z, z = p2 I945 h0 6 nw := ⟨_, rfl⟩
  rw [← eI947] at hP
  have hR : RS v I Q J I947 Q935 J := by rw [eI947]; exact hR.pi hC (by rw [hkq934]; decide)
  have hC : CT v L K N T I947 Q935 := by rw [eI947]; exact hC.pi (by rw [hkq934]; decide)
  have hD : va_D A (va_pl L (pF cy K N T I947 Q935 J)) := pD hDo
  refine W.widen (k := 1) (n := 60) (by omega) (by omega) ?_
  exact W.vret hx hb hr (fun t ht hW => ⟨⟨(L, K, T, I947, Q935, J), rfl, ⟨⟨hC, hR, hX⟩, hLq934, hkq934⟩, by rw [ht]; exact hP, va_K.moved hW.alike hK, hD⟩, hS.F ht⟩) hS.2.2 dX4_init_43
set_option maxHeartbeats 4000000 in
set_option maxRecDepth 100000 in
/-- Partition(mask, inStep, min, now) -/
theorem c_X2_init (l : Launch) (dC : Nat → ClassId) (dI : Nat → Nat → Nat) (cy : Nat → ClassId) (v : Nat → Nat) (L : List Nat) (K N : Nat → Nat) (T : Nat → Nat → Nat) (I : Nat → Nat → Int32) (Q : Nat → Nat → Option Nat) (J : Nat → Nat → Int32) (sz : Nat) (h0 : Nat) (mk st mn nw : Int32) (hC : CT v L K N T I Q) : Met l yX2_init wsX2_init ({ frames := 2, cells := 11, slots := 340, locals := 42 }) (va_Pc [.ref h0, .int mk, .int st, .int mn, .int nw] (pW1 dC dI cy (h0, .inr (2, [.int 0, .int 0, .null, .int 0, .int 0, .int 0])) L (pF cy K N T I Q J) sz)) (va_Qv (fun d : List Nat × (Nat → Nat) × (Nat → Nat → Nat) × (Nat → Nat → Int32) × (Nat → Nat → Option Nat) × (Nat → Nat → Int32) => (CT v d.1 d.2.1 N d.2.2.1 d.2.2.2.1 d.2.2.2.2.1 ∧ RS v I Q J d.2.2.2.1 d.2.2.2.2.1 d.2.2.2.2.2 ∧ PX L K N T d.1 d.2.1 N d.2.2.1) ∧ h0 ∈ d.1 ∧ d.2.1 h0 = 2) (fun (d : List Nat × (Nat → Nat) × (Nat → Nat → Nat) × (Nat → Nat → Int32) × (Nat → Nat → Option Nat) × (Nat → Nat → Int32)) t => va_P (dC, dI) vwCl (va_pl d.1 (pF cy d.2.1 N d.2.2.1 d.2.2.2.1 d.2.2.2.2.1 d.2.2.2.2.2)) t.heap ∧ va_K (dC, dI) vwCl (pTy cy) t ∧ va_D (va_A ((h0, .inr (2, [.int 0, .int 0, .null, .int 0, .int 0, .int 0])) :: va_pl L (pF cy K N T I Q J)) sz) (va_pl d.1 (pF cy d.2.1 N d.2.2.1 d.2.2.2.1 d.2.2.2.2.1 d.2.2.2.2.2))) (va_A ((h0, .inr (2, [.int 0, .int 0, .null, .int 0, .int 0, .int 0])) :: va_pl L (pF cy K N T I Q J)) sz)) 11 340 (va_A ((h0, .inr (2, [.int 0, .int 0, .null, .int 0, .int 0, .int 0])) :: va_pl L (pF cy K N T I Q J)) sz) := by
  refine Met.ofW (cc := cX2_init) (maxL := 6) (ret := none) (by decide) rfl ?_
  intro p e s m args below meth c s₁ B hml hv
  obtain ⟨rfl, hsz, ⟨hP, hK, hN⟩, hD0⟩ := hv
  have hx := B.exec
  have hb := B.bytes
  have hr := B.returns
  have hts := atoms_spec (ws := wsX2_init) B.pre
  have hown : s.vm.findClass RX2 = some m.cls := findClass_of_methodNamed B.named
  have hlocks := B.notSynchronized
  have hi2 : ∀ w ∈ wsX20, w ∈ wsX2_init := by decide +kernel
  have hi4 : ∀ w ∈ wsX40, w ∈ wsX2_init := by decide +kernel
  have hl := lv_entry ([.ref h0, .int mk, .int st, .int mn, .int nw]) (n := 6) (Nat.le_of_ble_eq_true rfl)
  rw [lg_entry_eq]
  generalize (lg_sl ([.ref h0, .int mk, .int st, .int mn, .int nw]) ++ List.replicate (6 - (lg_sl ([.ref h0, .int mk, .int st, .int mn, .int nw])).length) Slot.unset).toArray = ls at hl ⊢
  have hl : lv_has ls 6 [(0, .ref h0), (1, .int mk), (2, .int st), (3, .int mn), (4, .int nw)] := hl
  subst hsz
  have hD := hD0.self (sz := s.heap.size)
  generalize hAe : va_A ((h0, .inr (2, [.int 0, .int 0, .null, .int 0, .int 0, .int 0])) :: va_pl L (pF cy K N T I Q J)) s.heap.size = A at hD ⊢
  have hA : ∀ q : Nat, s.heap.size ≤ q → A q := fun q h => by rw [← hAe]; exact Or.inr h
  have hS : va_S A s.heap s.heap [] := va_S.rf
  have hR : RS v I Q J I Q J := RS.rf
  have hX : PX L K N T L K N T := PX.rf
  have hn28 := hN.1
  have hn30 := hN.2.1
  have hn37 := hN.2.2.1
  have hin : meth.name = "<init>" := (name_of_methodNamed B.named B.method).1
  refine lv_aload_n hx hb dX2_init_0 rfl (lv_at hl 0 rfl) ?_
  refine W.objInit hx hb hown (hts (.methodLink RX2 3 objectInit) (by decide +kernel)) (hts (.instanceMethod objectInit) (by decide +kernel)) (hts _ (List.mem_of_getElem? (i := 3) rfl)) rfl (by rw [hml]; exact hl.1) rfl dX2_init_1 (Nat.le_of_ble_eq_true rfl) (Nat.le_of_ble_eq_true rfl) ?_
  refine W.eq (g2 := F0 m 4 ls []) rfl ?_
  refine lv_aload_n hx hb dX2_init_4 rfl (lv_at hl 0 rfl) ?_
  refine lv_iconst (v := 5) hx hb dX2_init_5 (by decide) ?_
  refine va_newq (C := "TallyLogs$Replica") (n := 5) (N' := 5) hx hb hown (hts (.classLink RX2 9 RX4) (by decide +kernel)) hN.2.2.2.1 hK hP hD hS hA (by decide) (by decide) (by decide) (Nat.le_of_ble_eq_true rfl) (Nat.le_of_ble_eq_true rfl) dX2_init_6 (fun q948 cA H hKn hP hD hS => ?_)
  obtain rfl : cA = cy 12 := xk_sameQ hKn 6 5 rfl rfl
  refine W.widen (k := 1) (n := 5) (by omega) (by omega) ?_
  refine va_putF (D := (dC, dI)) (ci := 2) (v := .ref q948) (ty := (.array (.object "TallyLogs$Replica"))) (C := RX2) (T := TX2) (N := 6) hx hb hts hi2 tyX2 tyX2_ok nmX2 hown hK hP hD hS 0 rfl rfl 2 (by decide) (hts (.fieldLink RX2 11 "TallyLogs$Partition" "replicas" "[LTallyLogs$Replica;") (by decide +kernel)) (fun _ h9 => h9) rfl hin rfl (by decide +kernel) rfl rfl (Nat.le_of_ble_eq_true rfl) dX2_init_9 (fun H locs hP hD hS => ?_)
  have hP : va_P (dC, dI) vwCl ((h0, .inr (2, [.int 0, .int 0, .ref q948, .int 0, .int 0, .int 0])) :: va_pl L (pF cy K N T I Q J) ++ [(q948, .inl (cy 12, 5, .inr (.inr (.inr (.inr (fun _ => none))))))]) H := hP
  have hD : va_D A ((h0, .inr (2, [.int 0, .int 0, .ref q948, .int 0, .int 0, .int 0])) :: va_pl L (pF cy K N T I Q J) ++ [(q948, .inl (cy 12, 5, .inr (.inr (.inr (.inr (fun _ => none))))))]) := hD
  obtain ⟨L, K, T, I949, Q949, ⟨hP, hD, hC, hR⟩, hXe, hLq948, hkq948⟩ := pNew2 hC hR hP hD
  have hX := hX.trans hXe
  refine lv_aload_n hx hb dX2_init_12 rfl (lv_at hl 0 rfl) ?_
  refine lv_iconst (v := 0) hx hb dX2_init_13 (by decide) ?_
  obtain ⟨j950, hj950⟩ := pG_2 (cy := cy) (N := N) (T := T) (I := I949) (Q := Q949) (J := J) hLq948 hkq948
  have hDo := hD
  refine va_put (D := (dC, dI)) (ci := 2) (v := .int 0) (ty := .int) (C := RX2) (T := TX2) (N := 6) hx hb hts hi2 tyX2 tyX2_ok nmX2 hown hK hP hD hS j950 hj950 rfl 4 (by decide) (hts (.fieldLink RX2 17 "TallyLogs$Partition" "epoch" "I") (by decide +kernel)) (fun _ h9 => h9) rfl (by decide +kernel) rfl rfl (Nat.le_of_ble_eq_true rfl) dX2_init_14 (fun H locs hP hD hS => ?_)
  have hP := Eq.mp (congrArg (fun w => va_P (dC, dI) vwCl w H) (pP_2_4 (x := 0) hDo hLq948 hkq948 hj950)) hP
  obtain ⟨I951, eI951⟩ : ∃ z, z = p2 I949 h0 4 0 := ⟨_, rfl⟩
  rw [← eI951] at hP
  have hR : RS v I Q J I951 Q949 J := by rw [eI951]; exact hR.pi hC (by rw [hkq948]; decide)
  have hC : CT v L K N T I951 Q949 := by rw [eI951]; exact hC.pi (by rw [hkq948]; decide)
  have hD : va_D A (va_pl L (pF cy K N T I951 Q949 J)) := pD hDo
  refine lv_aload_n hx hb dX2_init_17 rfl (lv_at hl 0 rfl) ?_
  refine lv_iload_n hx hb dX2_init_18 rfl (lv_at hl 1 rfl) ?_
  obtain ⟨j952, hj952⟩ := pG_2 (cy := cy) (N := N) (T := T) (I := I951) (Q := Q949) (J := J) hLq948 hkq948
  have hDo := hD
  refine va_putF (D := (dC, dI)) (ci := 2) (v := .int mk) (ty := .int) (C := RX2) (T := TX2) (N := 6) hx hb hts hi2 tyX2 tyX2_ok nmX2 hown hK hP hD hS j952 hj952 rfl 0 (by decide) (hts (.fieldLink RX2 21 "TallyLogs$Partition" "mask" "I") (by decide +kernel)) (fun _ h9 => h9) rfl hin rfl (by decide +kernel) rfl rfl (Nat.le_of_ble_eq_true rfl) dX2_init_19 (fun H locs hP hD hS => ?_)
  have hP := Eq.mp (congrArg (fun w => va_P (dC, dI) vwCl w H) (pP_2_0 (x := mk) hDo hLq948 hkq948 hj952)) hP
  obtain ⟨I953, eI953⟩ : ∃ z, z = p2 I951 h0 0 mk := ⟨_, rfl⟩
  rw [← eI953] at hP
  have hR : RS v I Q J I953 Q949 J := by rw [eI953]; exact hR.pi hC (by rw [hkq948]; decide)
  have hC : CT v L K N T I953 Q949 := by rw [eI953]; exact hC.pi (by rw [hkq948]; decide)
  have hD : va_D A (va_pl L (pF cy K N T I953 Q949 J)) := pD hDo
  refine lv_aload_n hx hb dX2_init_22 rfl (lv_at hl 0 rfl) ?_
  refine lv_iload_n hx hb dX2_init_23 rfl (lv_at hl 3 rfl) ?_
  obtain ⟨j954, hj954⟩ := pG_2 (cy := cy) (N := N) (T := T) (I := I953) (Q := Q949) (J := J) hLq948 hkq948
  have hDo := hD
  refine va_putF (D := (dC, dI)) (ci := 2) (v := .int mn) (ty := .int) (C := RX2) (T := TX2) (N := 6) hx hb hts hi2 tyX2 tyX2_ok nmX2 hown hK hP hD hS j954 hj954 rfl 1 (by decide) (hts (.fieldLink RX2 24 "TallyLogs$Partition" "min" "I") (by decide +kernel)) (fun _ h9 => h9) rfl hin rfl (by decide +kernel) rfl rfl (Nat.le_of_ble_eq_true rfl) dX2_init_24 (fun H locs hP hD hS => ?_)
  have hP := Eq.mp (congrArg (fun w => va_P (dC, dI) vwCl w H) (pP_2_1 (x := mn) hDo hLq948 hkq948 hj954)) hP
  obtain ⟨I955, eI955⟩ : ∃ z, z = p2 I953 h0 1 mn := ⟨_, rfl⟩
  rw [← eI955] at hP
  have hR : RS v I Q J I955 Q949 J := by rw [eI955]; exact hR.pi hC (by rw [hkq948]; decide)
  have hC : CT v L K N T I955 Q949 := by rw [eI955]; exact hC.pi (by rw [hkq948]; decide)
  have hD : va_D A (va_pl L (pF cy K N T I955 Q949 J)) := pD hDo
  refine lv_aload_n hx hb dX2_init_27 rfl (lv_at hl 0 rfl) ?_
  refine lv_iload_n hx hb dX2_init_28 rfl (lv_at hl 2 rfl) ?_
  obtain ⟨j956, hj956⟩ := pG_2 (cy := cy) (N := N) (T := T) (I := I955) (Q := Q949) (J := J) hLq948 hkq948
  have hDo := hD
  refine va_put (D := (dC, dI)) (ci := 2) (v := .int st) (ty := .int) (C := RX2) (T := TX2) (N := 6) hx hb hts hi2 tyX2 tyX2_ok nmX2 hown hK hP hD hS j956 hj956 rfl 5 (by decide) (hts (.fieldLink RX2 27 "TallyLogs$Partition" "inStep" "I") (by decide +kernel)) (fun _ h9 => h9) rfl (by decide +kernel) rfl rfl (Nat.le_of_ble_eq_true rfl) dX2_init_29 (fun H locs hP hD hS => ?_)
  have hP := Eq.mp (congrArg (fun w => va_P (dC, dI) vwCl w H) (pP_2_5 (x := st) hDo hLq948 hkq948 hj956)) hP
  obtain ⟨I957, eI957⟩ : ∃ z, z = p2 I955 h0 5 st := ⟨_, rfl⟩
  rw [← eI957] at hP
  have hR : RS v I Q J I957 Q949 J := by rw [eI957]; exact hR.pi hC (by rw [hkq948]; decide)
  have hC : CT v L K N T I957 Q949 := by rw [eI957]; exact hC.pi (by rw [hkq948]; decide)
  have hD : va_D A (va_pl L (pF cy K N T I957 Q949 J)) := pD hDo
  refine lv_aload_n hx hb dX2_init_32 rfl (lv_at hl 0 rfl) ?_
  refine lv_iload_n hx hb dX2_init_33 rfl (lv_at hl 2 rfl) ?_
  refine vp_callSi (va_Run.run (va_runSN (As := [.int st]) (rest := [.ref h0]) ⟨hx, hb, hml, hown, hts⟩ (c_X5_leastOf l st) ⟨va_cnB 1 hts gX2_init_X5_leastOf_n30 rfl rfl rfl hn30 (hts (.initialized RX5) (by decide +kernel)) (by decide +kernel) ⟨Nat.le_of_ble_eq_true rfl, Nat.le_of_ble_eq_true rfl⟩, hts (.static yX5_leastOf) (by decide +kernel), trivial⟩ preEq rfl rfl hl.1 rfl (lv_room (Nat.le_of_ble_eq_true rfl)) dX2_init_34 ⟨Nat.le_of_ble_eq_true rfl, Nat.le_of_ble_eq_true rfl⟩)) (fun r958 hr958 => ?_)
  obtain ⟨j959, hj959⟩ := pG_2 (cy := cy) (N := N) (T := T) (I := I957) (Q := Q949) (J := J) hLq948 hkq948
  have hDo := hD
  refine va_put (D := (dC, dI)) (ci := 2) (v := .int r958) (ty := .int) (C := RX2) (T := TX2) (N := 6) hx hb hts hi2 tyX2 tyX2_ok nmX2 hown hK hP hD hS j959 hj959 rfl 3 (by decide) (hts (.fieldLink RX2 34 "TallyLogs$Partition" "leader" "I") (by decide +kernel)) (fun _ h9 => h9) rfl (by decide +kernel) rfl rfl (Nat.le_of_ble_eq_true rfl) dX2_init_37 (fun H locs hP hD hS => ?_)
  have hP := Eq.mp (congrArg (fun w => va_P (dC, dI) vwCl w H) (pP_2_3 (x := r958) hDo hLq948 hkq948 hj959)) hP
  obtain ⟨I960, eI960⟩ : ∃ z, z = p2 I957 h0 3 r958 := ⟨_, rfl⟩
  rw [← eI960] at hP
  have hR : RS v I Q J I960 Q949 J := by rw [eI960]; exact hR.pi hC (by rw [hkq948]; decide)
  have hC : CT v L K N T I960 Q949 := by rw [eI960]; exact hC.pi (by rw [hkq948]; decide)
  have hD : va_D A (va_pl L (pF cy K N T I960 Q949 J)) := pD hDo
  refine lv_iconst (v := 0) hx hb dX2_init_40 (by decide) ?_
  refine lv_istore (lv' := [(5, .int 0), (0, .ref h0), (1, .int mk), (2, .int st), (3, .int mn), (4, .int nw)]) hx hb dX2_init_41 hl (by decide) rfl (fun ls hl => ?_)
  refine wq_gen (fun Qz hQz => ?_)
  have hU961_5 : ∀ (Lz : List Nat) (Kz : Nat → Nat) (Tz : Nat → Nat → Nat) (Iz : Nat → Nat → Int32) (Qy : Nat → Nat → Option Nat) (Jz : Nat → Nat → Int32) (H : Heap) (locs : List Loc) (ls : Array Slot), CT v Lz Kz N Tz Iz Qy → RS v I Q J Iz Qy Jz → PX L K N T Lz Kz N Tz → va_P (dC, dI) vwCl (va_pl Lz (pF cy Kz N Tz Iz Qy Jz)) H → va_D A (va_pl Lz (pF cy Kz N Tz Iz Qy Jz)) → va_S A s.heap H locs → lv_has ls 6 [(5, .int 5), (0, .ref h0), (1, .int mk), (2, .int st), (3, .int mn), (4, .int nw)] → W p l e (headSpec wsX2_init ({ frames := 2, cells := 11, slots := 340, locals := 42 })).room s m ([.ref h0, .int mk, .int st, .int mn, .int nw] : List Value).toArray below meth c H locs 11 340 Qz (F0 m 43 ls []) := by
    intro L K T I962 Q962 J962 H locs ls hC hR hXe hP hD hS hl
    have hX := hX.trans hXe
    have hLz963 : h0 ∈ L := (hXe _ hLq948).1
    have hkz963 : K h0 = 2 := (hXe _ hLq948).2.1.trans hkq948
    have hXs := hXe
    refine lv_iload hx hb dX2_init_43 (lv_at hl 0 rfl) ?_
    refine lv_iconst (v := 5) hx hb dX2_init_45 (by decide) ?_
    refine lv_icmp_ge (tgt := 84) hx hb dX2_init_46 (by decide) (fun c964 => ?_) (fun c964 => ?_)
    rotate_left
    · exact absurd c964 (by decide)
    rw [hQz]
    refine W.widen (k := 11) (n := 340) (by omega) (by omega) ?_
    exact W.vret hx hb hr (fun t ht hW => ⟨⟨(L, K, T, I962, Q962, J962), rfl, ⟨⟨hC, hR, hX⟩, hLz963, hkz963⟩, by rw [ht]; exact hP, va_K.moved hW.alike hK, hD⟩, hS.F ht⟩) hS.2.2 dX2_init_84
  have hU961_4 : ∀ (Lz : List Nat) (Kz : Nat → Nat) (Tz : Nat → Nat → Nat) (Iz : Nat → Nat → Int32) (Qy : Nat → Nat → Option Nat) (Jz : Nat → Nat → Int32) (H : Heap) (locs : List Loc) (ls : Array Slot), CT v Lz Kz N Tz Iz Qy → RS v I Q J Iz Qy Jz → PX L K N T Lz Kz N Tz → va_P (dC, dI) vwCl (va_pl Lz (pF cy Kz N Tz Iz Qy Jz)) H → va_D A (va_pl Lz (pF cy Kz N Tz Iz Qy Jz)) → va_S A s.heap H locs → lv_has ls 6 [(5, .int 4), (0, .ref h0), (1, .int mk), (2, .int st), (3, .int mn), (4, .int nw)] → W p l e (headSpec wsX2_init ({ frames := 2, cells := 11, slots := 340, locals := 42 })).room s m ([.ref h0, .int mk, .int st, .int mn, .int nw] : List Value).toArray below meth c H locs 9 273 Qz (F0 m 43 ls []) := by
    intro L K T I965 Q965 J965 H locs ls hC hR hXe hP hD hS hl
    have hX := hX.trans hXe
    have hLz966 : h0 ∈ L := (hXe _ hLq948).1
    have hkz966 : K h0 = 2 := (hXe _ hLq948).2.1.trans hkq948
    have hXs := hXe
    refine lv_iload hx hb dX2_init_43 (lv_at hl 0 rfl) ?_
    refine lv_iconst (v := 5) hx hb dX2_init_45 (by decide) ?_
    refine lv_icmp_ge (tgt := 84) hx hb dX2_init_46 (by decide) (fun c967 => ?_) (fun c967 => ?_)
    · exact absurd c967 (by decide)
    refine lv_aload_n hx hb dX2_init_49 rfl (lv_at hl 1 rfl) ?_
    obtain ⟨j968, hj968⟩ := pG_2 (cy := cy) (N := N) (T := T) (I := I965) (Q := Q965) (J := J965) hLz966 hkz966
    refine va_get (D := (dC, dI)) (ci := 2) (v := .ref (T h0 2)) (C := RX2) (T := TX2) (N := 6) hx hb hts hi2 hown hK hP j968 hj968 rfl 2 (by decide) (hts (.fieldLink RX2 11 "TallyLogs$Partition" "replicas" "[LTallyLogs$Replica;") (by decide +kernel)) (fun _ h9 => h9) rfl dX2_init_50 ?_
    obtain ⟨t969, et969⟩ : ∃ t, t = T h0 2 := ⟨_, rfl⟩
    have hLt969 : t969 ∈ L := by rw [et969]; exact (hC.2.2.2.2.1 h0 hLz966 hkz966).1
    have hkt969 : K t969 = 12 := by rw [et969]; exact (hC.2.2.2.2.1 h0 hLz966 hkz966).2
    refine W.eq (g2 := F0 m 53 ls [.ref t969]) (by rw [et969]) ?_
    refine lv_iload hx hb dX2_init_53 (lv_at hl 0 rfl) ?_
    refine lv_iload_n hx hb dX2_init_55 rfl (lv_at hl 2 rfl) ?_
    refine lv_iload hx hb dX2_init_56 (lv_at hl 0 rfl) ?_
    refine vp_callSi (va_Run.run (va_runSN (As := [.int mk, .int 4]) (rest := [.int 4, .ref t969]) ⟨hx, hb, hml, hown, hts⟩ (c_X5_contains l mk 4) ⟨va_cnB 2 hts gX2_init_X5_contains_n37 rfl rfl rfl hn37 (hts (.initialized RX5) (by decide +kernel)) (by decide +kernel) ⟨Nat.le_of_ble_eq_true rfl, Nat.le_of_ble_eq_true rfl⟩, hts (.static yX5_contains) (by decide +kernel), trivial⟩ preEq rfl rfl hl.1 rfl (lv_room (Nat.le_of_ble_eq_true rfl)) dX2_init_58 ⟨Nat.le_of_ble_eq_true rfl, Nat.le_of_ble_eq_true rfl⟩)) (fun r970 hr970 => ?_)
    refine lv_if_eq (tgt := 76) hx hb dX2_init_61 (by decide) (fun c971 => ?_) (fun c971 => ?_)
    · refine lv_null hx hb dX2_init_76 ?_
      obtain ⟨j972, hj972⟩ := pG_12 (cy := cy) (N := N) (T := T) (I := I965) (Q := Q965) (J := J965) hLt969 hkt969
      have hDo := hD
      refine va_astqN hx hb hK hP hD hS j972 5 hj972 rfl (by unfold vp_in; decide) dX2_init_77 (fun H locs hP hD hS => ?_)
      have hP := Eq.mp (congrArg (fun w => va_P (dC, dI) vwCl w H) (pS_12 (x := none) hDo hLt969 hkt969 hj972)) hP
      obtain ⟨Q973, eQ973⟩ : ∃ z, z = p2 Q965 t969 ((4 : Int32).toNatClampNeg) none := ⟨_, rfl⟩
      rw [← eQ973] at hP
      have hR : RS v I Q J I965 Q973 J965 := by rw [eQ973]; exact hR.pq hC (by rw [hkt969]; decide)
      have hC : CT v L K N T I965 Q973 := by rw [eQ973]; exact hC.q12 hkt969 (fun b hb => by cases hb)
      have hD : va_D A (va_pl L (pF cy K N T I965 Q973 J965)) := pD hDo
      refine lv_iinc (v := 5) (lv' := [(5, .int 5), (0, .ref h0), (1, .int mk), (2, .int st), (3, .int mn), (4, .int nw)]) hx hb dX2_init_78 hl (k := 0) rfl (by decide) (by decide) rfl (fun ls hl => ?_)
      refine lv_goto (tgt := 43) hx hb dX2_init_81 (by decide) ?_
      refine W.widen (k := 11) (n := 340) (by omega) (by omega) ?_
      exact hU961_5 _ _ _ _ _ _ _ _ _ hC hR hXs hP hD hS (lv_sub hl [0, 1, 2, 3, 4, 5] rfl)
    · refine va_new (ci := 4) (fs := [.null, .int 0, .int 0, .int 0, .int 0, .int 0, .int 0]) (C := RX4) (T := TX4) (N := 7) hx hb hts hi4 tyX4 tyX4_ok hown (hts (.classLink RX2 9 RX4) (by decide +kernel)) (hts (.instantiable RX4 7) (by decide +kernel)) (hts (.initialized RX4) (by decide +kernel)) hK hP hD hS hA rfl (fun j hj => by rcases (show j = 0 ∨ j = 1 ∨ j = 2 ∨ j = 3 ∨ j = 4 ∨ j = 5 ∨ j = 6 by omega) with rfl | rfl | rfl | rfl | rfl | rfl | rfl <;> rfl) (Nat.le_of_ble_eq_true rfl) (Nat.le_of_ble_eq_true rfl) dX2_init_64 (fun q974 H hP hD hS => ?_)
      refine W.widen (k := 10) (n := 280) (by omega) (by omega) ?_
      have hP := va_P.swap (a := []) hP
      have hD := va_D.swap (a := []) hD
      have hP : va_P (dC, dI) vwCl ((q974, .inr (4, [.null, .int 0, .int 0, .int 0, .int 0, .int 0, .int 0])) :: va_pl L (pF cy K N T I965 Q965 J965)) H := hP
      have hD : va_D A ((q974, .inr (4, [.null, .int 0, .int 0, .int 0, .int 0, .int 0, .int 0])) :: va_pl L (pF cy K N T I965 Q965 J965)) := hD
      refine lv_dup hx hb dX2_init_67 rfl ?_
      refine lv_iload hx hb dX2_init_68 (lv_at hl 5 rfl) ?_
      have hFc := pfree hD hS hA
      refine va_callv (va_runI (As := [.int nw]) (rest := [.ref q974, .int 4, .ref t969]) ⟨hx, hb, hml, hown, hts⟩ (c_X4_init l dC dI cy v L K N T I965 Q965 J965 H.size q974 nw hC) (cwI 1 hts gX2_init_X4_init rfl rfl rfl (hts (.initialized RX4) (by decide +kernel)) (hts (.methodLink RX2 41 yX4_init) (by decide +kernel)) (hts (.instanceMethod yX4_init) (by decide +kernel)) rfl (by decide +kernel) ⟨Nat.le_of_ble_eq_true rfl, Nat.le_of_ble_eq_true rfl⟩) ⟨pw1_blind, fun U hU hW => ⟨rfl, pw1_pre hP hK hN hD hU hW⟩⟩ rfl rfl hl.1 rfl (lv_room (Nat.le_of_ble_eq_true rfl)) dX2_init_70 ⟨Nat.le_of_ble_eq_true rfl, Nat.le_of_ble_eq_true rfl⟩) hS (fun q _ h => hFc q h) hFc (fun d9 t H1 locs ht hvm hw hB hz1 hk1 hS => ?_)
      obtain ⟨L, K, T, I975, Q975, J975⟩ := d9
      obtain ⟨⟨hC, hR1, hXe⟩, hL975, hk975⟩ := hw
      obtain ⟨hP, hK1, hD1⟩ := hB
      rw [ht] at hP
      have hD := hD1.weaken (fun _ _ _ h => hFc _ h)
      have hR := hR.trans hR1
      generalize H1 = H at hP hS ⊢
      have hP : va_P (dC, dI) vwCl (va_pl L (pF cy K N T I975 Q975 J975)) H := hP
      have hD : va_D A (va_pl L (pF cy K N T I975 Q975 J975)) := hD
      have hC : CT v L K N T I975 Q975 := hC
      have hR : RS v I Q J I975 Q975 J975 := hR
      have hX := hX.trans hXe
      have hXs := hXs.trans hXe
      have hLz976 : h0 ∈ L := (hXe _ hLz966).1
      have hkz976 : K h0 = 2 := (hXe _ hLz966).2.1.trans hkz966
      have hLz977 : t969 ∈ L := (hXe _ hLt969).1
      have hkz977 : K t969 = 12 := (hXe _ hLt969).2.1.trans hkt969
      refine W.widen (k := 11) (n := 340) (by omega) (by omega) ?_
      refine lv_goto (tgt := 77) hx hb dX2_init_73 (by decide) ?_
      obtain ⟨j978, hj978⟩ := pG_12 (cy := cy) (N := N) (T := T) (I := I975) (Q := Q975) (J := J975) hLz977 hkz977
      have hDo := hD
      obtain ⟨j979, hj979⟩ := pG_4 (cy := cy) (N := N) (T := T) (I := I975) (Q := Q975) (J := J975) hL975 hk975
      refine va_astq hx hb hK hP hD hS j978 5 j979 4 hj978 rfl hj979 rfl (by unfold vp_in; decide) dX2_init_77 (fun H locs hP hD hS => ?_)
      have hP := Eq.mp (congrArg (fun w => va_P (dC, dI) vwCl w H) (pS_12 (x := (some q974)) hDo hLz977 hkz977 hj978)) hP
      obtain ⟨Q980, eQ980⟩ : ∃ z, z = p2 Q975 t969 ((4 : Int32).toNatClampNeg) (some q974) := ⟨_, rfl⟩
      rw [← eQ980] at hP
      have hR : RS v I Q J I975 Q980 J975 := by rw [eQ980]; exact hR.pq hC (by rw [hkz977]; decide)
      have hC : CT v L K N T I975 Q980 := by rw [eQ980]; exact hC.q12 hkz977 (fun b hb => by cases hb; exact ⟨hL975, hk975⟩)
      have hD : va_D A (va_pl L (pF cy K N T I975 Q980 J975)) := pD hDo
      refine lv_iinc (v := 5) (lv' := [(5, .int 5), (0, .ref h0), (1, .int mk), (2, .int st), (3, .int mn), (4, .int nw)]) hx hb dX2_init_78 hl (k := 0) rfl (by decide) (by decide) rfl (fun ls hl => ?_)
      refine lv_goto (tgt := 43) hx hb dX2_init_81 (by decide) ?_
      refine W.widen (k := 11) (n := 340) (by omega) (by omega) ?_
      exact hU961_5 _ _ _ _ _ _ _ _ _ hC hR hXs hP hD hS (lv_sub hl [0, 1, 2, 3, 4, 5] rfl)
  have hU961_3 : ∀ (Lz : List Nat) (Kz : Nat → Nat) (Tz : Nat → Nat → Nat) (Iz : Nat → Nat → Int32) (Qy : Nat → Nat → Option Nat) (Jz : Nat → Nat → Int32) (H : Heap) (locs : List Loc) (ls : Array Slot), CT v Lz Kz N Tz Iz Qy → RS v I Q J Iz Qy Jz → PX L K N T Lz Kz N Tz → va_P (dC, dI) vwCl (va_pl Lz (pF cy Kz N Tz Iz Qy Jz)) H → va_D A (va_pl Lz (pF cy Kz N Tz Iz Qy Jz)) → va_S A s.heap H locs → lv_has ls 6 [(5, .int 3), (0, .ref h0), (1, .int mk), (2, .int st), (3, .int mn), (4, .int nw)] → W p l e (headSpec wsX2_init ({ frames := 2, cells := 11, slots := 340, locals := 42 })).room s m ([.ref h0, .int mk, .int st, .int mn, .int nw] : List Value).toArray below meth c H locs 7 206 Qz (F0 m 43 ls []) := by
    intro L K T I981 Q981 J981 H locs ls hC hR hXe hP hD hS hl
    have hX := hX.trans hXe
    have hLz982 : h0 ∈ L := (hXe _ hLq948).1
    have hkz982 : K h0 = 2 := (hXe _ hLq948).2.1.trans hkq948
    have hXs := hXe
    refine lv_iload hx hb dX2_init_43 (lv_at hl 0 rfl) ?_
    refine lv_iconst (v := 5) hx hb dX2_init_45 (by decide) ?_
    refine lv_icmp_ge (tgt := 84) hx hb dX2_init_46 (by decide) (fun c983 => ?_) (fun c983 => ?_)
    · exact absurd c983 (by decide)
    refine lv_aload_n hx hb dX2_init_49 rfl (lv_at hl 1 rfl) ?_
    obtain ⟨j984, hj984⟩ := pG_2 (cy := cy) (N := N) (T := T) (I := I981) (Q := Q981) (J := J981) hLz982 hkz982
    refine va_get (D := (dC, dI)) (ci := 2) (v := .ref (T h0 2)) (C := RX2) (T := TX2) (N := 6) hx hb hts hi2 hown hK hP j984 hj984 rfl 2 (by decide) (hts (.fieldLink RX2 11 "TallyLogs$Partition" "replicas" "[LTallyLogs$Replica;") (by decide +kernel)) (fun _ h9 => h9) rfl dX2_init_50 ?_
    obtain ⟨t985, et985⟩ : ∃ t, t = T h0 2 := ⟨_, rfl⟩
    have hLt985 : t985 ∈ L := by rw [et985]; exact (hC.2.2.2.2.1 h0 hLz982 hkz982).1
    have hkt985 : K t985 = 12 := by rw [et985]; exact (hC.2.2.2.2.1 h0 hLz982 hkz982).2
    refine W.eq (g2 := F0 m 53 ls [.ref t985]) (by rw [et985]) ?_
    refine lv_iload hx hb dX2_init_53 (lv_at hl 0 rfl) ?_
    refine lv_iload_n hx hb dX2_init_55 rfl (lv_at hl 2 rfl) ?_
    refine lv_iload hx hb dX2_init_56 (lv_at hl 0 rfl) ?_
    refine vp_callSi (va_Run.run (va_runSN (As := [.int mk, .int 3]) (rest := [.int 3, .ref t985]) ⟨hx, hb, hml, hown, hts⟩ (c_X5_contains l mk 3) ⟨va_cnB 2 hts gX2_init_X5_contains_n37 rfl rfl rfl hn37 (hts (.initialized RX5) (by decide +kernel)) (by decide +kernel) ⟨Nat.le_of_ble_eq_true rfl, Nat.le_of_ble_eq_true rfl⟩, hts (.static yX5_contains) (by decide +kernel), trivial⟩ preEq rfl rfl hl.1 rfl (lv_room (Nat.le_of_ble_eq_true rfl)) dX2_init_58 ⟨Nat.le_of_ble_eq_true rfl, Nat.le_of_ble_eq_true rfl⟩)) (fun r986 hr986 => ?_)
    refine lv_if_eq (tgt := 76) hx hb dX2_init_61 (by decide) (fun c987 => ?_) (fun c987 => ?_)
    · refine lv_null hx hb dX2_init_76 ?_
      obtain ⟨j988, hj988⟩ := pG_12 (cy := cy) (N := N) (T := T) (I := I981) (Q := Q981) (J := J981) hLt985 hkt985
      have hDo := hD
      refine va_astqN hx hb hK hP hD hS j988 5 hj988 rfl (by unfold vp_in; decide) dX2_init_77 (fun H locs hP hD hS => ?_)
      have hP := Eq.mp (congrArg (fun w => va_P (dC, dI) vwCl w H) (pS_12 (x := none) hDo hLt985 hkt985 hj988)) hP
      obtain ⟨Q989, eQ989⟩ : ∃ z, z = p2 Q981 t985 ((3 : Int32).toNatClampNeg) none := ⟨_, rfl⟩
      rw [← eQ989] at hP
      have hR : RS v I Q J I981 Q989 J981 := by rw [eQ989]; exact hR.pq hC (by rw [hkt985]; decide)
      have hC : CT v L K N T I981 Q989 := by rw [eQ989]; exact hC.q12 hkt985 (fun b hb => by cases hb)
      have hD : va_D A (va_pl L (pF cy K N T I981 Q989 J981)) := pD hDo
      refine lv_iinc (v := 4) (lv' := [(5, .int 4), (0, .ref h0), (1, .int mk), (2, .int st), (3, .int mn), (4, .int nw)]) hx hb dX2_init_78 hl (k := 0) rfl (by decide) (by decide) rfl (fun ls hl => ?_)
      refine lv_goto (tgt := 43) hx hb dX2_init_81 (by decide) ?_
      refine W.widen (k := 9) (n := 273) (by omega) (by omega) ?_
      exact hU961_4 _ _ _ _ _ _ _ _ _ hC hR hXs hP hD hS (lv_sub hl [0, 1, 2, 3, 4, 5] rfl)
    · refine va_new (ci := 4) (fs := [.null, .int 0, .int 0, .int 0, .int 0, .int 0, .int 0]) (C := RX4) (T := TX4) (N := 7) hx hb hts hi4 tyX4 tyX4_ok hown (hts (.classLink RX2 9 RX4) (by decide +kernel)) (hts (.instantiable RX4 7) (by decide +kernel)) (hts (.initialized RX4) (by decide +kernel)) hK hP hD hS hA rfl (fun j hj => by rcases (show j = 0 ∨ j = 1 ∨ j = 2 ∨ j = 3 ∨ j = 4 ∨ j = 5 ∨ j = 6 by omega) with rfl | rfl | rfl | rfl | rfl | rfl | rfl <;> rfl) (Nat.le_of_ble_eq_true rfl) (Nat.le_of_ble_eq_true rfl) dX2_init_64 (fun q990 H hP hD hS => ?_)
      refine W.widen (k := 8) (n := 213) (by omega) (by omega) ?_
      have hP := va_P.swap (a := []) hP
      have hD := va_D.swap (a := []) hD
      have hP : va_P (dC, dI) vwCl ((q990, .inr (4, [.null, .int 0, .int 0, .int 0, .int 0, .int 0, .int 0])) :: va_pl L (pF cy K N T I981 Q981 J981)) H := hP
      have hD : va_D A ((q990, .inr (4, [.null, .int 0, .int 0, .int 0, .int 0, .int 0, .int 0])) :: va_pl L (pF cy K N T I981 Q981 J981)) := hD
      refine lv_dup hx hb dX2_init_67 rfl ?_
      refine lv_iload hx hb dX2_init_68 (lv_at hl 5 rfl) ?_
      have hFc := pfree hD hS hA
      refine va_callv (va_runI (As := [.int nw]) (rest := [.ref q990, .int 3, .ref t985]) ⟨hx, hb, hml, hown, hts⟩ (c_X4_init l dC dI cy v L K N T I981 Q981 J981 H.size q990 nw hC) (cwI 1 hts gX2_init_X4_init rfl rfl rfl (hts (.initialized RX4) (by decide +kernel)) (hts (.methodLink RX2 41 yX4_init) (by decide +kernel)) (hts (.instanceMethod yX4_init) (by decide +kernel)) rfl (by decide +kernel) ⟨Nat.le_of_ble_eq_true rfl, Nat.le_of_ble_eq_true rfl⟩) ⟨pw1_blind, fun U hU hW => ⟨rfl, pw1_pre hP hK hN hD hU hW⟩⟩ rfl rfl hl.1 rfl (lv_room (Nat.le_of_ble_eq_true rfl)) dX2_init_70 ⟨Nat.le_of_ble_eq_true rfl, Nat.le_of_ble_eq_true rfl⟩) hS (fun q _ h => hFc q h) hFc (fun d9 t H1 locs ht hvm hw hB hz1 hk1 hS => ?_)
      obtain ⟨L, K, T, I991, Q991, J991⟩ := d9
      obtain ⟨⟨hC, hR1, hXe⟩, hL991, hk991⟩ := hw
      obtain ⟨hP, hK1, hD1⟩ := hB
      rw [ht] at hP
      have hD := hD1.weaken (fun _ _ _ h => hFc _ h)
      have hR := hR.trans hR1
      generalize H1 = H at hP hS ⊢
      have hP : va_P (dC, dI) vwCl (va_pl L (pF cy K N T I991 Q991 J991)) H := hP
      have hD : va_D A (va_pl L (pF cy K N T I991 Q991 J991)) := hD
      have hC : CT v L K N T I991 Q991 := hC
      have hR : RS v I Q J I991 Q991 J991 := hR
      have hX := hX.trans hXe
      have hXs := hXs.trans hXe
      have hLz992 : h0 ∈ L := (hXe _ hLz982).1
      have hkz992 : K h0 = 2 := (hXe _ hLz982).2.1.trans hkz982
      have hLz993 : t985 ∈ L := (hXe _ hLt985).1
      have hkz993 : K t985 = 12 := (hXe _ hLt985).2.1.trans hkt985
      refine W.widen (k := 9) (n := 273) (by omega) (by omega) ?_
      refine lv_goto (tgt := 77) hx hb dX2_init_73 (by decide) ?_
      obtain ⟨j994, hj994⟩ := pG_12 (cy := cy) (N := N) (T := T) (I := I991) (Q := Q991) (J := J991) hLz993 hkz993
      have hDo := hD
      obtain ⟨j995, hj995⟩ := pG_4 (cy := cy) (N := N) (T := T) (I := I991) (Q := Q991) (J := J991) hL991 hk991
      refine va_astq hx hb hK hP hD hS j994 5 j995 4 hj994 rfl hj995 rfl (by unfold vp_in; decide) dX2_init_77 (fun H locs hP hD hS => ?_)
      have hP := Eq.mp (congrArg (fun w => va_P (dC, dI) vwCl w H) (pS_12 (x := (some q990)) hDo hLz993 hkz993 hj994)) hP
      obtain ⟨Q996, eQ996⟩ : ∃ z, z = p2 Q991 t985 ((3 : Int32).toNatClampNeg) (some q990) := ⟨_, rfl⟩
      rw [← eQ996] at hP
      have hR : RS v I Q J I991 Q996 J991 := by rw [eQ996]; exact hR.pq hC (by rw [hkz993]; decide)
      have hC : CT v L K N T I991 Q996 := by rw [eQ996]; exact hC.q12 hkz993 (fun b hb => by cases hb; exact ⟨hL991, hk991⟩)
      have hD : va_D A (va_pl L (pF cy K N T I991 Q996 J991)) := pD hDo
      refine lv_iinc (v := 4) (lv' := [(5, .int 4), (0, .ref h0), (1, .int mk), (2, .int st), (3, .int mn), (4, .int nw)]) hx hb dX2_init_78 hl (k := 0) rfl (by decide) (by decide) rfl (fun ls hl => ?_)
      refine lv_goto (tgt := 43) hx hb dX2_init_81 (by decide) ?_
      refine W.widen (k := 9) (n := 273) (by omega) (by omega) ?_
      exact hU961_4 _ _ _ _ _ _ _ _ _ hC hR hXs hP hD hS (lv_sub hl [0, 1, 2, 3, 4, 5] rfl)
  have hU961_2 : ∀ (Lz : List Nat) (Kz : Nat → Nat) (Tz : Nat → Nat → Nat) (Iz : Nat → Nat → Int32) (Qy : Nat → Nat → Option Nat) (Jz : Nat → Nat → Int32) (H : Heap) (locs : List Loc) (ls : Array Slot), CT v Lz Kz N Tz Iz Qy → RS v I Q J Iz Qy Jz → PX L K N T Lz Kz N Tz → va_P (dC, dI) vwCl (va_pl Lz (pF cy Kz N Tz Iz Qy Jz)) H → va_D A (va_pl Lz (pF cy Kz N Tz Iz Qy Jz)) → va_S A s.heap H locs → lv_has ls 6 [(5, .int 2), (0, .ref h0), (1, .int mk), (2, .int st), (3, .int mn), (4, .int nw)] → W p l e (headSpec wsX2_init ({ frames := 2, cells := 11, slots := 340, locals := 42 })).room s m ([.ref h0, .int mk, .int st, .int mn, .int nw] : List Value).toArray below meth c H locs 5 139 Qz (F0 m 43 ls []) := by
    intro L K T I997 Q997 J997 H locs ls hC hR hXe hP hD hS hl
    have hX := hX.trans hXe
    have hLz998 : h0 ∈ L := (hXe _ hLq948).1
    have hkz998 : K h0 = 2 := (hXe _ hLq948).2.1.trans hkq948
    have hXs := hXe
    refine lv_iload hx hb dX2_init_43 (lv_at hl 0 rfl) ?_
    refine lv_iconst (v := 5) hx hb dX2_init_45 (by decide) ?_
    refine lv_icmp_ge (tgt := 84) hx hb dX2_init_46 (by decide) (fun c999 => ?_) (fun c999 => ?_)
    · exact absurd c999 (by decide)
    refine lv_aload_n hx hb dX2_init_49 rfl (lv_at hl 1 rfl) ?_
    obtain ⟨j1000, hj1000⟩ := pG_2 (cy := cy) (N := N) (T := T) (I := I997) (Q := Q997) (J := J997) hLz998 hkz998
    refine va_get (D := (dC, dI)) (ci := 2) (v := .ref (T h0 2)) (C := RX2) (T := TX2) (N := 6) hx hb hts hi2 hown hK hP j1000 hj1000 rfl 2 (by decide) (hts (.fieldLink RX2 11 "TallyLogs$Partition" "replicas" "[LTallyLogs$Replica;") (by decide +kernel)) (fun _ h9 => h9) rfl dX2_init_50 ?_
    obtain ⟨t1001, et1001⟩ : ∃ t, t = T h0 2 := ⟨_, rfl⟩
    have hLt1001 : t1001 ∈ L := by rw [et1001]; exact (hC.2.2.2.2.1 h0 hLz998 hkz998).1
    have hkt1001 : K t1001 = 12 := by rw [et1001]; exact (hC.2.2.2.2.1 h0 hLz998 hkz998).2
    refine W.eq (g2 := F0 m 53 ls [.ref t1001]) (by rw [et1001]) ?_
    refine lv_iload hx hb dX2_init_53 (lv_at hl 0 rfl) ?_
    refine lv_iload_n hx hb dX2_init_55 rfl (lv_at hl 2 rfl) ?_
    refine lv_iload hx hb dX2_init_56 (lv_at hl 0 rfl) ?_
    refine vp_callSi (va_Run.run (va_runSN (As := [.int mk, .int 2]) (rest := [.int 2, .ref t1001]) ⟨hx, hb, hml, hown, hts⟩ (c_X5_contains l mk 2) ⟨va_cnB 2 hts gX2_init_X5_contains_n37 rfl rfl rfl hn37 (hts (.initialized RX5) (by decide +kernel)) (by decide +kernel) ⟨Nat.le_of_ble_eq_true rfl, Nat.le_of_ble_eq_true rfl⟩, hts (.static yX5_contains) (by decide +kernel), trivial⟩ preEq rfl rfl hl.1 rfl (lv_room (Nat.le_of_ble_eq_true rfl)) dX2_init_58 ⟨Nat.le_of_ble_eq_true rfl, Nat.le_of_ble_eq_true rfl⟩)) (fun r1002 hr1002 => ?_)
    refine lv_if_eq (tgt := 76) hx hb dX2_init_61 (by decide) (fun c1003 => ?_) (fun c1003 => ?_)
    · refine lv_null hx hb dX2_init_76 ?_
      obtain ⟨j1004, hj1004⟩ := pG_12 (cy := cy) (N := N) (T := T) (I := I997) (Q := Q997) (J := J997) hLt1001 hkt1001
      have hDo := hD
      refine va_astqN hx hb hK hP hD hS j1004 5 hj1004 rfl (by unfold vp_in; decide) dX2_init_77 (fun H locs hP hD hS => ?_)
      have hP := Eq.mp (congrArg (fun w => va_P (dC, dI) vwCl w H) (pS_12 (x := none) hDo hLt1001 hkt1001 hj1004)) hP
      obtain ⟨Q1005, eQ1005⟩ : ∃ z, z = p2 Q997 t1001 ((2 : Int32).toNatClampNeg) none := ⟨_, rfl⟩
      rw [← eQ1005] at hP
      have hR : RS v I Q J I997 Q1005 J997 := by rw [eQ1005]; exact hR.pq hC (by rw [hkt1001]; decide)
      have hC : CT v L K N T I997 Q1005 := by rw [eQ1005]; exact hC.q12 hkt1001 (fun b hb => by cases hb)
      have hD : va_D A (va_pl L (pF cy K N T I997 Q1005 J997)) := pD hDo
      refine lv_iinc (v := 3) (lv' := [(5, .int 3), (0, .ref h0), (1, .int mk), (2, .int st), (3, .int mn), (4, .int nw)]) hx hb dX2_init_78 hl (k := 0) rfl (by decide) (by decide) rfl (fun ls hl => ?_)
      refine lv_goto (tgt := 43) hx hb dX2_init_81 (by decide) ?_
      refine W.widen (k := 7) (n := 206) (by omega) (by omega) ?_
      exact hU961_3 _ _ _ _ _ _ _ _ _ hC hR hXs hP hD hS (lv_sub hl [0, 1, 2, 3, 4, 5] rfl)
    · refine va_new (ci := 4) (fs := [.null, .int 0, .int 0, .int 0, .int 0, .int 0, .int 0]) (C := RX4) (T := TX4) (N := 7) hx hb hts hi4 tyX4 tyX4_ok hown (hts (.classLink RX2 9 RX4) (by decide +kernel)) (hts (.instantiable RX4 7) (by decide +kernel)) (hts (.initialized RX4) (by decide +kernel)) hK hP hD hS hA rfl (fun j hj => by rcases (show j = 0 ∨ j = 1 ∨ j = 2 ∨ j = 3 ∨ j = 4 ∨ j = 5 ∨ j = 6 by omega) with rfl | rfl | rfl | rfl | rfl | rfl | rfl <;> rfl) (Nat.le_of_ble_eq_true rfl) (Nat.le_of_ble_eq_true rfl) dX2_init_64 (fun q1006 H hP hD hS => ?_)
      refine W.widen (k := 6) (n := 146) (by omega) (by omega) ?_
      have hP := va_P.swap (a := []) hP
      have hD := va_D.swap (a := []) hD
      have hP : va_P (dC, dI) vwCl ((q1006, .inr (4, [.null, .int 0, .int 0, .int 0, .int 0, .int 0, .int 0])) :: va_pl L (pF cy K N T I997 Q997 J997)) H := hP
      have hD : va_D A ((q1006, .inr (4, [.null, .int 0, .int 0, .int 0, .int 0, .int 0, .int 0])) :: va_pl L (pF cy K N T I997 Q997 J997)) := hD
      refine lv_dup hx hb dX2_init_67 rfl ?_
      refine lv_iload hx hb dX2_init_68 (lv_at hl 5 rfl) ?_
      have hFc := pfree hD hS hA
      refine va_callv (va_runI (As := [.int nw]) (rest := [.ref q1006, .int 2, .ref t1001]) ⟨hx, hb, hml, hown, hts⟩ (c_X4_init l dC dI cy v L K N T I997 Q997 J997 H.size q1006 nw hC) (cwI 1 hts gX2_init_X4_init rfl rfl rfl (hts (.initialized RX4) (by decide +kernel)) (hts (.methodLink RX2 41 yX4_init) (by decide +kernel)) (hts (.instanceMethod yX4_init) (by decide +kernel)) rfl (by decide +kernel) ⟨Nat.le_of_ble_eq_true rfl, Nat.le_of_ble_eq_true rfl⟩) ⟨pw1_blind, fun U hU hW => ⟨rfl, pw1_pre hP hK hN hD hU hW⟩⟩ rfl rfl hl.1 rfl (lv_room (Nat.le_of_ble_eq_true rfl)) dX2_init_70 ⟨Nat.le_of_ble_eq_true rfl, Nat.le_of_ble_eq_true rfl⟩) hS (fun q _ h => hFc q h) hFc (fun d9 t H1 locs ht hvm hw hB hz1 hk1 hS => ?_)
      obtain ⟨L, K, T, I1007, Q1007, J1007⟩ := d9
      obtain ⟨⟨hC, hR1, hXe⟩, hL1007, hk1007⟩ := hw
      obtain ⟨hP, hK1, hD1⟩ := hB
      rw [ht] at hP
      have hD := hD1.weaken (fun _ _ _ h => hFc _ h)
      have hR := hR.trans hR1
      generalize H1 = H at hP hS ⊢
      have hP : va_P (dC, dI) vwCl (va_pl L (pF cy K N T I1007 Q1007 J1007)) H := hP
      have hD : va_D A (va_pl L (pF cy K N T I1007 Q1007 J1007)) := hD
      have hC : CT v L K N T I1007 Q1007 := hC
      have hR : RS v I Q J I1007 Q1007 J1007 := hR
      have hX := hX.trans hXe
      have hXs := hXs.trans hXe
      have hLz1008 : h0 ∈ L := (hXe _ hLz998).1
      have hkz1008 : K h0 = 2 := (hXe _ hLz998).2.1.trans hkz998
      have hLz1009 : t1001 ∈ L := (hXe _ hLt1001).1
      have hkz1009 : K t1001 = 12 := (hXe _ hLt1001).2.1.trans hkt1001
      refine W.widen (k := 7) (n := 206) (by omega) (by omega) ?_
      refine lv_goto (tgt := 77) hx hb dX2_init_73 (by decide) ?_
      obtain ⟨j1010, hj1010⟩ := pG_12 (cy := cy) (N := N) (T := T) (I := I1007) (Q := Q1007) (J := J1007) hLz1009 hkz1009
      have hDo := hD
      obtain ⟨j1011, hj1011⟩ := pG_4 (cy := cy) (N := N) (T := T) (I := I1007) (Q := Q1007) (J := J1007) hL1007 hk1007
      refine va_astq hx hb hK hP hD hS j1010 5 j1011 4 hj1010 rfl hj1011 rfl (by unfold vp_in; decide) dX2_init_77 (fun H locs hP hD hS => ?_)
      have hP := Eq.mp (congrArg (fun w => va_P (dC, dI) vwCl w H) (pS_12 (x := (some q1006)) hDo hLz1009 hkz1009 hj1010)) hP
      obtain ⟨Q1012, eQ1012⟩ : ∃ z, z = p2 Q1007 t1001 ((2 : Int32).toNatClampNeg) (some q1006) := ⟨_, rfl⟩
      rw [← eQ1012] at hP
      have hR : RS v I Q J I1007 Q1012 J1007 := by rw [eQ1012]; exact hR.pq hC (by rw [hkz1009]; decide)
      have hC : CT v L K N T I1007 Q1012 := by rw [eQ1012]; exact hC.q12 hkz1009 (fun b hb => by cases hb; exact ⟨hL1007, hk1007⟩)
      have hD : va_D A (va_pl L (pF cy K N T I1007 Q1012 J1007)) := pD hDo
      refine lv_iinc (v := 3) (lv' := [(5, .int 3), (0, .ref h0), (1, .int mk), (2, .int st), (3, .int mn), (4, .int nw)]) hx hb dX2_init_78 hl (k := 0) rfl (by decide) (by decide) rfl (fun ls hl => ?_)
      refine lv_goto (tgt := 43) hx hb dX2_init_81 (by decide) ?_
      refine W.widen (k := 7) (n := 206) (by omega) (by omega) ?_
      exact hU961_3 _ _ _ _ _ _ _ _ _ hC hR hXs hP hD hS (lv_sub hl [0, 1, 2, 3, 4, 5] rfl)
  have hU961_1 : ∀ (Lz : List Nat) (Kz : Nat → Nat) (Tz : Nat → Nat → Nat) (Iz : Nat → Nat → Int32) (Qy : Nat → Nat → Option Nat) (Jz : Nat → Nat → Int32) (H : Heap) (locs : List Loc) (ls : Array Slot), CT v Lz Kz N Tz Iz Qy → RS v I Q J Iz Qy Jz → PX L K N T Lz Kz N Tz → va_P (dC, dI) vwCl (va_pl Lz (pF cy Kz N Tz Iz Qy Jz)) H → va_D A (va_pl Lz (pF cy Kz N Tz Iz Qy Jz)) → va_S A s.heap H locs → lv_has ls 6 [(5, .int 1), (0, .ref h0), (1, .int mk), (2, .int st), (3, .int mn), (4, .int nw)] → W p l e (headSpec wsX2_init ({ frames := 2, cells := 11, slots := 340, locals := 42 })).room s m ([.ref h0, .int mk, .int st, .int mn, .int nw] : List Value).toArray below meth c H locs 3 72 Qz (F0 m 43 ls []) := by
    intro L K T I1013 Q1013 J1013 H locs ls hC hR hXe hP hD hS hl
    have hX := hX.trans hXe
    have hLz1014 : h0 ∈ L := (hXe _ hLq948).1
    have hkz1014 : K h0 = 2 := (hXe _ hLq948).2.1.trans hkq948
    have hXs := hXe
    refine lv_iload hx hb dX2_init_43 (lv_at hl 0 rfl) ?_
    refine lv_iconst (v := 5) hx hb dX2_init_45 (by decide) ?_
    refine lv_icmp_ge (tgt := 84) hx hb dX2_init_46 (by decide) (fun c1015 => ?_) (fun c1015 => ?_)
    · exact absurd c1015 (by decide)
    refine lv_aload_n hx hb dX2_init_49 rfl (lv_at hl 1 rfl) ?_
    obtain ⟨j1016, hj1016⟩ := pG_2 (cy := cy) (N := N) (T := T) (I := I1013) (Q := Q1013) (J := J1013) hLz1014 hkz1014
    refine va_get (D := (dC, dI)) (ci := 2) (v := .ref (T h0 2)) (C := RX2) (T := TX2) (N := 6) hx hb hts hi2 hown hK hP j1016 hj1016 rfl 2 (by decide) (hts (.fieldLink RX2 11 "TallyLogs$Partition" "replicas" "[LTallyLogs$Replica;") (by decide +kernel)) (fun _ h9 => h9) rfl dX2_init_50 ?_
    obtain ⟨t1017, et1017⟩ : ∃ t, t = T h0 2 := ⟨_, rfl⟩
    have hLt1017 : t1017 ∈ L := by rw [et1017]; exact (hC.2.2.2.2.1 h0 hLz1014 hkz1014).1
    have hkt1017 : K t1017 = 12 := by rw [et1017]; exact (hC.2.2.2.2.1 h0 hLz1014 hkz1014).2
    refine W.eq (g2 := F0 m 53 ls [.ref t1017]) (by rw [et1017]) ?_
    refine lv_iload hx hb dX2_init_53 (lv_at hl 0 rfl) ?_
    refine lv_iload_n hx hb dX2_init_55 rfl (lv_at hl 2 rfl) ?_
    refine lv_iload hx hb dX2_init_56 (lv_at hl 0 rfl) ?_
    refine vp_callSi (va_Run.run (va_runSN (As := [.int mk, .int 1]) (rest := [.int 1, .ref t1017]) ⟨hx, hb, hml, hown, hts⟩ (c_X5_contains l mk 1) ⟨va_cnB 2 hts gX2_init_X5_contains_n37 rfl rfl rfl hn37 (hts (.initialized RX5) (by decide +kernel)) (by decide +kernel) ⟨Nat.le_of_ble_eq_true rfl, Nat.le_of_ble_eq_true rfl⟩, hts (.static yX5_contains) (by decide +kernel), trivial⟩ preEq rfl rfl hl.1 rfl (lv_room (Nat.le_of_ble_eq_true rfl)) dX2_init_58 ⟨Nat.le_of_ble_eq_true rfl, Nat.le_of_ble_eq_true rfl⟩)) (fun r1018 hr1018 => ?_)
    refine lv_if_eq (tgt := 76) hx hb dX2_init_61 (by decide) (fun c1019 => ?_) (fun c1019 => ?_)
    · refine lv_null hx hb dX2_init_76 ?_
      obtain ⟨j1020, hj1020⟩ := pG_12 (cy := cy) (N := N) (T := T) (I := I1013) (Q := Q1013) (J := J1013) hLt1017 hkt1017
      have hDo := hD
      refine va_astqN hx hb hK hP hD hS j1020 5 hj1020 rfl (by unfold vp_in; decide) dX2_init_77 (fun H locs hP hD hS => ?_)
      have hP := Eq.mp (congrArg (fun w => va_P (dC, dI) vwCl w H) (pS_12 (x := none) hDo hLt1017 hkt1017 hj1020)) hP
      obtain ⟨Q1021, eQ1021⟩ : ∃ z, z = p2 Q1013 t1017 ((1 : Int32).toNatClampNeg) none := ⟨_, rfl⟩
      rw [← eQ1021] at hP
      have hR : RS v I Q J I1013 Q1021 J1013 := by rw [eQ1021]; exact hR.pq hC (by rw [hkt1017]; decide)
      have hC : CT v L K N T I1013 Q1021 := by rw [eQ1021]; exact hC.q12 hkt1017 (fun b hb => by cases hb)
      have hD : va_D A (va_pl L (pF cy K N T I1013 Q1021 J1013)) := pD hDo
      refine lv_iinc (v := 2) (lv' := [(5, .int 2), (0, .ref h0), (1, .int mk), (2, .int st), (3, .int mn), (4, .int nw)]) hx hb dX2_init_78 hl (k := 0) rfl (by decide) (by decide) rfl (fun ls hl => ?_)
      refine lv_goto (tgt := 43) hx hb dX2_init_81 (by decide) ?_
      refine W.widen (k := 5) (n := 139) (by omega) (by omega) ?_
      exact hU961_2 _ _ _ _ _ _ _ _ _ hC hR hXs hP hD hS (lv_sub hl [0, 1, 2, 3, 4, 5] rfl)
    · refine va_new (ci := 4) (fs := [.null, .int 0, .int 0, .int 0, .int 0, .int 0, .int 0]) (C := RX4) (T := TX4) (N := 7) hx hb hts hi4 tyX4 tyX4_ok hown (hts (.classLink RX2 9 RX4) (by decide +kernel)) (hts (.instantiable RX4 7) (by decide +kernel)) (hts (.initialized RX4) (by decide +kernel)) hK hP hD hS hA rfl (fun j hj => by rcases (show j = 0 ∨ j = 1 ∨ j = 2 ∨ j = 3 ∨ j = 4 ∨ j = 5 ∨ j = 6 by omega) with rfl | rfl | rfl | rfl | rfl | rfl | rfl <;> rfl) (Nat.le_of_ble_eq_true rfl) (Nat.le_of_ble_eq_true rfl) dX2_init_64 (fun q1022 H hP hD hS => ?_)
      refine W.widen (k := 4) (n := 79) (by omega) (by omega) ?_
      have hP := va_P.swap (a := []) hP
      have hD := va_D.swap (a := []) hD
      have hP : va_P (dC, dI) vwCl ((q1022, .inr (4, [.null, .int 0, .int 0, .int 0, .int 0, .int 0, .int 0])) :: va_pl L (pF cy K N T I1013 Q1013 J1013)) H := hP
      have hD : va_D A ((q1022, .inr (4, [.null, .int 0, .int 0, .int 0, .int 0, .int 0, .int 0])) :: va_pl L (pF cy K N T I1013 Q1013 J1013)) := hD
      refine lv_dup hx hb dX2_init_67 rfl ?_
      refine lv_iload hx hb dX2_init_68 (lv_at hl 5 rfl) ?_
      have hFc := pfree hD hS hA
      refine va_callv (va_runI (As := [.int nw]) (rest := [.ref q1022, .int 1, .ref t1017]) ⟨hx, hb, hml, hown, hts⟩ (c_X4_init l dC dI cy v L K N T I1013 Q1013 J1013 H.size q1022 nw hC) (cwI 1 hts gX2_init_X4_init rfl rfl rfl (hts (.initialized RX4) (by decide +kernel)) (hts (.methodLink RX2 41 yX4_init) (by decide +kernel)) (hts (.instanceMethod yX4_init) (by decide +kernel)) rfl (by decide +kernel) ⟨Nat.le_of_ble_eq_true rfl, Nat.le_of_ble_eq_true rfl⟩) ⟨pw1_blind, fun U hU hW => ⟨rfl, pw1_pre hP hK hN hD hU hW⟩⟩ rfl rfl hl.1 rfl (lv_room (Nat.le_of_ble_eq_true rfl)) dX2_init_70 ⟨Nat.le_of_ble_eq_true rfl, Nat.le_of_ble_eq_true rfl⟩) hS (fun q _ h => hFc q h) hFc (fun d9 t H1 locs ht hvm hw hB hz1 hk1 hS => ?_)
      obtain ⟨L, K, T, I1023, Q1023, J1023⟩ := d9
      obtain ⟨⟨hC, hR1, hXe⟩, hL1023, hk1023⟩ := hw
      obtain ⟨hP, hK1, hD1⟩ := hB
      rw [ht] at hP
      have hD := hD1.weaken (fun _ _ _ h => hFc _ h)
      have hR := hR.trans hR1
      generalize H1 = H at hP hS ⊢
      have hP : va_P (dC, dI) vwCl (va_pl L (pF cy K N T I1023 Q1023 J1023)) H := hP
      have hD : va_D A (va_pl L (pF cy K N T I1023 Q1023 J1023)) := hD
      have hC : CT v L K N T I1023 Q1023 := hC
      have hR : RS v I Q J I1023 Q1023 J1023 := hR
      have hX := hX.trans hXe
      have hXs := hXs.trans hXe
      have hLz1024 : h0 ∈ L := (hXe _ hLz1014).1
      have hkz1024 : K h0 = 2 := (hXe _ hLz1014).2.1.trans hkz1014
      have hLz1025 : t1017 ∈ L := (hXe _ hLt1017).1
      have hkz1025 : K t1017 = 12 := (hXe _ hLt1017).2.1.trans hkt1017
      refine W.widen (k := 5) (n := 139) (by omega) (by omega) ?_
      refine lv_goto (tgt := 77) hx hb dX2_init_73 (by decide) ?_
      obtain ⟨j1026, hj1026⟩ := pG_12 (cy := cy) (N := N) (T := T) (I := I1023) (Q := Q1023) (J := J1023) hLz1025 hkz1025
      have hDo := hD
      obtain ⟨j1027, hj1027⟩ := pG_4 (cy := cy) (N := N) (T := T) (I := I1023) (Q := Q1023) (J := J1023) hL1023 hk1023
      refine va_astq hx hb hK hP hD hS j1026 5 j1027 4 hj1026 rfl hj1027 rfl (by unfold vp_in; decide) dX2_init_77 (fun H locs hP hD hS => ?_)
      have hP := Eq.mp (congrArg (fun w => va_P (dC, dI) vwCl w H) (pS_12 (x := (some q1022)) hDo hLz1025 hkz1025 hj1026)) hP
      obtain ⟨Q1028, eQ1028⟩ : ∃ z, z = p2 Q1023 t1017 ((1 : Int32).toNatClampNeg) (some q1022) := ⟨_, rfl⟩
      rw [← eQ1028] at hP
      have hR : RS v I Q J I1023 Q1028 J1023 := by rw [eQ1028]; exact hR.pq hC (by rw [hkz1025]; decide)
      have hC : CT v L K N T I1023 Q1028 := by rw [eQ1028]; exact hC.q12 hkz1025 (fun b hb => by cases hb; exact ⟨hL1023, hk1023⟩)
      have hD : va_D A (va_pl L (pF cy K N T I1023 Q1028 J1023)) := pD hDo
      refine lv_iinc (v := 2) (lv' := [(5, .int 2), (0, .ref h0), (1, .int mk), (2, .int st), (3, .int mn), (4, .int nw)]) hx hb dX2_init_78 hl (k := 0) rfl (by decide) (by decide) rfl (fun ls hl => ?_)
      refine lv_goto (tgt := 43) hx hb dX2_init_81 (by decide) ?_
      refine W.widen (k := 5) (n := 139) (by omega) (by omega) ?_
      exact hU961_2 _ _ _ _ _ _ _ _ _ hC hR hXs hP hD hS (lv_sub hl [0, 1, 2, 3, 4, 5] rfl)
  have hU961_0 : ∀ (Lz : List Nat) (Kz : Nat → Nat) (Tz : Nat → Nat → Nat) (Iz : Nat → Nat → Int32) (Qy : Nat → Nat → Option Nat) (Jz : Nat → Nat → Int32) (H : Heap) (locs : List Loc) (ls : Array Slot), CT v Lz Kz N Tz Iz Qy → RS v I Q J Iz Qy Jz → PX L K N T Lz Kz N Tz → va_P (dC, dI) vwCl (va_pl Lz (pF cy Kz N Tz Iz Qy Jz)) H → va_D A (va_pl Lz (pF cy Kz N Tz Iz Qy Jz)) → va_S A s.heap H locs → lv_has ls 6 [(5, .int 0), (0, .ref h0), (1, .int mk), (2, .int st), (3, .int mn), (4, .int nw)] → W p l e (headSpec wsX2_init ({ frames := 2, cells := 11, slots := 340, locals := 42 })).room s m ([.ref h0, .int mk, .int st, .int mn, .int nw] : List Value).toArray below meth c H locs 1 5 Qz (F0 m 43 ls []) := by
    intro L K T I1029 Q1029 J1029 H locs ls hC hR hXe hP hD hS hl
    have hX := hX.trans hXe
    have hLz1030 : h0 ∈ L := (hXe _ hLq948).1
    have hkz1030 : K h0 = 2 := (hXe _ hLq948).2.1.trans hkq948
    have hXs := hXe
    refine lv_iload hx hb dX2_init_43 (lv_at hl 0 rfl) ?_
    refine lv_iconst (v := 5) hx hb dX2_init_45 (by decide) ?_
    refine lv_icmp_ge (tgt := 84) hx hb dX2_init_46 (by decide) (fun c1031 => ?_) (fun c1031 => ?_)
    · exact absurd c1031 (by decide)
    refine lv_aload_n hx hb dX2_init_49 rfl (lv_at hl 1 rfl) ?_
    obtain ⟨j1032, hj1032⟩ := pG_2 (cy := cy) (N := N) (T := T) (I := I1029) (Q := Q1029) (J := J1029) hLz1030 hkz1030
    refine va_get (D := (dC, dI)) (ci := 2) (v := .ref (T h0 2)) (C := RX2) (T := TX2) (N := 6) hx hb hts hi2 hown hK hP j1032 hj1032 rfl 2 (by decide) (hts (.fieldLink RX2 11 "TallyLogs$Partition" "replicas" "[LTallyLogs$Replica;") (by decide +kernel)) (fun _ h9 => h9) rfl dX2_init_50 ?_
    obtain ⟨t1033, et1033⟩ : ∃ t, t = T h0 2 := ⟨_, rfl⟩
    have hLt1033 : t1033 ∈ L := by rw [et1033]; exact (hC.2.2.2.2.1 h0 hLz1030 hkz1030).1
    have hkt1033 : K t1033 = 12 := by rw [et1033]; exact (hC.2.2.2.2.1 h0 hLz1030 hkz1030).2
    refine W.eq (g2 := F0 m 53 ls [.ref t1033]) (by rw [et1033]) ?_
    refine lv_iload hx hb dX2_init_53 (lv_at hl 0 rfl) ?_
    refine lv_iload_n hx hb dX2_init_55 rfl (lv_at hl 2 rfl) ?_
    refine lv_iload hx hb dX2_init_56 (lv_at hl 0 rfl) ?_
    refine vp_callSi (va_Run.run (va_runSN (As := [.int mk, .int 0]) (rest := [.int 0, .ref t1033]) ⟨hx, hb, hml, hown, hts⟩ (c_X5_contains l mk 0) ⟨va_cnB 2 hts gX2_init_X5_contains_n37 rfl rfl rfl hn37 (hts (.initialized RX5) (by decide +kernel)) (by decide +kernel) ⟨Nat.le_of_ble_eq_true rfl, Nat.le_of_ble_eq_true rfl⟩, hts (.static yX5_contains) (by decide +kernel), trivial⟩ preEq rfl rfl hl.1 rfl (lv_room (Nat.le_of_ble_eq_true rfl)) dX2_init_58 ⟨Nat.le_of_ble_eq_true rfl, Nat.le_of_ble_eq_true rfl⟩)) (fun r1034 hr1034 => ?_)
    refine lv_if_eq (tgt := 76) hx hb dX2_init_61 (by decide) (fun c1035 => ?_) (fun c1035 => ?_)
    · refine lv_null hx hb dX2_init_76 ?_
      obtain ⟨j1036, hj1036⟩ := pG_12 (cy := cy) (N := N) (T := T) (I := I1029) (Q := Q1029) (J := J1029) hLt1033 hkt1033
      have hDo := hD
      refine va_astqN hx hb hK hP hD hS j1036 5 hj1036 rfl (by unfold vp_in; decide) dX2_init_77 (fun H locs hP hD hS => ?_)
      have hP := Eq.mp (congrArg (fun w => va_P (dC, dI) vwCl w H) (pS_12 (x := none) hDo hLt1033 hkt1033 hj1036)) hP
      obtain ⟨Q1037, eQ1037⟩ : ∃ z, z = p2 Q1029 t1033 ((0 : Int32).toNatClampNeg) none := ⟨_, rfl⟩
      rw [← eQ1037] at hP
      have hR : RS v I Q J I1029 Q1037 J1029 := by rw [eQ1037]; exact hR.pq hC (by rw [hkt1033]; decide)
      have hC : CT v L K N T I1029 Q1037 := by rw [eQ1037]; exact hC.q12 hkt1033 (fun b hb => by cases hb)
      have hD : va_D A (va_pl L (pF cy K N T I1029 Q1037 J1029)) := pD hDo
      refine lv_iinc (v := 1) (lv' := [(5, .int 1), (0, .ref h0), (1, .int mk), (2, .int st), (3, .int mn), (4, .int nw)]) hx hb dX2_init_78 hl (k := 0) rfl (by decide) (by decide) rfl (fun ls hl => ?_)
      refine lv_goto (tgt := 43) hx hb dX2_init_81 (by decide) ?_
      refine W.widen (k := 3) (n := 72) (by omega) (by omega) ?_
      exact hU961_1 _ _ _ _ _ _ _ _ _ hC hR hXs hP hD hS (lv_sub hl [0, 1, 2, 3, 4, 5] rfl)
    · refine va_new (ci := 4) (fs := [.null, .int 0, .int 0, .int 0, .int 0, .int 0, .int 0]) (C := RX4) (T := TX4) (N := 7) hx hb hts hi4 tyX4 tyX4_ok hown (hts (.classLink RX2 9 RX4) (by decide +kernel)) (hts (.instantiable RX4 7) (by decide +kernel)) (hts (.initialized RX4) (by decide +kernel)) hK hP hD hS hA rfl (fun j hj => by rcases (show j = 0 ∨ j = 1 ∨ j = 2 ∨ j = 3 ∨ j = 4 ∨ j = 5 ∨ j = 6 by omega) with rfl | rfl | rfl | rfl | rfl | rfl | rfl <;> rfl) (Nat.le_of_ble_eq_true rfl) (Nat.le_of_ble_eq_true rfl) dX2_init_64 (fun q1038 H hP hD hS => ?_)
      refine W.widen (k := 2) (n := 12) (by omega) (by omega) ?_
      have hP := va_P.swap (a := []) hP
      have hD := va_D.swap (a := []) hD
      have hP : va_P (dC, dI) vwCl ((q1038, .inr (4, [.null, .int 0, .int 0, .int 0, .int 0, .int 0, .int 0])) :: va_pl L (pF cy K N T I1029 Q1029 J1029)) H := hP
      have hD : va_D A ((q1038, .inr (4, [.null, .int 0, .int 0, .int 0, .int 0, .int 0, .int 0])) :: va_pl L (pF cy K N T I1029 Q1029 J1029)) := hD
      refine lv_dup hx hb dX2_init_67 rfl ?_
      refine lv_iload hx hb dX2_init_68 (lv_at hl 5 rfl) ?_
      have hFc := pfree hD hS hA
      refine va_callv (va_runI (As := [.int nw]) (rest := [.ref q1038, .int 0, .ref t1033]) ⟨hx, hb, hml, hown, hts⟩ (c_X4_init l dC dI cy v L K N T I1029 Q1029 J1029 H.size q1038 nw hC) (cwI 1 hts gX2_init_X4_init rfl rfl rfl (hts (.initialized RX4) (by decide +kernel)) (hts (.methodLink RX2 41 yX4_init) (by decide +kernel)) (hts (.instanceMethod yX4_init) (by decide +kernel)) rfl (by decide +kernel) ⟨Nat.le_of_ble_eq_true rfl, Nat.le_of_ble_eq_true rfl⟩) ⟨pw1_blind, fun U hU hW => ⟨rfl, pw1_pre hP hK hN hD hU hW⟩⟩ rfl rfl hl.1 rfl (lv_room (Nat.le_of_ble_eq_true rfl)) dX2_init_70 ⟨Nat.le_of_ble_eq_true rfl, Nat.le_of_ble_eq_true rfl⟩) hS (fun q _ h => hFc q h) hFc (fun d9 t H1 locs ht hvm hw hB hz1 hk1 hS => ?_)
      obtain ⟨L, K, T, I1039, Q1039, J1039⟩ := d9
      obtain ⟨⟨hC, hR1, hXe⟩, hL1039, hk1039⟩ := hw
      obtain ⟨hP, hK1, hD1⟩ := hB
      rw [ht] at hP
      have hD := hD1.weaken (fun _ _ _ h => hFc _ h)
      have hR := hR.trans hR1
      generalize H1 = H at hP hS ⊢
      have hP : va_P (dC, dI) vwCl (va_pl L (pF cy K N T I1039 Q1039 J1039)) H := hP
      have hD : va_D A (va_pl L (pF cy K N T I1039 Q1039 J1039)) := hD
      have hC : CT v L K N T I1039 Q1039 := hC
      have hR : RS v I Q J I1039 Q1039 J1039 := hR
      have hX := hX.trans hXe
      have hXs := hXs.trans hXe
      have hLz1040 : h0 ∈ L := (hXe _ hLz1030).1
      have hkz1040 : K h0 = 2 := (hXe _ hLz1030).2.1.trans hkz1030
      have hLz1041 : t1033 ∈ L := (hXe _ hLt1033).1
      have hkz1041 : K t1033 = 12 := (hXe _ hLt1033).2.1.trans hkt1033
      refine W.widen (k := 3) (n := 72) (by omega) (by omega) ?_
      refine lv_goto (tgt := 77) hx hb dX2_init_73 (by decide) ?_
      obtain ⟨j1042, hj1042⟩ := pG_12 (cy := cy) (N := N) (T := T) (I := I1039) (Q := Q1039) (J := J1039) hLz1041 hkz1041
      have hDo := hD
      obtain ⟨j1043, hj1043⟩ := pG_4 (cy := cy) (N := N) (T := T) (I := I1039) (Q := Q1039) (J := J1039) hL1039 hk1039
      refine va_astq hx hb hK hP hD hS j1042 5 j1043 4 hj1042 rfl hj1043 rfl (by unfold vp_in; decide) dX2_init_77 (fun H locs hP hD hS => ?_)
      have hP := Eq.mp (congrArg (fun w => va_P (dC, dI) vwCl w H) (pS_12 (x := (some q1038)) hDo hLz1041 hkz1041 hj1042)) hP
      obtain ⟨Q1044, eQ1044⟩ : ∃ z, z = p2 Q1039 t1033 ((0 : Int32).toNatClampNeg) (some q1038) := ⟨_, rfl⟩
      rw [← eQ1044] at hP
      have hR : RS v I Q J I1039 Q1044 J1039 := by rw [eQ1044]; exact hR.pq hC (by rw [hkz1041]; decide)
      have hC : CT v L K N T I1039 Q1044 := by rw [eQ1044]; exact hC.q12 hkz1041 (fun b hb => by cases hb; exact ⟨hL1039, hk1039⟩)
      have hD : va_D A (va_pl L (pF cy K N T I1039 Q1044 J1039)) := pD hDo
      refine lv_iinc (v := 1) (lv' := [(5, .int 1), (0, .ref h0), (1, .int mk), (2, .int st), (3, .int mn), (4, .int nw)]) hx hb dX2_init_78 hl (k := 0) rfl (by decide) (by decide) rfl (fun ls hl => ?_)
      refine lv_goto (tgt := 43) hx hb dX2_init_81 (by decide) ?_
      refine W.widen (k := 3) (n := 72) (by omega) (by omega) ?_
      exact hU961_1 _ _ _ _ _ _ _ _ _ hC hR hXs hP hD hS (lv_sub hl [0, 1, 2, 3, 4, 5] rfl)
  refine W.widen (k := 1) (n := 5) (by omega) (by omega) ?_
  exact hU961_0 _ _ _ _ _ _ _ _ _ hC hR PX.rf hP hD hS (lv_sub hl [0, 1, 2, 3, 4, 5] rfl)
