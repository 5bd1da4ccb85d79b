set_option maxHeartbeats 4000000 in
set_option maxRecDepth 100000 in
/-- Partition(mask, inStep, min, now), exactly -/
theorem g_X2_init (l : Launch) (dC : Nat → ClassId) (dI : Nat → Nat → Nat) (cy : Nat → ClassId) (v : Nat → Nat) (L : List Nat) (K N : Nat → Nat) (T : Nat → Nat → Nat) (I : Nat → Nat → Int32) (Q : Nat → Nat → Option Nat) (J : Nat → Nat → Int32) (sz : Nat) (h0 : Nat) (mk st mn nw : Int32) (hC : CT v L K N T I Q) : Met l yX2_init wsX2_init ({ frames := 2, cells := 11, slots := 340, locals := 42 }) (va_Pc [.ref h0, .int mk, .int st, .int mn, .int nw] (pW1 dC dI cy (h0, .inr (2, [.int 0, .int 0, .null, .int 0, .int 0, .int 0])) L (pF cy K N T I Q J) sz)) (va_Qv (fun d : List Nat × (Nat → Nat) × (Nat → Nat → Nat) × (Nat → Nat → Int32) × (Nat → Nat → Option Nat) × (Nat → Nat → Int32) => ∃ c : Nat → Nat, XB v N L K T I Q J mk st mn nw h0 5 c d.1 d.2.1 d.2.2.1 d.2.2.2.1 d.2.2.2.2.1 d.2.2.2.2.2) (fun (d : List Nat × (Nat → Nat) × (Nat → Nat → Nat) × (Nat → Nat → Int32) × (Nat → Nat → Option Nat) × (Nat → Nat → Int32)) t => va_P (dC, dI) vwCl (va_pl d.1 (pF cy d.2.1 N d.2.2.1 d.2.2.2.1 d.2.2.2.2.1 d.2.2.2.2.2)) t.heap ∧ va_K (dC, dI) vwCl (pTy cy) t ∧ va_D (va_A ((h0, .inr (2, [.int 0, .int 0, .null, .int 0, .int 0, .int 0])) :: va_pl L (pF cy K N T I Q J)) sz) (va_pl d.1 (pF cy d.2.1 N d.2.2.1 d.2.2.2.1 d.2.2.2.2.1 d.2.2.2.2.2))) (va_A ((h0, .inr (2, [.int 0, .int 0, .null, .int 0, .int 0, .int 0])) :: va_pl L (pF cy K N T I Q J)) sz)) 11 340 (va_A ((h0, .inr (2, [.int 0, .int 0, .null, .int 0, .int 0, .int 0])) :: va_pl L (pF cy K N T I Q J)) sz) := by
  refine Met.ofW (cc := cX2_init) (maxL := 6) (ret := none) (by decide) rfl ?_
  intro p e s m args below meth c s₁ B hml hv
  obtain ⟨rfl, hsz, ⟨hP, hK, hN⟩, hD0⟩ := hv
  have hx := B.exec
  have hb := B.bytes
  have hr := B.returns
  have hts := atoms_spec (ws := wsX2_init) B.pre
  have hown : s.vm.findClass RX2 = some m.cls := findClass_of_methodNamed B.named
  have hlocks := B.notSynchronized
  have hi2 : ∀ w ∈ wsX20, w ∈ wsX2_init := by decide +kernel
  have hi4 : ∀ w ∈ wsX40, w ∈ wsX2_init := by decide +kernel
  have hl := lv_entry ([.ref h0, .int mk, .int st, .int mn, .int nw]) (n := 6) (Nat.le_of_ble_eq_true rfl)
  rw [lg_entry_eq]
  generalize (lg_sl ([.ref h0, .int mk, .int st, .int mn, .int nw]) ++ List.replicate (6 - (lg_sl ([.ref h0, .int mk, .int st, .int mn, .int nw])).length) Slot.unset).toArray = ls at hl ⊢
  have hl : lv_has ls 6 [(0, .ref h0), (1, .int mk), (2, .int st), (3, .int mn), (4, .int nw)] := hl
  subst hsz
  have hD := hD0.self (sz := s.heap.size)
  generalize hAe : va_A ((h0, .inr (2, [.int 0, .int 0, .null, .int 0, .int 0, .int 0])) :: va_pl L (pF cy K N T I Q J)) s.heap.size = A at hD ⊢
  have hA : ∀ q : Nat, s.heap.size ≤ q → A q := fun q h => by rw [← hAe]; exact Or.inr h
  have hS : va_S A s.heap s.heap [] := va_S.rf
  have hR : RS v I Q J I Q J := RS.rf
  have hn28 := hN.1
  have hn30 := hN.2.1
  have hn37 := hN.2.2.1
  have hin : meth.name = "<init>" := (name_of_methodNamed B.named B.method).1
  obtain ⟨Lo, hLo⟩ : ∃ z, z = L := ⟨_, rfl⟩
  obtain ⟨Ko, hKo⟩ : ∃ z, z = K := ⟨_, rfl⟩
  obtain ⟨To, hTo⟩ : ∃ z, z = T := ⟨_, rfl⟩
  refine lv_aload_n hx hb dX2_init_0 rfl (lv_at hl 0 rfl) ?_
  refine W.objInit hx hb hown (hts (.methodLink RX2 3 objectInit) (by decide +kernel)) (hts (.instanceMethod objectInit) (by decide +kernel)) (hts _ (List.mem_of_getElem? (i := 3) rfl)) rfl (by rw [hml]; exact hl.1) rfl dX2_init_1 (Nat.le_of_ble_eq_true rfl) (Nat.le_of_ble_eq_true rfl) ?_
  refine W.eq (g2 := F0 m 4 ls []) rfl ?_
  refine lv_aload_n hx hb dX2_init_4 rfl (lv_at hl 0 rfl) ?_
  refine lv_iconst (v := 5) hx hb dX2_init_5 (by decide) ?_
  refine va_newq (C := "TallyLogs$Replica") (n := 5) (N' := 5) hx hb hown (hts (.classLink RX2 9 RX4) (by decide +kernel)) hN.2.2.2.1 hK hP hD hS hA (by decide) (by decide) (by decide) (Nat.le_of_ble_eq_true rfl) (Nat.le_of_ble_eq_true rfl) dX2_init_6 (fun q700015 cA H hKn hP hD hS => ?_)
  obtain rfl : cA = cy 12 := xk_sameQ hKn 6 5 rfl rfl
  refine W.widen (k := 1) (n := 5) (by omega) (by omega) ?_
  refine va_putF (D := (dC, dI)) (ci := 2) (v := .ref q700015) (ty := (.array (.object "TallyLogs$Replica"))) (C := RX2) (T := TX2) (N := 6) hx hb hts hi2 tyX2 tyX2_ok nmX2 hown hK hP hD hS 0 rfl rfl 2 (by decide) (hts (.fieldLink RX2 11 "TallyLogs$Partition" "replicas" "[LTallyLogs$Replica;") (by decide +kernel)) (fun _ h9 => h9) rfl hin rfl (by decide +kernel) rfl rfl (Nat.le_of_ble_eq_true rfl) dX2_init_9 (fun H locs hP hD hS => ?_)
  have hP : va_P (dC, dI) vwCl ((h0, .inr (2, [.int 0, .int 0, .ref q700015, .int 0, .int 0, .int 0])) :: va_pl L (pF cy K N T I Q J) ++ [(q700015, .inl (cy 12, 5, .inr (.inr (.inr (.inr (fun _ => none))))))]) H := hP
  have hD : va_D A ((h0, .inr (2, [.int 0, .int 0, .ref q700015, .int 0, .int 0, .int 0])) :: va_pl L (pF cy K N T I Q J) ++ [(q700015, .inl (cy 12, 5, .inr (.inr (.inr (.inr (fun _ => none))))))]) := hD
  obtain ⟨L, K, T, I700016, Q700016, ⟨⟨hP, hD, hC⟩, hXe, hIQ⟩, ⟨hLq700015, hkq700015⟩, hnq, hnone⟩ := pNew2x hC hP hD
  have hR : RS v I700016 Q700016 J I700016 Q700016 J := RS.rf
  refine lv_aload_n hx hb dX2_init_12 rfl (lv_at hl 0 rfl) ?_
  refine lv_iconst (v := 0) hx hb dX2_init_13 (by decide) ?_
  obtain ⟨j700017, hj700017⟩ := pG_2 (cy := cy) (N := N) (T := T) (I := I700016) (Q := Q700016) (J := J) hLq700015 hkq700015
  have hDo := hD
  refine va_put (D := (dC, dI)) (ci := 2) (v := .int 0) (ty := .int) (C := RX2) (T := TX2) (N := 6) hx hb hts hi2 tyX2 tyX2_ok nmX2 hown hK hP hD hS j700017 hj700017 rfl 4 (by decide) (hts (.fieldLink RX2 17 "TallyLogs$Partition" "epoch" "I") (by decide +kernel)) (fun _ h9 => h9) rfl (by decide +kernel) rfl rfl (Nat.le_of_ble_eq_true rfl) dX2_init_14 (fun H locs hP hD hS => ?_)
  have hP := Eq.mp (congrArg (fun w => va_P (dC, dI) vwCl w H) (pP_2_4 (x := 0) hDo hLq700015 hkq700015 hj700017)) hP
  obtain ⟨I700018, eI700018⟩ : ∃ z, z = p2 I700016 h0 4 0 := ⟨_, rfl⟩
  rw [← eI700018] at hP
  have hR : RS v I700018 Q700016 J I700018 Q700016 J := RS.rf
  have hC : CT v L K N T I700018 Q700016 := by rw [eI700018]; exact hC.pi (by rw [hkq700015]; decide)
  have hD : va_D A (va_pl L (pF cy K N T I700018 Q700016 J)) := pD hDo
  refine lv_aload_n hx hb dX2_init_17 rfl (lv_at hl 0 rfl) ?_
  refine lv_iload_n hx hb dX2_init_18 rfl (lv_at hl 1 rfl) ?_
  obtain ⟨j700019, hj700019⟩ := pG_2 (cy := cy) (N := N) (T := T) (I := I700018) (Q := Q700016) (J := J) hLq700015 hkq700015
  have hDo := hD
  refine va_putF (D := (dC, dI)) (ci := 2) (v := .int mk) (ty := .int) (C := RX2) (T := TX2) (N := 6) hx hb hts hi2 tyX2 tyX2_ok nmX2 hown hK hP hD hS j700019 hj700019 rfl 0 (by decide) (hts (.fieldLink RX2 21 "TallyLogs$Partition" "mask" "I") (by decide +kernel)) (fun _ h9 => h9) rfl hin rfl (by decide +kernel) rfl rfl (Nat.le_of_ble_eq_true rfl) dX2_init_19 (fun H locs hP hD hS => ?_)
  have hP := Eq.mp (congrArg (fun w => va_P (dC, dI) vwCl w H) (pP_2_0 (x := mk) hDo hLq700015 hkq700015 hj700019)) hP
  obtain ⟨I700020, eI700020⟩ : ∃ z, z = p2 I700018 h0 0 mk := ⟨_, rfl⟩
  rw [← eI700020] at hP
  have hR : RS v I700020 Q700016 J I700020 Q700016 J := RS.rf
  have hC : CT v L K N T I700020 Q700016 := by rw [eI700020]; exact hC.pi (by rw [hkq700015]; decide)
  have hD : va_D A (va_pl L (pF cy K N T I700020 Q700016 J)) := pD hDo
  refine lv_aload_n hx hb dX2_init_22 rfl (lv_at hl 0 rfl) ?_
  refine lv_iload_n hx hb dX2_init_23 rfl (lv_at hl 3 rfl) ?_
  obtain ⟨j700021, hj700021⟩ := pG_2 (cy := cy) (N := N) (T := T) (I := I700020) (Q := Q700016) (J := J) hLq700015 hkq700015
  have hDo := hD
  refine va_putF (D := (dC, dI)) (ci := 2) (v := .int mn) (ty := .int) (C := RX2) (T := TX2) (N := 6) hx hb hts hi2 tyX2 tyX2_ok nmX2 hown hK hP hD hS j700021 hj700021 rfl 1 (by decide) (hts (.fieldLink RX2 24 "TallyLogs$Partition" "min" "I") (by decide +kernel)) (fun _ h9 => h9) rfl hin rfl (by decide +kernel) rfl rfl (Nat.le_of_ble_eq_true rfl) dX2_init_24 (fun H locs hP hD hS => ?_)
  have hP := Eq.mp (congrArg (fun w => va_P (dC, dI) vwCl w H) (pP_2_1 (x := mn) hDo hLq700015 hkq700015 hj700021)) hP
  obtain ⟨I700022, eI700022⟩ : ∃ z, z = p2 I700020 h0 1 mn := ⟨_, rfl⟩
  rw [← eI700022] at hP
  have hR : RS v I700022 Q700016 J I700022 Q700016 J := RS.rf
  have hC : CT v L K N T I700022 Q700016 := by rw [eI700022]; exact hC.pi (by rw [hkq700015]; decide)
  have hD : va_D A (va_pl L (pF cy K N T I700022 Q700016 J)) := pD hDo
  refine lv_aload_n hx hb dX2_init_27 rfl (lv_at hl 0 rfl) ?_
  refine lv_iload_n hx hb dX2_init_28 rfl (lv_at hl 2 rfl) ?_
  obtain ⟨j700023, hj700023⟩ := pG_2 (cy := cy) (N := N) (T := T) (I := I700022) (Q := Q700016) (J := J) hLq700015 hkq700015
  have hDo := hD
  refine va_put (D := (dC, dI)) (ci := 2) (v := .int st) (ty := .int) (C := RX2) (T := TX2) (N := 6) hx hb hts hi2 tyX2 tyX2_ok nmX2 hown hK hP hD hS j700023 hj700023 rfl 5 (by decide) (hts (.fieldLink RX2 27 "TallyLogs$Partition" "inStep" "I") (by decide +kernel)) (fun _ h9 => h9) rfl (by decide +kernel) rfl rfl (Nat.le_of_ble_eq_true rfl) dX2_init_29 (fun H locs hP hD hS => ?_)
  have hP := Eq.mp (congrArg (fun w => va_P (dC, dI) vwCl w H) (pP_2_5 (x := st) hDo hLq700015 hkq700015 hj700023)) hP
  obtain ⟨I700024, eI700024⟩ : ∃ z, z = p2 I700022 h0 5 st := ⟨_, rfl⟩
  rw [← eI700024] at hP
  have hR : RS v I700024 Q700016 J I700024 Q700016 J := RS.rf
  have hC : CT v L K N T I700024 Q700016 := by rw [eI700024]; exact hC.pi (by rw [hkq700015]; decide)
  have hD : va_D A (va_pl L (pF cy K N T I700024 Q700016 J)) := pD hDo
  refine lv_aload_n hx hb dX2_init_32 rfl (lv_at hl 0 rfl) ?_
  refine lv_iload_n hx hb dX2_init_33 rfl (lv_at hl 2 rfl) ?_
  refine vp_callSi (va_Run.run (va_runSN (As := [.int st]) (rest := [.ref h0]) ⟨hx, hb, hml, hown, hts⟩ (c_X5_leastOf l st) ⟨va_cnB 1 hts gX2_init_X5_leastOf_n30 rfl rfl rfl hn30 (hts (.initialized RX5) (by decide +kernel)) (by decide +kernel) ⟨Nat.le_of_ble_eq_true rfl, Nat.le_of_ble_eq_true rfl⟩, hts (.static yX5_leastOf) (by decide +kernel), trivial⟩ preEq rfl rfl hl.1 rfl (lv_room (Nat.le_of_ble_eq_true rfl)) dX2_init_34 ⟨Nat.le_of_ble_eq_true rfl, Nat.le_of_ble_eq_true rfl⟩)) (fun r700025 hr700025 => ?_)
  obtain ⟨j700026, hj700026⟩ := pG_2 (cy := cy) (N := N) (T := T) (I := I700024) (Q := Q700016) (J := J) hLq700015 hkq700015
  have hDo := hD
  refine va_put (D := (dC, dI)) (ci := 2) (v := .int r700025) (ty := .int) (C := RX2) (T := TX2) (N := 6) hx hb hts hi2 tyX2 tyX2_ok nmX2 hown hK hP hD hS j700026 hj700026 rfl 3 (by decide) (hts (.fieldLink RX2 34 "TallyLogs$Partition" "leader" "I") (by decide +kernel)) (fun _ h9 => h9) rfl (by decide +kernel) rfl rfl (Nat.le_of_ble_eq_true rfl) dX2_init_37 (fun H locs hP hD hS => ?_)
  have hP := Eq.mp (congrArg (fun w => va_P (dC, dI) vwCl w H) (pP_2_3 (x := r700025) hDo hLq700015 hkq700015 hj700026)) hP
  obtain ⟨I700027, eI700027⟩ : ∃ z, z = p2 I700024 h0 3 r700025 := ⟨_, rfl⟩
  rw [← eI700027] at hP
  have hR : RS v I700027 Q700016 J I700027 Q700016 J := RS.rf
  have hC : CT v L K N T I700027 Q700016 := by rw [eI700027]; exact hC.pi (by rw [hkq700015]; decide)
  have hD : va_D A (va_pl L (pF cy K N T I700027 Q700016 J)) := pD hDo
  refine lv_iconst (v := 0) hx hb dX2_init_40 (by decide) ?_
  refine lv_istore (lv' := [(5, .int 0), (0, .ref h0), (1, .int mk), (2, .int st), (3, .int mn), (4, .int nw)]) hx hb dX2_init_41 hl (by decide) rfl (fun ls hl => ?_)
  refine wq_gen (fun Qz hQz => ?_)
  have hXB : XB v N Lo Ko To I Q J mk st mn nw h0 0 (fun _ => 0) L K T I700027 Q700016 J := ⟨hC, by rw [hLo, hKo, hTo]; exact hXe, by rw [hLo]; exact (fun b hb => ⟨by show I700027 b = I b; rw [eI700027, p2_na _ _ (fun z => hnq.1 (by rw [← z]; exact hb)), eI700024, p2_na _ _ (fun z => hnq.1 (by rw [← z]; exact hb)), eI700022, p2_na _ _ (fun z => hnq.1 (by rw [← z]; exact hb)), eI700020, p2_na _ _ (fun z => hnq.1 (by rw [← z]; exact hb)), eI700018, p2_na _ _ (fun z => hnq.1 (by rw [← z]; exact hb))]; exact (hIQ b hb).1, (hIQ b hb).2⟩), rfl, ⟨⟨hLq700015, hkq700015⟩, by rw [hLo]; exact hnq⟩, ⟨(by rw [eI700027, p2_ne _ _ (by omega), eI700024, p2_ne _ _ (by omega), eI700022, p2_ne _ _ (by omega), eI700020, p2_at]), (by rw [eI700027, p2_ne _ _ (by omega), eI700024, p2_ne _ _ (by omega), eI700022, p2_at]), (by rw [eI700027, p2_at]; exact hr700025), (by rw [eI700027, p2_ne _ _ (by omega), eI700024, p2_ne _ _ (by omega), eI700022, p2_ne _ _ (by omega), eI700020, p2_ne _ _ (by omega), eI700018, p2_at]), (by rw [eI700027, p2_ne _ _ (by omega), eI700024, p2_at])⟩, fun n _ => ⟨fun z => absurd z.1 (Nat.not_lt_zero _), fun _ => hnone n⟩, fun n hn => absurd hn (Nat.not_lt_zero _), fun n m hn => absurd hn (Nat.not_lt_zero _)⟩
  have hU700028_5 : ∀ (Lz : List Nat) (Kz : Nat → Nat) (Tz : Nat → Nat → Nat) (Iz : Nat → Nat → Int32) (Qy : Nat → Nat → Option Nat) (Jz : Nat → Nat → Int32) (cz : Nat → Nat) (H : Heap) (locs : List Loc) (ls : Array Slot), XB v N Lo Ko To I Q J mk st mn nw h0 5 cz Lz Kz Tz Iz Qy Jz → va_P (dC, dI) vwCl (va_pl Lz (pF cy Kz N Tz Iz Qy Jz)) H → va_D A (va_pl Lz (pF cy Kz N Tz Iz Qy Jz)) → va_S A s.heap H locs → lv_has ls 6 [(5, .int 5), (0, .ref h0), (1, .int mk), (2, .int st), (3, .int mn), (4, .int nw)] → W p l e (headSpec wsX2_init ({ frames := 2, cells := 11, slots := 340, locals := 42 })).room s m ([.ref h0, .int mk, .int st, .int mn, .int nw] : List Value).toArray below meth c H locs 11 340 Qz (F0 m 43 ls []) := by
    intro L K T I700029 Q700029 J700029 cz H locs ls hXB hP hD hS hl
    have hC := hXB.ct
    have hR : RS v I700029 Q700029 J700029 I700029 Q700029 J700029 := RS.rf
    refine lv_iload hx hb dX2_init_43 (lv_at hl 0 rfl) ?_
    refine lv_iconst (v := 5) hx hb dX2_init_45 (by decide) ?_
    refine lv_icmp_ge (tgt := 84) hx hb dX2_init_46 (by decide) (fun c700030 => ?_) (fun c700030 => ?_)
    rotate_left
    · exact absurd c700030 (by decide)
    rw [hQz]
    refine W.widen (k := 11) (n := 340) (by omega) (by omega) ?_
    rw [hLo, hKo, hTo] at hXB
    exact W.vret hx hb hr (fun t ht hW => ⟨⟨(L, K, T, I700029, Q700029, J700029), rfl, ⟨_, hXB⟩, by rw [ht]; exact hP, va_K.moved hW.alike hK, hD⟩, hS.F ht⟩) hS.2.2 dX2_init_84
  have hU700028_4 : ∀ (Lz : List Nat) (Kz : Nat → Nat) (Tz : Nat → Nat → Nat) (Iz : Nat → Nat → Int32) (Qy : Nat → Nat → Option Nat) (Jz : Nat → Nat → Int32) (cz : Nat → Nat) (H : Heap) (locs : List Loc) (ls : Array Slot), XB v N Lo Ko To I Q J mk st mn nw h0 4 cz Lz Kz Tz Iz Qy Jz → va_P (dC, dI) vwCl (va_pl Lz (pF cy Kz N Tz Iz Qy Jz)) H → va_D A (va_pl Lz (pF cy Kz N Tz Iz Qy Jz)) → va_S A s.heap H locs → lv_has ls 6 [(5, .int 4), (0, .ref h0), (1, .int mk), (2, .int st), (3, .int mn), (4, .int nw)] → W p l e (headSpec wsX2_init ({ frames := 2, cells := 11, slots := 340, locals := 42 })).room s m ([.ref h0, .int mk, .int st, .int mn, .int nw] : List Value).toArray below meth c H locs 9 273 Qz (F0 m 43 ls []) := by
    intro L K T I700031 Q700031 J700031 cz H locs ls hXB hP hD hS hl
    have hC := hXB.ct
    have hR : RS v I700031 Q700031 J700031 I700031 Q700031 J700031 := RS.rf
    refine lv_iload hx hb dX2_init_43 (lv_at hl 0 rfl) ?_
    refine lv_iconst (v := 5) hx hb dX2_init_45 (by decide) ?_
    refine lv_icmp_ge (tgt := 84) hx hb dX2_init_46 (by decide) (fun c700032 => ?_) (fun c700032 => ?_)
    · exact absurd c700032 (by decide)
    refine lv_aload_n hx hb dX2_init_49 rfl (lv_at hl 1 rfl) ?_
    obtain ⟨j700033, hj700033⟩ := pG_2 (cy := cy) (N := N) (T := T) (I := I700031) (Q := Q700031) (J := J700031) hXB.2.2.2.2.1.1.1 hXB.2.2.2.2.1.1.2
    refine va_get (D := (dC, dI)) (ci := 2) (v := .ref (T h0 2)) (C := RX2) (T := TX2) (N := 6) hx hb hts hi2 hown hK hP j700033 hj700033 rfl 2 (by decide) (hts (.fieldLink RX2 11 "TallyLogs$Partition" "replicas" "[LTallyLogs$Replica;") (by decide +kernel)) (fun _ h9 => h9) rfl dX2_init_50 ?_
    obtain ⟨t700034, et700034⟩ : ∃ t, t = T h0 2 := ⟨_, rfl⟩
    have hLt700034 : t700034 ∈ L := by rw [et700034]; exact (hC.2.2.2.2.1 h0 hXB.2.2.2.2.1.1.1 hXB.2.2.2.2.1.1.2).1
    have hkt700034 : K t700034 = 12 := by rw [et700034]; exact (hC.2.2.2.2.1 h0 hXB.2.2.2.2.1.1.1 hXB.2.2.2.2.1.1.2).2
    refine W.eq (g2 := F0 m 53 ls [.ref t700034]) (by rw [et700034]) ?_
    refine lv_iload hx hb dX2_init_53 (lv_at hl 0 rfl) ?_
    refine lv_iload_n hx hb dX2_init_55 rfl (lv_at hl 2 rfl) ?_
    refine lv_iload hx hb dX2_init_56 (lv_at hl 0 rfl) ?_
    refine vp_callSi (va_Run.run (va_runSN (As := [.int mk, .int 4]) (rest := [.int 4, .ref t700034]) ⟨hx, hb, hml, hown, hts⟩ (c_X5_contains l mk 4) ⟨va_cnB 2 hts gX2_init_X5_contains_n37 rfl rfl rfl hn37 (hts (.initialized RX5) (by decide +kernel)) (by decide +kernel) ⟨Nat.le_of_ble_eq_true rfl, Nat.le_of_ble_eq_true rfl⟩, hts (.static yX5_contains) (by decide +kernel), trivial⟩ preEq rfl rfl hl.1 rfl (lv_room (Nat.le_of_ble_eq_true rfl)) dX2_init_58 ⟨Nat.le_of_ble_eq_true rfl, Nat.le_of_ble_eq_true rfl⟩)) (fun r700035 hr700035 => ?_)
    refine lv_if_eq (tgt := 76) hx hb dX2_init_61 (by decide) (fun c700036 => ?_) (fun c700036 => ?_)
    · refine lv_null hx hb dX2_init_76 ?_
      obtain ⟨j700037, hj700037⟩ := pG_12 (cy := cy) (N := N) (T := T) (I := I700031) (Q := Q700031) (J := J700031) hLt700034 hkt700034
      have hDo := hD
      refine va_astqN hx hb hK hP hD hS j700037 5 hj700037 rfl (by unfold vp_in; decide) dX2_init_77 (fun H locs hP hD hS => ?_)
      have hP := Eq.mp (congrArg (fun w => va_P (dC, dI) vwCl w H) (pS_12 (x := none) hDo hLt700034 hkt700034 hj700037)) hP
      obtain ⟨Q700038, eQ700038⟩ : ∃ z, z = p2 Q700031 t700034 ((4 : Int32).toNatClampNeg) none := ⟨_, rfl⟩
      rw [← eQ700038] at hP
      have hR : RS v I700031 Q700031 J700031 I700031 Q700038 J700031 := by rw [eQ700038]; exact hR.pq hC (by rw [hkt700034]; decide)
      have hC : CT v L K N T I700031 Q700038 := by rw [eQ700038]; exact hC.q12 hkt700034 (fun b hb => by cases hb)
      have hD : va_D A (va_pl L (pF cy K N T I700031 Q700038 J700031)) := pD hDo
      refine lv_iinc (v := 5) (lv' := [(5, .int 5), (0, .ref h0), (1, .int mk), (2, .int st), (3, .int mn), (4, .int nw)]) hx hb dX2_init_78 hl (k := 0) rfl (by decide) (by decide) rfl (fun ls hl => ?_)
      refine lv_goto (tgt := 43) hx hb dX2_init_81 (by decide) ?_
      refine W.widen (k := 11) (n := 340) (by omega) (by omega) ?_
      exact hU700028_5 _ _ _ _ _ _ _ _ _ _ (by rw [eQ700038, show (4 : Int32).toNatClampNeg = 4 by decide]; exact hXB.nul (by decide) (sp_cn8_0 (by decide) (by rw [show nI 4 = (4 : Int32) by decide, ← hr700035]; exact c700036)) et700034 (by rw [eQ700038, show (4 : Int32).toNatClampNeg = 4 by decide] at hC; exact hC)) hP hD hS (lv_sub hl [0, 1, 2, 3, 4, 5] rfl)
    · refine va_new (ci := 4) (fs := [.null, .int 0, .int 0, .int 0, .int 0, .int 0, .int 0]) (C := RX4) (T := TX4) (N := 7) hx hb hts hi4 tyX4 tyX4_ok hown (hts (.classLink RX2 9 RX4) (by decide +kernel)) (hts (.instantiable RX4 7) (by decide +kernel)) (hts (.initialized RX4) (by decide +kernel)) hK hP hD hS hA rfl (fun j hj => by rcases (show j = 0 ∨ j = 1 ∨ j = 2 ∨ j = 3 ∨ j = 4 ∨ j = 5 ∨ j = 6 by omega) with rfl | rfl | rfl | rfl | rfl | rfl | rfl <;> rfl) (Nat.le_of_ble_eq_true rfl) (Nat.le_of_ble_eq_true rfl) dX2_init_64 (fun q700039 H hP hD hS => ?_)
      refine W.widen (k := 10) (n := 280) (by omega) (by omega) ?_
      have hP := va_P.swap (a := []) hP
      have hD := va_D.swap (a := []) hD
      have hP : va_P (dC, dI) vwCl ((q700039, .inr (4, [.null, .int 0, .int 0, .int 0, .int 0, .int 0, .int 0])) :: va_pl L (pF cy K N T I700031 Q700031 J700031)) H := hP
      have hD : va_D A ((q700039, .inr (4, [.null, .int 0, .int 0, .int 0, .int 0, .int 0, .int 0])) :: va_pl L (pF cy K N T I700031 Q700031 J700031)) := hD
      refine lv_dup hx hb dX2_init_67 rfl ?_
      refine lv_iload hx hb dX2_init_68 (lv_at hl 5 rfl) ?_
      have hFc := pfree hD hS hA
      refine va_callv (va_runI (As := [.int nw]) (rest := [.ref q700039, .int 4, .ref t700034]) ⟨hx, hb, hml, hown, hts⟩ (g_X4_init l dC dI cy v L K N T I700031 Q700031 J700031 H.size q700039 nw hC) (cwI 1 hts gX2_init_X4_init rfl rfl rfl (hts (.initialized RX4) (by decide +kernel)) (hts (.methodLink RX2 41 yX4_init) (by decide +kernel)) (hts (.instanceMethod yX4_init) (by decide +kernel)) rfl (by decide +kernel) ⟨Nat.le_of_ble_eq_true rfl, Nat.le_of_ble_eq_true rfl⟩) ⟨pw1_blind, fun U hU hW => ⟨rfl, pw1_pre hP hK hN hD hU hW⟩⟩ rfl rfl hl.1 rfl (lv_room (Nat.le_of_ble_eq_true rfl)) dX2_init_70 ⟨Nat.le_of_ble_eq_true rfl, Nat.le_of_ble_eq_true rfl⟩) hS (fun q _ h => hFc q h) hFc (fun d9 t H1 locs ht hvm hw hB hz1 hk1 hS => ?_)
      obtain ⟨L, K, T, I700040, Q700040, J700040⟩ := d9
      obtain ⟨hC, hXe, hIQ, eJ700040, ⟨⟨hLq700039, hkq700039⟩, hnr⟩, hfr⟩ := hw
      have eJ700040 : J700040 = J700031 := eJ700040
      have hIQ : ∀ b, b ∈ _ → I700040 b = I700031 b ∧ Q700040 b = Q700031 b := hIQ
      have hfr : ∀ f, 1 ≤ f → f ≤ 6 → I700040 q700039 f = if f = 6 then nw else 0 := hfr
      have hLt2 : t700034 ∈ L := (hXe _ hLt700034).1
      have hkt2 : K t700034 = 12 := (hXe _ hLt700034).2.1.trans hkt700034
      obtain ⟨hP, hK1, hD1⟩ := hB
      rw [ht] at hP
      have hD := hD1.weaken (fun _ _ _ h => hFc _ h)
      generalize H1 = H at hP hS ⊢
      have hP : va_P (dC, dI) vwCl (va_pl L (pF cy K N T I700040 Q700040 J700040)) H := hP
      have hD : va_D A (va_pl L (pF cy K N T I700040 Q700040 J700040)) := hD
      have hR : RS v I700040 Q700040 J700040 I700040 Q700040 J700040 := RS.rf
      have hC : CT v L K N T I700040 Q700040 := hC
      refine W.widen (k := 11) (n := 340) (by omega) (by omega) ?_
      refine lv_goto (tgt := 77) hx hb dX2_init_73 (by decide) ?_
      obtain ⟨j700041, hj700041⟩ := pG_12 (cy := cy) (N := N) (T := T) (I := I700040) (Q := Q700040) (J := J700040) hLt2 hkt2
      have hDo := hD
      obtain ⟨j700042, hj700042⟩ := pG_4 (cy := cy) (N := N) (T := T) (I := I700040) (Q := Q700040) (J := J700040) hLq700039 hkq700039
      refine va_astq hx hb hK hP hD hS j700041 5 j700042 4 hj700041 rfl hj700042 rfl (by unfold vp_in; decide) dX2_init_77 (fun H locs hP hD hS => ?_)
      have hP := Eq.mp (congrArg (fun w => va_P (dC, dI) vwCl w H) (pS_12 (x := (some q700039)) hDo hLt2 hkt2 hj700041)) hP
      obtain ⟨Q700043, eQ700043⟩ : ∃ z, z = p2 Q700040 t700034 ((4 : Int32).toNatClampNeg) (some q700039) := ⟨_, rfl⟩
      rw [← eQ700043] at hP
      have hR : RS v I700040 Q700040 J700040 I700040 Q700043 J700040 := by rw [eQ700043]; exact hR.pq hC (by rw [hkt2]; decide)
      have hC : CT v L K N T I700040 Q700043 := by rw [eQ700043]; exact hC.q12 hkt2 (fun b hb => by cases hb; exact ⟨hLq700039, hkq700039⟩)
      have hD : va_D A (va_pl L (pF cy K N T I700040 Q700043 J700040)) := pD hDo
      refine lv_iinc (v := 5) (lv' := [(5, .int 5), (0, .ref h0), (1, .int mk), (2, .int st), (3, .int mn), (4, .int nw)]) hx hb dX2_init_78 hl (k := 0) rfl (by decide) (by decide) rfl (fun ls hl => ?_)
      refine lv_goto (tgt := 43) hx hb dX2_init_81 (by decide) ?_
      refine W.widen (k := 11) (n := 340) (by omega) (by omega) ?_
      exact hU700028_5 _ _ _ _ _ _ _ _ _ _ (by rw [eQ700043, show (4 : Int32).toNatClampNeg = 4 by decide]; exact hXB.rep (by decide) (sp_cn8_1 (by decide) (by rw [show nI 4 = (4 : Int32) by decide, ← hr700035]; exact c700036)) et700034 hXe hIQ eJ700040 ⟨hLq700039, hkq700039⟩ hnr hfr (by rw [eQ700043, show (4 : Int32).toNatClampNeg = 4 by decide] at hC; exact hC)) hP hD hS (lv_sub hl [0, 1, 2, 3, 4, 5] rfl)
  have hU700028_3 : ∀ (Lz : List Nat) (Kz : Nat → Nat) (Tz : Nat → Nat → Nat) (Iz : Nat → Nat → Int32) (Qy : Nat → Nat → Option Nat) (Jz : Nat → Nat → Int32) (cz : Nat → Nat) (H : Heap) (locs : List Loc) (ls : Array Slot), XB v N Lo Ko To I Q J mk st mn nw h0 3 cz Lz Kz Tz Iz Qy Jz → va_P (dC, dI) vwCl (va_pl Lz (pF cy Kz N Tz Iz Qy Jz)) H → va_D A (va_pl Lz (pF cy Kz N Tz Iz Qy Jz)) → va_S A s.heap H locs → lv_has ls 6 [(5, .int 3), (0, .ref h0), (1, .int mk), (2, .int st), (3, .int mn), (4, .int nw)] → W p l e (headSpec wsX2_init ({ frames := 2, cells := 11, slots := 340, locals := 42 })).room s m ([.ref h0, .int mk, .int st, .int mn, .int nw] : List Value).toArray below meth c H locs 7 206 Qz (F0 m 43 ls []) := by
    intro L K T I700044 Q700044 J700044 cz H locs ls hXB hP hD hS hl
    have hC := hXB.ct
    have hR : RS v I700044 Q700044 J700044 I700044 Q700044 J700044 := RS.rf
    refine lv_iload hx hb dX2_init_43 (lv_at hl 0 rfl) ?_
    refine lv_iconst (v := 5) hx hb dX2_init_45 (by decide) ?_
    refine lv_icmp_ge (tgt := 84) hx hb dX2_init_46 (by decide) (fun c700045 => ?_) (fun c700045 => ?_)
    · exact absurd c700045 (by decide)
    refine lv_aload_n hx hb dX2_init_49 rfl (lv_at hl 1 rfl) ?_
    obtain ⟨j700046, hj700046⟩ := pG_2 (cy := cy) (N := N) (T := T) (I := I700044) (Q := Q700044) (J := J700044) hXB.2.2.2.2.1.1.1 hXB.2.2.2.2.1.1.2
    refine va_get (D := (dC, dI)) (ci := 2) (v := .ref (T h0 2)) (C := RX2) (T := TX2) (N := 6) hx hb hts hi2 hown hK hP j700046 hj700046 rfl 2 (by decide) (hts (.fieldLink RX2 11 "TallyLogs$Partition" "replicas" "[LTallyLogs$Replica;") (by decide +kernel)) (fun _ h9 => h9) rfl dX2_init_50 ?_
    obtain ⟨t700047, et700047⟩ : ∃ t, t = T h0 2 := ⟨_, rfl⟩
    have hLt700047 : t700047 ∈ L := by rw [et700047]; exact (hC.2.2.2.2.1 h0 hXB.2.2.2.2.1.1.1 hXB.2.2.2.2.1.1.2).1
    have hkt700047 : K t700047 = 12 := by rw [et700047]; exact (hC.2.2.2.2.1 h0 hXB.2.2.2.2.1.1.1 hXB.2.2.2.2.1.1.2).2
    refine W.eq (g2 := F0 m 53 ls [.ref t700047]) (by rw [et700047]) ?_
    refine lv_iload hx hb dX2_init_53 (lv_at hl 0 rfl) ?_
    refine lv_iload_n hx hb dX2_init_55 rfl (lv_at hl 2 rfl) ?_
    refine lv_iload hx hb dX2_init_56 (lv_at hl 0 rfl) ?_
    refine vp_callSi (va_Run.run (va_runSN (As := [.int mk, .int 3]) (rest := [.int 3, .ref t700047]) ⟨hx, hb, hml, hown, hts⟩ (c_X5_contains l mk 3) ⟨va_cnB 2 hts gX2_init_X5_contains_n37 rfl rfl rfl hn37 (hts (.initialized RX5) (by decide +kernel)) (by decide +kernel) ⟨Nat.le_of_ble_eq_true rfl, Nat.le_of_ble_eq_true rfl⟩, hts (.static yX5_contains) (by decide +kernel), trivial⟩ preEq rfl rfl hl.1 rfl (lv_room (Nat.le_of_ble_eq_true rfl)) dX2_init_58 ⟨Nat.le_of_ble_eq_true rfl, Nat.le_of_ble_eq_true rfl⟩)) (fun r700048 hr700048 => ?_)
    refine lv_if_eq (tgt := 76) hx hb dX2_init_61 (by decide) (fun c700049 => ?_) (fun c700049 => ?_)
    · refine lv_null hx hb dX2_init_76 ?_
      obtain ⟨j700050, hj700050⟩ := pG_12 (cy := cy) (N := N) (T := T) (I := I700044) (Q := Q700044) (J := J700044) hLt700047 hkt700047
      have hDo := hD
      refine va_astqN hx hb hK hP hD hS j700050 5 hj700050 rfl (by unfold vp_in; decide) dX2_init_77 (fun H locs hP hD hS => ?_)
      have hP := Eq.mp (congrArg (fun w => va_P (dC, dI) vwCl w H) (pS_12 (x := none) hDo hLt700047 hkt700047 hj700050)) hP
      obtain ⟨Q700051, eQ700051⟩ : ∃ z, z = p2 Q700044 t700047 ((3 : Int32).toNatClampNeg) none := ⟨_, rfl⟩
      rw [← eQ700051] at hP
      have hR : RS v I700044 Q700044 J700044 I700044 Q700051 J700044 := by rw [eQ700051]; exact hR.pq hC (by rw [hkt700047]; decide)
      have hC : CT v L K N T I700044 Q700051 := by rw [eQ700051]; exact hC.q12 hkt700047 (fun b hb => by cases hb)
      have hD : va_D A (va_pl L (pF cy K N T I700044 Q700051 J700044)) := pD hDo
      refine lv_iinc (v := 4) (lv' := [(5, .int 4), (0, .ref h0), (1, .int mk), (2, .int st), (3, .int mn), (4, .int nw)]) hx hb dX2_init_78 hl (k := 0) rfl (by decide) (by decide) rfl (fun ls hl => ?_)
      refine lv_goto (tgt := 43) hx hb dX2_init_81 (by decide) ?_
      refine W.widen (k := 9) (n := 273) (by omega) (by omega) ?_
      exact hU700028_4 _ _ _ _ _ _ _ _ _ _ (by rw [eQ700051, show (3 : Int32).toNatClampNeg = 3 by decide]; exact hXB.nul (by decide) (sp_cn8_0 (by decide) (by rw [show nI 3 = (3 : Int32) by decide, ← hr700048]; exact c700049)) et700047 (by rw [eQ700051, show (3 : Int32).toNatClampNeg = 3 by decide] at hC; exact hC)) hP hD hS (lv_sub hl [0, 1, 2, 3, 4, 5] rfl)
    · refine va_new (ci := 4) (fs := [.null, .int 0, .int 0, .int 0, .int 0, .int 0, .int 0]) (C := RX4) (T := TX4) (N := 7) hx hb hts hi4 tyX4 tyX4_ok hown (hts (.classLink RX2 9 RX4) (by decide +kernel)) (hts (.instantiable RX4 7) (by decide +kernel)) (hts (.initialized RX4) (by decide +kernel)) hK hP hD hS hA rfl (fun j hj => by rcases (show j = 0 ∨ j = 1 ∨ j = 2 ∨ j = 3 ∨ j = 4 ∨ j = 5 ∨ j = 6 by omega) with rfl | rfl | rfl | rfl | rfl | rfl | rfl <;> rfl) (Nat.le_of_ble_eq_true rfl) (Nat.le_of_ble_eq_true rfl) dX2_init_64 (fun q700052 H hP hD hS => ?_)
      refine W.widen (k := 8) (n := 213) (by omega) (by omega) ?_
      have hP := va_P.swap (a := []) hP
      have hD := va_D.swap (a := []) hD
      have hP : va_P (dC, dI) vwCl ((q700052, .inr (4, [.null, .int 0, .int 0, .int 0, .int 0, .int 0, .int 0])) :: va_pl L (pF cy K N T I700044 Q700044 J700044)) H := hP
      have hD : va_D A ((q700052, .inr (4, [.null, .int 0, .int 0, .int 0, .int 0, .int 0, .int 0])) :: va_pl L (pF cy K N T I700044 Q700044 J700044)) := hD
      refine lv_dup hx hb dX2_init_67 rfl ?_
      refine lv_iload hx hb dX2_init_68 (lv_at hl 5 rfl) ?_
      have hFc := pfree hD hS hA
      refine va_callv (va_runI (As := [.int nw]) (rest := [.ref q700052, .int 3, .ref t700047]) ⟨hx, hb, hml, hown, hts⟩ (g_X4_init l dC dI cy v L K N T I700044 Q700044 J700044 H.size q700052 nw hC) (cwI 1 hts gX2_init_X4_init rfl rfl rfl (hts (.initialized RX4) (by decide +kernel)) (hts (.methodLink RX2 41 yX4_init) (by decide +kernel)) (hts (.instanceMethod yX4_init) (by decide +kernel)) rfl (by decide +kernel) ⟨Nat.le_of_ble_eq_true rfl, Nat.le_of_ble_eq_true rfl⟩) ⟨pw1_blind, fun U hU hW => ⟨rfl, pw1_pre hP hK hN hD hU hW⟩⟩ rfl rfl hl.1 rfl (lv_room (Nat.le_of_ble_eq_true rfl)) dX2_init_70 ⟨Nat.le_of_ble_eq_true rfl, Nat.le_of_ble_eq_true rfl⟩) hS (fun q _ h => hFc q h) hFc (fun d9 t H1 locs ht hvm hw hB hz1 hk1 hS => ?_)
      obtain ⟨L, K, T, I700053, Q700053, J700053⟩ := d9
      obtain ⟨hC, hXe, hIQ, eJ700053, ⟨⟨hLq700052, hkq700052⟩, hnr⟩, hfr⟩ := hw
      have eJ700053 : J700053 = J700044 := eJ700053
      have hIQ : ∀ b, b ∈ _ → I700053 b = I700044 b ∧ Q700053 b = Q700044 b := hIQ
      have hfr : ∀ f, 1 ≤ f → f ≤ 6 → I700053 q700052 f = if f = 6 then nw else 0 := hfr
      have hLt2 : t700047 ∈ L := (hXe _ hLt700047).1
      have hkt2 : K t700047 = 12 := (hXe _ hLt700047).2.1.trans hkt700047
      obtain ⟨hP, hK1, hD1⟩ := hB
      rw [ht] at hP
      have hD := hD1.weaken (fun _ _ _ h => hFc _ h)
      generalize H1 = H at hP hS ⊢
      have hP : va_P (dC, dI) vwCl (va_pl L (pF cy K N T I700053 Q700053 J700053)) H := hP
      have hD : va_D A (va_pl L (pF cy K N T I700053 Q700053 J700053)) := hD
      have hR : RS v I700053 Q700053 J700053 I700053 Q700053 J700053 := RS.rf
      have hC : CT v L K N T I700053 Q700053 := hC
      refine W.widen (k := 9) (n := 273) (by omega) (by omega) ?_
      refine lv_goto (tgt := 77) hx hb dX2_init_73 (by decide) ?_
      obtain ⟨j700054, hj700054⟩ := pG_12 (cy := cy) (N := N) (T := T) (I := I700053) (Q := Q700053) (J := J700053) hLt2 hkt2
      have hDo := hD
      obtain ⟨j700055, hj700055⟩ := pG_4 (cy := cy) (N := N) (T := T) (I := I700053) (Q := Q700053) (J := J700053) hLq700052 hkq700052
      refine va_astq hx hb hK hP hD hS j700054 5 j700055 4 hj700054 rfl hj700055 rfl (by unfold vp_in; decide) dX2_init_77 (fun H locs hP hD hS => ?_)
      have hP := Eq.mp (congrArg (fun w => va_P (dC, dI) vwCl w H) (pS_12 (x := (some q700052)) hDo hLt2 hkt2 hj700054)) hP
      obtain ⟨Q700056, eQ700056⟩ : ∃ z, z = p2 Q700053 t700047 ((3 : Int32).toNatClampNeg) (some q700052) := ⟨_, rfl⟩
      rw [← eQ700056] at hP
      have hR : RS v I700053 Q700053 J700053 I700053 Q700056 J700053 := by rw [eQ700056]; exact hR.pq hC (by rw [hkt2]; decide)
      have hC : CT v L K N T I700053 Q700056 := by rw [eQ700056]; exact hC.q12 hkt2 (fun b hb => by cases hb; exact ⟨hLq700052, hkq700052⟩)
      have hD : va_D A (va_pl L (pF cy K N T I700053 Q700056 J700053)) := pD hDo
      refine lv_iinc (v := 4) (lv' := [(5, .int 4), (0, .ref h0), (1, .int mk), (2, .int st), (3, .int mn), (4, .int nw)]) hx hb dX2_init_78 hl (k := 0) rfl (by decide) (by decide) rfl (fun ls hl => ?_)
      refine lv_goto (tgt := 43) hx hb dX2_init_81 (by decide) ?_
      refine W.widen (k := 9) (n := 273) (by omega) (by omega) ?_
      exact hU700028_4 _ _ _ _ _ _ _ _ _ _ (by rw [eQ700056, show (3 : Int32).toNatClampNeg = 3 by decide]; exact hXB.rep (by decide) (sp_cn8_1 (by decide) (by rw [show nI 3 = (3 : Int32) by decide, ← hr700048]; exact c700049)) et700047 hXe hIQ eJ700053 ⟨hLq700052, hkq700052⟩ hnr hfr (by rw [eQ700056, show (3 : Int32).toNatClampNeg = 3 by decide] at hC; exact hC)) hP hD hS (lv_sub hl [0, 1, 2, 3, 4, 5] rfl)
  have hU700028_2 : ∀ (Lz : List Nat) (Kz : Nat → Nat) (Tz : Nat → Nat → Nat) (Iz : Nat → Nat → Int32) (Qy : Nat → Nat → Option Nat) (Jz : Nat → Nat → Int32) (cz : Nat → Nat) (H : Heap) (locs : List Loc) (ls : Array Slot), XB v N Lo Ko To I Q J mk st mn nw h0 2 cz Lz Kz Tz Iz Qy Jz → va_P (dC, dI) vwCl (va_pl Lz (pF cy Kz N Tz Iz Qy Jz)) H → va_D A (va_pl Lz (pF cy Kz N Tz Iz Qy Jz)) → va_S A s.heap H locs → lv_has ls 6 [(5, .int 2), (0, .ref h0), (1, .int mk), (2, .int st), (3, .int mn), (4, .int nw)] → W p l e (headSpec wsX2_init ({ frames := 2, cells := 11, slots := 340, locals := 42 })).room s m ([.ref h0, .int mk, .int st, .int mn, .int nw] : List Value).toArray below meth c H locs 5 139 Qz (F0 m 43 ls []) := by
    intro L K T I700057 Q700057 J700057 cz H locs ls hXB hP hD hS hl
    have hC := hXB.ct
    have hR : RS v I700057 Q700057 J700057 I700057 Q700057 J700057 := RS.rf
    refine lv_iload hx hb dX2_init_43 (lv_at hl 0 rfl) ?_
    refine lv_iconst (v := 5) hx hb dX2_init_45 (by decide) ?_
    refine lv_icmp_ge (tgt := 84) hx hb dX2_init_46 (by decide) (fun c700058 => ?_) (fun c700058 => ?_)
    · exact absurd c700058 (by decide)
    refine lv_aload_n hx hb dX2_init_49 rfl (lv_at hl 1 rfl) ?_
    obtain ⟨j700059, hj700059⟩ := pG_2 (cy := cy) (N := N) (T := T) (I := I700057) (Q := Q700057) (J := J700057) hXB.2.2.2.2.1.1.1 hXB.2.2.2.2.1.1.2
    refine va_get (D := (dC, dI)) (ci := 2) (v := .ref (T h0 2)) (C := RX2) (T := TX2) (N := 6) hx hb hts hi2 hown hK hP j700059 hj700059 rfl 2 (by decide) (hts (.fieldLink RX2 11 "TallyLogs$Partition" "replicas" "[LTallyLogs$Replica;") (by decide +kernel)) (fun _ h9 => h9) rfl dX2_init_50 ?_
    obtain ⟨t700060, et700060⟩ : ∃ t, t = T h0 2 := ⟨_, rfl⟩
    have hLt700060 : t700060 ∈ L := by rw [et700060]; exact (hC.2.2.2.2.1 h0 hXB.2.2.2.2.1.1.1 hXB.2.2.2.2.1.1.2).1
    have hkt700060 : K t700060 = 12 := by rw [et700060]; exact (hC.2.2.2.2.1 h0 hXB.2.2.2.2.1.1.1 hXB.2.2.2.2.1.1.2).2
    refine W.eq (g2 := F0 m 53 ls [.ref t700060]) (by rw [et700060]) ?_
    refine lv_iload hx hb dX2_init_53 (lv_at hl 0 rfl) ?_
    refine lv_iload_n hx hb dX2_init_55 rfl (lv_at hl 2 rfl) ?_
    refine lv_iload hx hb dX2_init_56 (lv_at hl 0 rfl) ?_
    refine vp_callSi (va_Run.run (va_runSN (As := [.int mk, .int 2]) (rest := [.int 2, .ref t700060]) ⟨hx, hb, hml, hown, hts⟩ (c_X5_contains l mk 2) ⟨va_cnB 2 hts gX2_init_X5_contains_n37 rfl rfl rfl hn37 (hts (.initialized RX5) (by decide +kernel)) (by decide +kernel) ⟨Nat.le_of_ble_eq_true rfl, Nat.le_of_ble_eq_true rfl⟩, hts (.static yX5_contains) (by decide +kernel), trivial⟩ preEq rfl rfl hl.1 rfl (lv_room (Nat.le_of_ble_eq_true rfl)) dX2_init_58 ⟨Nat.le_of_ble_eq_true rfl, Nat.le_of_ble_eq_true rfl⟩)) (fun r700061 hr700061 => ?_)
    refine lv_if_eq (tgt := 76) hx hb dX2_init_61 (by decide) (fun c700062 => ?_) (fun c700062 => ?_)
    · refine lv_null hx hb dX2_init_76 ?_
      obtain ⟨j700063, hj700063⟩ := pG_12 (cy := cy) (N := N) (T := T) (I := I700057) (Q := Q700057) (J := J700057) hLt700060 hkt700060
      have hDo := hD
      refine va_astqN hx hb hK hP hD hS j700063 5 hj700063 rfl (by unfold vp_in; decide) dX2_init_77 (fun H locs hP hD hS => ?_)
      have hP := Eq.mp (congrArg (fun w => va_P (dC, dI) vwCl w H) (pS_12 (x := none) hDo hLt700060 hkt700060 hj700063)) hP
      obtain ⟨Q700064, eQ700064⟩ : ∃ z, z = p2 Q700057 t700060 ((2 : Int32).toNatClampNeg) none := ⟨_, rfl⟩
      rw [← eQ700064] at hP
      have hR : RS v I700057 Q700057 J700057 I700057 Q700064 J700057 := by rw [eQ700064]; exact hR.pq hC (by rw [hkt700060]; decide)
      have hC : CT v L K N T I700057 Q700064 := by rw [eQ700064]; exact hC.q12 hkt700060 (fun b hb => by cases hb)
      have hD : va_D A (va_pl L (pF cy K N T I700057 Q700064 J700057)) := pD hDo
      refine lv_iinc (v := 3) (lv' := [(5, .int 3), (0, .ref h0), (1, .int mk), (2, .int st), (3, .int mn), (4, .int nw)]) hx hb dX2_init_78 hl (k := 0) rfl (by decide) (by decide) rfl (fun ls hl => ?_)
      refine lv_goto (tgt := 43) hx hb dX2_init_81 (by decide) ?_
      refine W.widen (k := 7) (n := 206) (by omega) (by omega) ?_
      exact hU700028_3 _ _ _ _ _ _ _ _ _ _ (by rw [eQ700064, show (2 : Int32).toNatClampNeg = 2 by decide]; exact hXB.nul (by decide) (sp_cn8_0 (by decide) (by rw [show nI 2 = (2 : Int32) by decide, ← hr700061]; exact c700062)) et700060 (by rw [eQ700064, show (2 : Int32).toNatClampNeg = 2 by decide] at hC; exact hC)) hP hD hS (lv_sub hl [0, 1, 2, 3, 4, 5] rfl)
    · refine va_new (ci := 4) (fs := [.null, .int 0, .int 0, .int 0, .int 0, .int 0, .int 0]) (C := RX4) (T := TX4) (N := 7) hx hb hts hi4 tyX4 tyX4_ok hown (hts (.classLink RX2 9 RX4) (by decide +kernel)) (hts (.instantiable RX4 7) (by decide +kernel)) (hts (.initialized RX4) (by decide +kernel)) hK hP hD hS hA rfl (fun j hj => by rcases (show j = 0 ∨ j = 1 ∨ j = 2 ∨ j = 3 ∨ j = 4 ∨ j = 5 ∨ j = 6 by omega) with rfl | rfl | rfl | rfl | rfl | rfl | rfl <;> rfl) (Nat.le_of_ble_eq_true rfl) (Nat.le_of_ble_eq_true rfl) dX2_init_64 (fun q700065 H hP hD hS => ?_)
      refine W.widen (k := 6) (n := 146) (by omega) (by omega) ?_
      have hP := va_P.swap (a := []) hP
      have hD := va_D.swap (a := []) hD
      have hP : va_P (dC, dI) vwCl ((q700065, .inr (4, [.null, .int 0, .int 0, .int 0, .int 0, .int 0, .int 0])) :: va_pl L (pF cy K N T I700057 Q700057 J700057)) H := hP
      have hD : va_D A ((q700065, .inr (4, [.null, .int 0, .int 0, .int 0, .int 0, .int 0, .int 0])) :: va_pl L (pF cy K N T I700057 Q700057 J700057)) := hD
      refine lv_dup hx hb dX2_init_67 rfl ?_
      refine lv_iload hx hb dX2_init_68 (lv_at hl 5 rfl) ?_
      have hFc := pfree hD hS hA
      refine va_callv (va_runI (As := [.int nw]) (rest := [.ref q700065, .int 2, .ref t700060]) ⟨hx, hb, hml, hown, hts⟩ (g_X4_init l dC dI cy v L K N T I700057 Q700057 J700057 H.size q700065 nw hC) (cwI 1 hts gX2_init_X4_init rfl rfl rfl (hts (.initialized RX4) (by decide +kernel)) (hts (.methodLink RX2 41 yX4_init) (by decide +kernel)) (hts (.instanceMethod yX4_init) (by decide +kernel)) rfl (by decide +kernel) ⟨Nat.le_of_ble_eq_true rfl, Nat.le_of_ble_eq_true rfl⟩) ⟨pw1_blind, fun U hU hW => ⟨rfl, pw1_pre hP hK hN hD hU hW⟩⟩ rfl rfl hl.1 rfl (lv_room (Nat.le_of_ble_eq_true rfl)) dX2_init_70 ⟨Nat.le_of_ble_eq_true rfl, Nat.le_of_ble_eq_true rfl⟩) hS (fun q _ h => hFc q h) hFc (fun d9 t H1 locs ht hvm hw hB hz1 hk1 hS => ?_)
      obtain ⟨L, K, T, I700066, Q700066, J700066⟩ := d9
      obtain ⟨hC, hXe, hIQ, eJ700066, ⟨⟨hLq700065, hkq700065⟩, hnr⟩, hfr⟩ := hw
      have eJ700066 : J700066 = J700057 := eJ700066
      have hIQ : ∀ b, b ∈ _ → I700066 b = I700057 b ∧ Q700066 b = Q700057 b := hIQ
      have hfr : ∀ f, 1 ≤ f → f ≤ 6 → I700066 q700065 f = if f = 6 then nw else 0 := hfr
      have hLt2 : t700060 ∈ L := (hXe _ hLt700060).1
      have hkt2 : K t700060 = 12 := (hXe _ hLt700060).2.1.trans hkt700060
      obtain ⟨hP, hK1, hD1⟩ := hB
      rw [ht] at hP
      have hD := hD1.weaken (fun _ _ _ h => hFc _ h)
      generalize H1 = H at hP hS ⊢
      have hP : va_P (dC, dI) vwCl (va_pl L (pF cy K N T I700066 Q700066 J700066)) H := hP
      have hD : va_D A (va_pl L (pF cy K N T I700066 Q700066 J700066)) := hD
      have hR : RS v I700066 Q700066 J700066 I700066 Q700066 J700066 := RS.rf
      have hC : CT v L K N T I700066 Q700066 := hC
      refine W.widen (k := 7) (n := 206) (by omega) (by omega) ?_
      refine lv_goto (tgt := 77) hx hb dX2_init_73 (by decide) ?_
      obtain ⟨j700067, hj700067⟩ := pG_12 (cy := cy) (N := N) (T := T) (I := I700066) (Q := Q700066) (J := J700066) hLt2 hkt2
      have hDo := hD
      obtain ⟨j700068, hj700068⟩ := pG_4 (cy := cy) (N := N) (T := T) (I := I700066) (Q := Q700066) (J := J700066) hLq700065 hkq700065
      refine va_astq hx hb hK hP hD hS j700067 5 j700068 4 hj700067 rfl hj700068 rfl (by unfold vp_in; decide) dX2_init_77 (fun H locs hP hD hS => ?_)
      have hP := Eq.mp (congrArg (fun w => va_P (dC, dI) vwCl w H) (pS_12 (x := (some q700065)) hDo hLt2 hkt2 hj700067)) hP
      obtain ⟨Q700069, eQ700069⟩ : ∃ z, z = p2 Q700066 t700060 ((2 : Int32).toNatClampNeg) (some q700065) := ⟨_, rfl⟩
      rw [← eQ700069] at hP
      have hR : RS v I700066 Q700066 J700066 I700066 Q700069 J700066 := by rw [eQ700069]; exact hR.pq hC (by rw [hkt2]; decide)
      have hC : CT v L K N T I700066 Q700069 := by rw [eQ700069]; exact hC.q12 hkt2 (fun b hb => by cases hb; exact ⟨hLq700065, hkq700065⟩)
      have hD : va_D A (va_pl L (pF cy K N T I700066 Q700069 J700066)) := pD hDo
      refine lv_iinc (v := 3) (lv' := [(5, .int 3), (0, .ref h0), (1, .int mk), (2, .int st), (3, .int mn), (4, .int nw)]) hx hb dX2_init_78 hl (k := 0) rfl (by decide) (by decide) rfl (fun ls hl => ?_)
      refine lv_goto (tgt := 43) hx hb dX2_init_81 (by decide) ?_
      refine W.widen (k := 7) (n := 206) (by omega) (by omega) ?_
      exact hU700028_3 _ _ _ _ _ _ _ _ _ _ (by rw [eQ700069, show (2 : Int32).toNatClampNeg = 2 by decide]; exact hXB.rep (by decide) (sp_cn8_1 (by decide) (by rw [show nI 2 = (2 : Int32) by decide, ← hr700061]; exact c700062)) et700060 hXe hIQ eJ700066 ⟨hLq700065, hkq700065⟩ hnr hfr (by rw [eQ700069, show (2 : Int32).toNatClampNeg = 2 by decide] at hC; exact hC)) hP hD hS (lv_sub hl [0, 1, 2, 3, 4, 5] rfl)
  have hU700028_1 : ∀ (Lz : List Nat) (Kz : Nat → Nat) (Tz : Nat → Nat → Nat) (Iz : Nat → Nat → Int32) (Qy : Nat → Nat → Option Nat) (Jz : Nat → Nat → Int32) (cz : Nat → Nat) (H : Heap) (locs : List Loc) (ls : Array Slot), XB v N Lo Ko To I Q J mk st mn nw h0 1 cz Lz Kz Tz Iz Qy Jz → va_P (dC, dI) vwCl (va_pl Lz (pF cy Kz N Tz Iz Qy Jz)) H → va_D A (va_pl Lz (pF cy Kz N Tz Iz Qy Jz)) → va_S A s.heap H locs → lv_has ls 6 [(5, .int 1), (0, .ref h0), (1, .int mk), (2, .int st), (3, .int mn), (4, .int nw)] → W p l e (headSpec wsX2_init ({ frames := 2, cells := 11, slots := 340, locals := 42 })).room s m ([.ref h0, .int mk, .int st, .int mn, .int nw] : List Value).toArray below meth c H locs 3 72 Qz (F0 m 43 ls []) := by
    intro L K T I700070 Q700070 J700070 cz H locs ls hXB hP hD hS hl
    have hC := hXB.ct
    have hR : RS v I700070 Q700070 J700070 I700070 Q700070 J700070 := RS.rf
    refine lv_iload hx hb dX2_init_43 (lv_at hl 0 rfl) ?_
    refine lv_iconst (v := 5) hx hb dX2_init_45 (by decide) ?_
    refine lv_icmp_ge (tgt := 84) hx hb dX2_init_46 (by decide) (fun c700071 => ?_) (fun c700071 => ?_)
    · exact absurd c700071 (by decide)
    refine lv_aload_n hx hb dX2_init_49 rfl (lv_at hl 1 rfl) ?_
    obtain ⟨j700072, hj700072⟩ := pG_2 (cy := cy) (N := N) (T := T) (I := I700070) (Q := Q700070) (J := J700070) hXB.2.2.2.2.1.1.1 hXB.2.2.2.2.1.1.2
    refine va_get (D := (dC, dI)) (ci := 2) (v := .ref (T h0 2)) (C := RX2) (T := TX2) (N := 6) hx hb hts hi2 hown hK hP j700072 hj700072 rfl 2 (by decide) (hts (.fieldLink RX2 11 "TallyLogs$Partition" "replicas" "[LTallyLogs$Replica;") (by decide +kernel)) (fun _ h9 => h9) rfl dX2_init_50 ?_
    obtain ⟨t700073, et700073⟩ : ∃ t, t = T h0 2 := ⟨_, rfl⟩
    have hLt700073 : t700073 ∈ L := by rw [et700073]; exact (hC.2.2.2.2.1 h0 hXB.2.2.2.2.1.1.1 hXB.2.2.2.2.1.1.2).1
    have hkt700073 : K t700073 = 12 := by rw [et700073]; exact (hC.2.2.2.2.1 h0 hXB.2.2.2.2.1.1.1 hXB.2.2.2.2.1.1.2).2
    refine W.eq (g2 := F0 m 53 ls [.ref t700073]) (by rw [et700073]) ?_
    refine lv_iload hx hb dX2_init_53 (lv_at hl 0 rfl) ?_
    refine lv_iload_n hx hb dX2_init_55 rfl (lv_at hl 2 rfl) ?_
    refine lv_iload hx hb dX2_init_56 (lv_at hl 0 rfl) ?_
    refine vp_callSi (va_Run.run (va_runSN (As := [.int mk, .int 1]) (rest := [.int 1, .ref t700073]) ⟨hx, hb, hml, hown, hts⟩ (c_X5_contains l mk 1) ⟨va_cnB 2 hts gX2_init_X5_contains_n37 rfl rfl rfl hn37 (hts (.initialized RX5) (by decide +kernel)) (by decide +kernel) ⟨Nat.le_of_ble_eq_true rfl, Nat.le_of_ble_eq_true rfl⟩, hts (.static yX5_contains) (by decide +kernel), trivial⟩ preEq rfl rfl hl.1 rfl (lv_room (Nat.le_of_ble_eq_true rfl)) dX2_init_58 ⟨Nat.le_of_ble_eq_true rfl, Nat.le_of_ble_eq_true rfl⟩)) (fun r700074 hr700074 => ?_)
    refine lv_if_eq (tgt := 76) hx hb dX2_init_61 (by decide) (fun c700075 => ?_) (fun c700075 => ?_)
    · refine lv_null hx hb dX2_init_76 ?_
      obtain ⟨j700076, hj700076⟩ := pG_12 (cy := cy) (N := N) (T := T) (I := I700070) (Q := Q700070) (J := J700070) hLt700073 hkt700073
      have hDo := hD
      refine va_astqN hx hb hK hP hD hS j700076 5 hj700076 rfl (by unfold vp_in; decide) dX2_init_77 (fun H locs hP hD hS => ?_)
      have hP := Eq.mp (congrArg (fun w => va_P (dC, dI) vwCl w H) (pS_12 (x := none) hDo hLt700073 hkt700073 hj700076)) hP
      obtain ⟨Q700077, eQ700077⟩ : ∃ z, z = p2 Q700070 t700073 ((1 : Int32).toNatClampNeg) none := ⟨_, rfl⟩
      rw [← eQ700077] at hP
      have hR : RS v I700070 Q700070 J700070 I700070 Q700077 J700070 := by rw [eQ700077]; exact hR.pq hC (by rw [hkt700073]; decide)
      have hC : CT v L K N T I700070 Q700077 := by rw [eQ700077]; exact hC.q12 hkt700073 (fun b hb => by cases hb)
      have hD : va_D A (va_pl L (pF cy K N T I700070 Q700077 J700070)) := pD hDo
      refine lv_iinc (v := 2) (lv' := [(5, .int 2), (0, .ref h0), (1, .int mk), (2, .int st), (3, .int mn), (4, .int nw)]) hx hb dX2_init_78 hl (k := 0) rfl (by decide) (by decide) rfl (fun ls hl => ?_)
      refine lv_goto (tgt := 43) hx hb dX2_init_81 (by decide) ?_
      refine W.widen (k := 5) (n := 139) (by omega) (by omega) ?_
      exact hU700028_2 _ _ _ _ _ _ _ _ _ _ (by rw [eQ700077, show (1 : Int32).toNatClampNeg = 1 by decide]; exact hXB.nul (by decide) (sp_cn8_0 (by decide) (by rw [show nI 1 = (1 : Int32) by decide, ← hr700074]; exact c700075)) et700073 (by rw [eQ700077, show (1 : Int32).toNatClampNeg = 1 by decide] at hC; exact hC)) hP hD hS (lv_sub hl [0, 1, 2, 3, 4, 5] rfl)
    · refine va_new (ci := 4) (fs := [.null, .int 0, .int 0, .int 0, .int 0, .int 0, .int 0]) (C := RX4) (T := TX4) (N := 7) hx hb hts hi4 tyX4 tyX4_ok hown (hts (.classLink RX2 9 RX4) (by decide +kernel)) (hts (.instantiable RX4 7) (by decide +kernel)) (hts (.initialized RX4) (by decide +kernel)) hK hP hD hS hA rfl (fun j hj => by rcases (show j = 0 ∨ j = 1 ∨ j = 2 ∨ j = 3 ∨ j = 4 ∨ j = 5 ∨ j = 6 by omega) with rfl | rfl | rfl | rfl | rfl | rfl | rfl <;> rfl) (Nat.le_of_ble_eq_true rfl) (Nat.le_of_ble_eq_true rfl) dX2_init_64 (fun q700078 H hP hD hS => ?_)
      refine W.widen (k := 4) (n := 79) (by omega) (by omega) ?_
      have hP := va_P.swap (a := []) hP
      have hD := va_D.swap (a := []) hD
      have hP : va_P (dC, dI) vwCl ((q700078, .inr (4, [.null, .int 0, .int 0, .int 0, .int 0, .int 0, .int 0])) :: va_pl L (pF cy K N T I700070 Q700070 J700070)) H := hP
      have hD : va_D A ((q700078, .inr (4, [.null, .int 0, .int 0, .int 0, .int 0, .int 0, .int 0])) :: va_pl L (pF cy K N T I700070 Q700070 J700070)) := hD
      refine lv_dup hx hb dX2_init_67 rfl ?_
      refine lv_iload hx hb dX2_init_68 (lv_at hl 5 rfl) ?_
      have hFc := pfree hD hS hA
      refine va_callv (va_runI (As := [.int nw]) (rest := [.ref q700078, .int 1, .ref t700073]) ⟨hx, hb, hml, hown, hts⟩ (g_X4_init l dC dI cy v L K N T I700070 Q700070 J700070 H.size q700078 nw hC) (cwI 1 hts gX2_init_X4_init rfl rfl rfl (hts (.initialized RX4) (by decide +kernel)) (hts (.methodLink RX2 41 yX4_init) (by decide +kernel)) (hts (.instanceMethod yX4_init) (by decide +kernel)) rfl (by decide +kernel) ⟨Nat.le_of_ble_eq_true rfl, Nat.le_of_ble_eq_true rfl⟩) ⟨pw1_blind, fun U hU hW => ⟨rfl, pw1_pre hP hK hN hD hU hW⟩⟩ rfl rfl hl.1 rfl (lv_room (Nat.le_of_ble_eq_true rfl)) dX2_init_70 ⟨Nat.le_of_ble_eq_true rfl, Nat.le_of_ble_eq_true rfl⟩) hS (fun q _ h => hFc q h) hFc (fun d9 t H1 locs ht hvm hw hB hz1 hk1 hS => ?_)
      obtain ⟨L, K, T, I700079, Q700079, J700079⟩ := d9
      obtain ⟨hC, hXe, hIQ, eJ700079, ⟨⟨hLq700078, hkq700078⟩, hnr⟩, hfr⟩ := hw
      have eJ700079 : J700079 = J700070 := eJ700079
      have hIQ : ∀ b, b ∈ _ → I700079 b = I700070 b ∧ Q700079 b = Q700070 b := hIQ
      have hfr : ∀ f, 1 ≤ f → f ≤ 6 → I700079 q700078 f = if f = 6 then nw else 0 := hfr
      have hLt2 : t700073 ∈ L := (hXe _ hLt700073).1
      have hkt2 : K t700073 = 12 := (hXe _ hLt700073).2.1.trans hkt700073
      obtain ⟨hP, hK1, hD1⟩ := hB
      rw [ht] at hP
      have hD := hD1.weaken (fun _ _ _ h => hFc _ h)
      generalize H1 = H at hP hS ⊢
      have hP : va_P (dC, dI) vwCl (va_pl L (pF cy K N T I700079 Q700079 J700079)) H := hP
      have hD : va_D A (va_pl L (pF cy K N T I700079 Q700079 J700079)) := hD
      have hR : RS v I700079 Q700079 J700079 I700079 Q700079 J700079 := RS.rf
      have hC : CT v L K N T I700079 Q700079 := hC
      refine W.widen (k := 5) (n := 139) (by omega) (by omega) ?_
      refine lv_goto (tgt := 77) hx hb dX2_init_73 (by decide) ?_
      obtain ⟨j700080, hj700080⟩ := pG_12 (cy := cy) (N := N) (T := T) (I := I700079) (Q := Q700079) (J := J700079) hLt2 hkt2
      have hDo := hD
      obtain ⟨j700081, hj700081⟩ := pG_4 (cy := cy) (N := N) (T := T) (I := I700079) (Q := Q700079) (J := J700079) hLq700078 hkq700078
      refine va_astq hx hb hK hP hD hS j700080 5 j700081 4 hj700080 rfl hj700081 rfl (by unfold vp_in; decide) dX2_init_77 (fun H locs hP hD hS => ?_)
      have hP := Eq.mp (congrArg (fun w => va_P (dC, dI) vwCl w H) (pS_12 (x := (some q700078)) hDo hLt2 hkt2 hj700080)) hP
      obtain ⟨Q700082, eQ700082⟩ : ∃ z, z = p2 Q700079 t700073 ((1 : Int32).toNatClampNeg) (some q700078) := ⟨_, rfl⟩
      rw [← eQ700082] at hP
      have hR : RS v I700079 Q700079 J700079 I700079 Q700082 J700079 := by rw [eQ700082]; exact hR.pq hC (by rw [hkt2]; decide)
      have hC : CT v L K N T I700079 Q700082 := by rw [eQ700082]; exact hC.q12 hkt2 (fun b hb => by cases hb; exact ⟨hLq700078, hkq700078⟩)
      have hD : va_D A (va_pl L (pF cy K N T I700079 Q700082 J700079)) := pD hDo
      refine lv_iinc (v := 2) (lv' := [(5, .int 2), (0, .ref h0), (1, .int mk), (2, .int st), (3, .int mn), (4, .int nw)]) hx hb dX2_init_78 hl (k := 0) rfl (by decide) (by decide) rfl (fun ls hl => ?_)
      refine lv_goto (tgt := 43) hx hb dX2_init_81 (by decide) ?_
      refine W.widen (k := 5) (n := 139) (by omega) (by omega) ?_
      exact hU700028_2 _ _ _ _ _ _ _ _ _ _ (by rw [eQ700082, show (1 : Int32).toNatClampNeg = 1 by decide]; exact hXB.rep (by decide) (sp_cn8_1 (by decide) (by rw [show nI 1 = (1 : Int32) by decide, ← hr700074]; exact c700075)) et700073 hXe hIQ eJ700079 ⟨hLq700078, hkq700078⟩ hnr hfr (by rw [eQ700082, show (1 : Int32).toNatClampNeg = 1 by decide] at hC; exact hC)) hP hD hS (lv_sub hl [0, 1, 2, 3, 4, 5] rfl)
  have hU700028_0 : ∀ (Lz : List Nat) (Kz : Nat → Nat) (Tz : Nat → Nat → Nat) (Iz : Nat → Nat → Int32) (Qy : Nat → Nat → Option Nat) (Jz : Nat → Nat → Int32) (cz : Nat → Nat) (H : Heap) (locs : List Loc) (ls : Array Slot), XB v N Lo Ko To I Q J mk st mn nw h0 0 cz Lz Kz Tz Iz Qy Jz → va_P (dC, dI) vwCl (va_pl Lz (pF cy Kz N Tz Iz Qy Jz)) H → va_D A (va_pl Lz (pF cy Kz N Tz Iz Qy Jz)) → va_S A s.heap H locs → lv_has ls 6 [(5, .int 0), (0, .ref h0), (1, .int mk), (2, .int st), (3, .int mn), (4, .int nw)] → W p l e (headSpec wsX2_init ({ frames := 2, cells := 11, slots := 340, locals := 42 })).room s m ([.ref h0, .int mk, .int st, .int mn, .int nw] : List Value).toArray below meth c H locs 1 5 Qz (F0 m 43 ls []) := by
    intro L K T I700083 Q700083 J700083 cz H locs ls hXB hP hD hS hl
    have hC := hXB.ct
    have hR : RS v I700083 Q700083 J700083 I700083 Q700083 J700083 := RS.rf
    refine lv_iload hx hb dX2_init_43 (lv_at hl 0 rfl) ?_
    refine lv_iconst (v := 5) hx hb dX2_init_45 (by decide) ?_
    refine lv_icmp_ge (tgt := 84) hx hb dX2_init_46 (by decide) (fun c700084 => ?_) (fun c700084 => ?_)
    · exact absurd c700084 (by decide)
    refine lv_aload_n hx hb dX2_init_49 rfl (lv_at hl 1 rfl) ?_
    obtain ⟨j700085, hj700085⟩ := pG_2 (cy := cy) (N := N) (T := T) (I := I700083) (Q := Q700083) (J := J700083) hXB.2.2.2.2.1.1.1 hXB.2.2.2.2.1.1.2
    refine va_get (D := (dC, dI)) (ci := 2) (v := .ref (T h0 2)) (C := RX2) (T := TX2) (N := 6) hx hb hts hi2 hown hK hP j700085 hj700085 rfl 2 (by decide) (hts (.fieldLink RX2 11 "TallyLogs$Partition" "replicas" "[LTallyLogs$Replica;") (by decide +kernel)) (fun _ h9 => h9) rfl dX2_init_50 ?_
    obtain ⟨t700086, et700086⟩ : ∃ t, t = T h0 2 := ⟨_, rfl⟩
    have hLt700086 : t700086 ∈ L := by rw [et700086]; exact (hC.2.2.2.2.1 h0 hXB.2.2.2.2.1.1.1 hXB.2.2.2.2.1.1.2).1
    have hkt700086 : K t700086 = 12 := by rw [et700086]; exact (hC.2.2.2.2.1 h0 hXB.2.2.2.2.1.1.1 hXB.2.2.2.2.1.1.2).2
    refine W.eq (g2 := F0 m 53 ls [.ref t700086]) (by rw [et700086]) ?_
    refine lv_iload hx hb dX2_init_53 (lv_at hl 0 rfl) ?_
    refine lv_iload_n hx hb dX2_init_55 rfl (lv_at hl 2 rfl) ?_
    refine lv_iload hx hb dX2_init_56 (lv_at hl 0 rfl) ?_
    refine vp_callSi (va_Run.run (va_runSN (As := [.int mk, .int 0]) (rest := [.int 0, .ref t700086]) ⟨hx, hb, hml, hown, hts⟩ (c_X5_contains l mk 0) ⟨va_cnB 2 hts gX2_init_X5_contains_n37 rfl rfl rfl hn37 (hts (.initialized RX5) (by decide +kernel)) (by decide +kernel) ⟨Nat.le_of_ble_eq_true rfl, Nat.le_of_ble_eq_true rfl⟩, hts (.static yX5_contains) (by decide +kernel), trivial⟩ preEq rfl rfl hl.1 rfl (lv_room (Nat.le_of_ble_eq_true rfl)) dX2_init_58 ⟨Nat.le_of_ble_eq_true rfl, Nat.le_of_ble_eq_true rfl⟩)) (fun r700087 hr700087 => ?_)
    refine lv_if_eq (tgt := 76) hx hb dX2_init_61 (by decide) (fun c700088 => ?_) (fun c700088 => ?_)
    · refine lv_null hx hb dX2_init_76 ?_
      obtain ⟨j700089, hj700089⟩ := pG_12 (cy := cy) (N := N) (T := T) (I := I700083) (Q := Q700083) (J := J700083) hLt700086 hkt700086
      have hDo := hD
      refine va_astqN hx hb hK hP hD hS j700089 5 hj700089 rfl (by unfold vp_in; decide) dX2_init_77 (fun H locs hP hD hS => ?_)
      have hP := Eq.mp (congrArg (fun w => va_P (dC, dI) vwCl w H) (pS_12 (x := none) hDo hLt700086 hkt700086 hj700089)) hP
      obtain ⟨Q700090, eQ700090⟩ : ∃ z, z = p2 Q700083 t700086 ((0 : Int32).toNatClampNeg) none := ⟨_, rfl⟩
      rw [← eQ700090] at hP
      have hR : RS v I700083 Q700083 J700083 I700083 Q700090 J700083 := by rw [eQ700090]; exact hR.pq hC (by rw [hkt700086]; decide)
      have hC : CT v L K N T I700083 Q700090 := by rw [eQ700090]; exact hC.q12 hkt700086 (fun b hb => by cases hb)
      have hD : va_D A (va_pl L (pF cy K N T I700083 Q700090 J700083)) := pD hDo
      refine lv_iinc (v := 1) (lv' := [(5, .int 1), (0, .ref h0), (1, .int mk), (2, .int st), (3, .int mn), (4, .int nw)]) hx hb dX2_init_78 hl (k := 0) rfl (by decide) (by decide) rfl (fun ls hl => ?_)
      refine lv_goto (tgt := 43) hx hb dX2_init_81 (by decide) ?_
      refine W.widen (k := 3) (n := 72) (by omega) (by omega) ?_
      exact hU700028_1 _ _ _ _ _ _ _ _ _ _ (by rw [eQ700090, show (0 : Int32).toNatClampNeg = 0 by decide]; exact hXB.nul (by decide) (sp_cn8_0 (by decide) (by rw [show nI 0 = (0 : Int32) by decide, ← hr700087]; exact c700088)) et700086 (by rw [eQ700090, show (0 : Int32).toNatClampNeg = 0 by decide] at hC; exact hC)) hP hD hS (lv_sub hl [0, 1, 2, 3, 4, 5] rfl)
    · refine va_new (ci := 4) (fs := [.null, .int 0, .int 0, .int 0, .int 0, .int 0, .int 0]) (C := RX4) (T := TX4) (N := 7) hx hb hts hi4 tyX4 tyX4_ok hown (hts (.classLink RX2 9 RX4) (by decide +kernel)) (hts (.instantiable RX4 7) (by decide +kernel)) (hts (.initialized RX4) (by decide +kernel)) hK hP hD hS hA rfl (fun j hj => by rcases (show j = 0 ∨ j = 1 ∨ j = 2 ∨ j = 3 ∨ j = 4 ∨ j = 5 ∨ j = 6 by omega) with rfl | rfl | rfl | rfl | rfl | rfl | rfl <;> rfl) (Nat.le_of_ble_eq_true rfl) (Nat.le_of_ble_eq_true rfl) dX2_init_64 (fun q700091 H hP hD hS => ?_)
      refine W.widen (k := 2) (n := 12) (by omega) (by omega) ?_
      have hP := va_P.swap (a := []) hP
      have hD := va_D.swap (a := []) hD
      have hP : va_P (dC, dI) vwCl ((q700091, .inr (4, [.null, .int 0, .int 0, .int 0, .int 0, .int 0, .int 0])) :: va_pl L (pF cy K N T I700083 Q700083 J700083)) H := hP
      have hD : va_D A ((q700091, .inr (4, [.null, .int 0, .int 0, .int 0, .int 0, .int 0, .int 0])) :: va_pl L (pF cy K N T I700083 Q700083 J700083)) := hD
      refine lv_dup hx hb dX2_init_67 rfl ?_
      refine lv_iload hx hb dX2_init_68 (lv_at hl 5 rfl) ?_
      have hFc := pfree hD hS hA
      refine va_callv (va_runI (As := [.int nw]) (rest := [.ref q700091, .int 0, .ref t700086]) ⟨hx, hb, hml, hown, hts⟩ (g_X4_init l dC dI cy v L K N T I700083 Q700083 J700083 H.size q700091 nw hC) (cwI 1 hts gX2_init_X4_init rfl rfl rfl (hts (.initialized RX4) (by decide +kernel)) (hts (.methodLink RX2 41 yX4_init) (by decide +kernel)) (hts (.instanceMethod yX4_init) (by decide +kernel)) rfl (by decide +kernel) ⟨Nat.le_of_ble_eq_true rfl, Nat.le_of_ble_eq_true rfl⟩) ⟨pw1_blind, fun U hU hW => ⟨rfl, pw1_pre hP hK hN hD hU hW⟩⟩ rfl rfl hl.1 rfl (lv_room (Nat.le_of_ble_eq_true rfl)) dX2_init_70 ⟨Nat.le_of_ble_eq_true rfl, Nat.le_of_ble_eq_true rfl⟩) hS (fun q _ h => hFc q h) hFc (fun d9 t H1 locs ht hvm hw hB hz1 hk1 hS => ?_)
      obtain ⟨L, K, T, I700092, Q700092, J700092⟩ := d9
      obtain ⟨hC, hXe, hIQ, eJ700092, ⟨⟨hLq700091, hkq700091⟩, hnr⟩, hfr⟩ := hw
      have eJ700092 : J700092 = J700083 := eJ700092
      have hIQ : ∀ b, b ∈ _ → I700092 b = I700083 b ∧ Q700092 b = Q700083 b := hIQ
      have hfr : ∀ f, 1 ≤ f → f ≤ 6 → I700092 q700091 f = if f = 6 then nw else 0 := hfr
      have hLt2 : t700086 ∈ L := (hXe _ hLt700086).1
      have hkt2 : K t700086 = 12 := (hXe _ hLt700086).2.1.trans hkt700086
      obtain ⟨hP, hK1, hD1⟩ := hB
      rw [ht] at hP
      have hD := hD1.weaken (fun _ _ _ h => hFc _ h)
      generalize H1 = H at hP hS ⊢
      have hP : va_P (dC, dI) vwCl (va_pl L (pF cy K N T I700092 Q700092 J700092)) H := hP
      have hD : va_D A (va_pl L (pF cy K N T I700092 Q700092 J700092)) := hD
      have hR : RS v I700092 Q700092 J700092 I700092 Q700092 J700092 := RS.rf
      have hC : CT v L K N T I700092 Q700092 := hC
      refine W.widen (k := 3) (n := 72) (by omega) (by omega) ?_
      refine lv_goto (tgt := 77) hx hb dX2_init_73 (by decide) ?_
      obtain ⟨j700093, hj700093⟩ := pG_12 (cy := cy) (N := N) (T := T) (I := I700092) (Q := Q700092) (J := J700092) hLt2 hkt2
      have hDo := hD
      obtain ⟨j700094, hj700094⟩ := pG_4 (cy := cy) (N := N) (T := T) (I := I700092) (Q := Q700092) (J := J700092) hLq700091 hkq700091
      refine va_astq hx hb hK hP hD hS j700093 5 j700094 4 hj700093 rfl hj700094 rfl (by unfold vp_in; decide) dX2_init_77 (fun H locs hP hD hS => ?_)
      have hP := Eq.mp (congrArg (fun w => va_P (dC, dI) vwCl w H) (pS_12 (x := (some q700091)) hDo hLt2 hkt2 hj700093)) hP
      obtain ⟨Q700095, eQ700095⟩ : ∃ z, z = p2 Q700092 t700086 ((0 : Int32).toNatClampNeg) (some q700091) := ⟨_, rfl⟩
      rw [← eQ700095] at hP
      have hR : RS v I700092 Q700092 J700092 I700092 Q700095 J700092 := by rw [eQ700095]; exact hR.pq hC (by rw [hkt2]; decide)
      have hC : CT v L K N T I700092 Q700095 := by rw [eQ700095]; exact hC.q12 hkt2 (fun b hb => by cases hb; exact ⟨hLq700091, hkq700091⟩)
      have hD : va_D A (va_pl L (pF cy K N T I700092 Q700095 J700092)) := pD hDo
      refine lv_iinc (v := 1) (lv' := [(5, .int 1), (0, .ref h0), (1, .int mk), (2, .int st), (3, .int mn), (4, .int nw)]) hx hb dX2_init_78 hl (k := 0) rfl (by decide) (by decide) rfl (fun ls hl => ?_)
      refine lv_goto (tgt := 43) hx hb dX2_init_81 (by decide) ?_
      refine W.widen (k := 3) (n := 72) (by omega) (by omega) ?_
      exact hU700028_1 _ _ _ _ _ _ _ _ _ _ (by rw [eQ700095, show (0 : Int32).toNatClampNeg = 0 by decide]; exact hXB.rep (by decide) (sp_cn8_1 (by decide) (by rw [show nI 0 = (0 : Int32) by decide, ← hr700087]; exact c700088)) et700086 hXe hIQ eJ700092 ⟨hLq700091, hkq700091⟩ hnr hfr (by rw [eQ700095, show (0 : Int32).toNatClampNeg = 0 by decide] at hC; exact hC)) hP hD hS (lv_sub hl [0, 1, 2, 3, 4, 5] rfl)
  refine W.widen (k := 1) (n := 5) (by omega) (by omega) ?_
  exact hU700028_0 _ _ _ _ _ _ _ _ _ _ hXB hP hD hS (lv_sub hl [0, 1, 2, 3, 4, 5] rfl)
