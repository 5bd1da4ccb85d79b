set_option maxHeartbeats 4000000 in
set_option maxRecDepth 100000 in
/-- Partition(mask, inStep, min, now) -/
theorem c_X2_init (l : Launch) (dC : Nat → ClassId) (dI : Nat → Nat → Nat) (h0 sz : Nat) (mk : Int32) (st : Int32) (mn : Int32) (nw : Int32) : Met l yX2_init wsX2_init ({ frames := 2, cells := 11, slots := 340, locals := 42 }) (va_Pc [.ref h0, .int mk, .int st, .int mn, .int nw] (fun U => U.heap.size = sz ∧ va_P (dC, dI) vwCl [(h0, .inr (2, [.int 0, .int 0, .null, .int 0, .int 0, .int 0]))] U.heap ∧ va_K (dC, dI) vwCl [] U ∧ va_D (fun _ => True) [(h0, .inr (2, [.int 0, .int 0, .null, .int 0, .int 0, .int 0]))] ∧ va_AO "TallyLogs$Replica" U ∧ va_AO "TallyLogs$Entry" U ∧ va_Nw (.methodLinkNest RX2 30 yX5_leastOf "TallyLogs") U ∧ va_Nw (.methodLinkNest RX2 37 yX5_contains "TallyLogs") U)) (va_Qv (fun _ : Unit => True) (fun _ t => ∃ (qa : Nat), va_P (dC, dI) vwCl [(h0, .inr (2, [.int mk, .int mn, .ref qa, .int (sp_lo st), .int 0, .int st]))] t.heap ∧ va_K (dC, dI) vwCl [] t ∧ va_D (va_A [(h0, .inr (2, [.int 0, .int 0, .null, .int 0, .int 0, .int 0]))] sz) [(h0, .inr (2, [.int mk, .int mn, .ref qa, .int (sp_lo st), .int 0, .int st]))]) (va_A [(h0, .inr (2, [.int 0, .int 0, .null, .int 0, .int 0, .int 0]))] sz)) 11 340 (va_A [(h0, .inr (2, [.int 0, .int 0, .null, .int 0, .int 0, .int 0]))] sz) := by
  refine Met.ofW (cc := cX2_init) (maxL := 6) (ret := none) (by decide) rfl ?_
  intro p e s m args below meth c s₁ B hml hv
  obtain ⟨rfl, hsz, hP, hK, hD0, hoR4, ho4, hn30, hn37⟩ := hv
  have hx := B.exec
  have hb := B.bytes
  have hr := B.returns
  have hts := atoms_spec (ws := wsX2_init) B.pre
  have hown : s.vm.findClass RX2 = some m.cls := findClass_of_methodNamed B.named
  have hlocks := B.notSynchronized
  have hi2 : ∀ w ∈ wsX20, w ∈ wsX2_init := by decide +kernel
  have hi4 : ∀ w ∈ wsX40, w ∈ wsX2_init := by decide +kernel
  have hl := lv_entry ([.ref h0, .int mk, .int st, .int mn, .int nw]) (n := 6) (Nat.le_of_ble_eq_true rfl)
  rw [lg_entry_eq]
  generalize (lg_sl ([.ref h0, .int mk, .int st, .int mn, .int nw]) ++ List.replicate (6 - (lg_sl ([.ref h0, .int mk, .int st, .int mn, .int nw])).length) Slot.unset).toArray = ls at hl ⊢
  have hl : lv_has ls 6 [(0, .ref h0), (1, .int mk), (2, .int st), (3, .int mn), (4, .int nw)] := hl
  have hin : meth.name = "<init>" := (name_of_methodNamed B.named B.method).1
  subst hsz
  have hD := hD0.self (sz := s.heap.size)
  generalize hAe : va_A [(h0, .inr (2, [.int 0, .int 0, .null, .int 0, .int 0, .int 0]))] s.heap.size = A at hD ⊢
  have hA : ∀ q : Nat, s.heap.size ≤ q → A q := fun q h => by rw [← hAe]; exact Or.inr h
  have hS : va_S A s.heap s.heap [] := va_S.rf
  refine lv_aload_n hx hb dX2_init_0 rfl (lv_at hl 0 rfl) ?_
  refine W.objInit hx hb hown (hts (.methodLink RX2 3 objectInit) (by decide +kernel)) (hts (.instanceMethod objectInit) (by decide +kernel)) (hts _ (List.mem_of_getElem? (i := 3) rfl)) rfl (by rw [hml]; exact hl.1) rfl dX2_init_1 (Nat.le_of_ble_eq_true rfl) (Nat.le_of_ble_eq_true rfl) ?_
  refine W.eq (g2 := F0 m 4 ls []) rfl ?_
  refine lv_aload_n hx hb dX2_init_4 rfl (lv_at hl 0 rfl) ?_
  refine lv_iconst (v := 5) hx hb dX2_init_5 (by decide) ?_
  refine va_newq (C := "TallyLogs$Replica") (n := 5) (N' := 5) hx hb hown (hts (.classLink RX2 9 RX4) (by decide +kernel)) hoR4 hK hP hD hS hA (by decide) (by decide) (by decide) (Nat.le_of_ble_eq_true rfl) (Nat.le_of_ble_eq_true rfl) dX2_init_6 (fun q360 cA361 H hK hP hD hS => ?_)
  have hP : va_P (dC, dI) vwCl [(h0, .inr (2, [.int 0, .int 0, .null, .int 0, .int 0, .int 0])), (q360, .inl (cA361, 5, .inr (.inr (.inr (.inr (fun _ => none))))))] H := hP
  have hD : va_D A [(h0, .inr (2, [.int 0, .int 0, .null, .int 0, .int 0, .int 0])), (q360, .inl (cA361, 5, .inr (.inr (.inr (.inr (fun _ => none))))))] := hD
  have hK : va_K (dC, dI) vwCl [(cA361, .object "TallyLogs$Replica")] s := hK
  refine W.widen (k := 1) (n := 5) (by omega) (by omega) ?_
  refine va_putF (D := (dC, dI)) (ci := 2) (v := .ref q360) (ty := (.array (.object "TallyLogs$Replica"))) (C := RX2) (T := TX2) (N := 6) hx hb hts hi2 tyX2 tyX2_ok nmX2 hown hK hP hD hS 0 rfl rfl 2 (by decide) (hts (.fieldLink RX2 11 "TallyLogs$Partition" "replicas" "[LTallyLogs$Replica;") (by decide +kernel)) (fun _ h9 => h9) rfl hin rfl (by decide +kernel) rfl rfl (Nat.le_of_ble_eq_true rfl) dX2_init_9 (fun H locs hP hD hS => ?_)
  have hP : va_P (dC, dI) vwCl [(h0, .inr (2, [.int 0, .int 0, .ref q360, .int 0, .int 0, .int 0])), (q360, .inl (cA361, 5, .inr (.inr (.inr (.inr (fun _ => none))))))] H := hP
  have hD : va_D A [(h0, .inr (2, [.int 0, .int 0, .ref q360, .int 0, .int 0, .int 0])), (q360, .inl (cA361, 5, .inr (.inr (.inr (.inr (fun _ => none))))))] := hD
  refine lv_aload_n hx hb dX2_init_12 rfl (lv_at hl 0 rfl) ?_
  refine lv_iconst (v := 0) hx hb dX2_init_13 (by decide) ?_
  refine va_put (D := (dC, dI)) (ci := 2) (v := .int 0) (ty := .int) (C := RX2) (T := TX2) (N := 6) hx hb hts hi2 tyX2 tyX2_ok nmX2 hown hK hP hD hS 0 rfl rfl 4 (by decide) (hts (.fieldLink RX2 17 "TallyLogs$Partition" "epoch" "I") (by decide +kernel)) (fun _ h9 => h9) rfl (by decide +kernel) rfl rfl (Nat.le_of_ble_eq_true rfl) dX2_init_14 (fun H locs hP hD hS => ?_)
  have hP : va_P (dC, dI) vwCl [(h0, .inr (2, [.int 0, .int 0, .ref q360, .int 0, .int 0, .int 0])), (q360, .inl (cA361, 5, .inr (.inr (.inr (.inr (fun _ => none))))))] H := hP
  have hD : va_D A [(h0, .inr (2, [.int 0, .int 0, .ref q360, .int 0, .int 0, .int 0])), (q360, .inl (cA361, 5, .inr (.inr (.inr (.inr (fun _ => none))))))] := hD
  refine lv_aload_n hx hb dX2_init_17 rfl (lv_at hl 0 rfl) ?_
  refine lv_iload_n hx hb dX2_init_18 rfl (lv_at hl 1 rfl) ?_
  refine va_putF (D := (dC, dI)) (ci := 2) (v := .int mk) (ty := .int) (C := RX2) (T := TX2) (N := 6) hx hb hts hi2 tyX2 tyX2_ok nmX2 hown hK hP hD hS 0 rfl rfl 0 (by decide) (hts (.fieldLink RX2 21 "TallyLogs$Partition" "mask" "I") (by decide +kernel)) (fun _ h9 => h9) rfl hin rfl (by decide +kernel) rfl rfl (Nat.le_of_ble_eq_true rfl) dX2_init_19 (fun H locs hP hD hS => ?_)
  have hP : va_P (dC, dI) vwCl [(h0, .inr (2, [.int mk, .int 0, .ref q360, .int 0, .int 0, .int 0])), (q360, .inl (cA361, 5, .inr (.inr (.inr (.inr (fun _ => none))))))] H := hP
  have hD : va_D A [(h0, .inr (2, [.int mk, .int 0, .ref q360, .int 0, .int 0, .int 0])), (q360, .inl (cA361, 5, .inr (.inr (.inr (.inr (fun _ => none))))))] := hD
  refine lv_aload_n hx hb dX2_init_22 rfl (lv_at hl 0 rfl) ?_
  refine lv_iload_n hx hb dX2_init_23 rfl (lv_at hl 3 rfl) ?_
  refine va_putF (D := (dC, dI)) (ci := 2) (v := .int mn) (ty := .int) (C := RX2) (T := TX2) (N := 6) hx hb hts hi2 tyX2 tyX2_ok nmX2 hown hK hP hD hS 0 rfl rfl 1 (by decide) (hts (.fieldLink RX2 24 "TallyLogs$Partition" "min" "I") (by decide +kernel)) (fun _ h9 => h9) rfl hin rfl (by decide +kernel) rfl rfl (Nat.le_of_ble_eq_true rfl) dX2_init_24 (fun H locs hP hD hS => ?_)
  have hP : va_P (dC, dI) vwCl [(h0, .inr (2, [.int mk, .int mn, .ref q360, .int 0, .int 0, .int 0])), (q360, .inl (cA361, 5, .inr (.inr (.inr (.inr (fun _ => none))))))] H := hP
  have hD : va_D A [(h0, .inr (2, [.int mk, .int mn, .ref q360, .int 0, .int 0, .int 0])), (q360, .inl (cA361, 5, .inr (.inr (.inr (.inr (fun _ => none))))))] := hD
  refine lv_aload_n hx hb dX2_init_27 rfl (lv_at hl 0 rfl) ?_
  refine lv_iload_n hx hb dX2_init_28 rfl (lv_at hl 2 rfl) ?_
  refine va_put (D := (dC, dI)) (ci := 2) (v := .int st) (ty := .int) (C := RX2) (T := TX2) (N := 6) hx hb hts hi2 tyX2 tyX2_ok nmX2 hown hK hP hD hS 0 rfl rfl 5 (by decide) (hts (.fieldLink RX2 27 "TallyLogs$Partition" "inStep" "I") (by decide +kernel)) (fun _ h9 => h9) rfl (by decide +kernel) rfl rfl (Nat.le_of_ble_eq_true rfl) dX2_init_29 (fun H locs hP hD hS => ?_)
  have hP : va_P (dC, dI) vwCl [(h0, .inr (2, [.int mk, .int mn, .ref q360, .int 0, .int 0, .int st])), (q360, .inl (cA361, 5, .inr (.inr (.inr (.inr (fun _ => none))))))] H := hP
  have hD : va_D A [(h0, .inr (2, [.int mk, .int mn, .ref q360, .int 0, .int 0, .int st])), (q360, .inl (cA361, 5, .inr (.inr (.inr (.inr (fun _ => none))))))] := hD
  refine lv_aload_n hx hb dX2_init_32 rfl (lv_at hl 0 rfl) ?_
  refine lv_iload_n hx hb dX2_init_33 rfl (lv_at hl 2 rfl) ?_
  refine vp_callSi (va_Run.run (va_runSN (As := [.int st]) (rest := [.ref h0]) ⟨hx, hb, hml, hown, hts⟩ (c_X5_leastOf l st) ⟨va_cnB 1 hts gX2_init_X5_leastOf_n30 rfl rfl rfl hn30 (hts (.initialized RX5) (by decide +kernel)) (by decide +kernel) ⟨Nat.le_of_ble_eq_true rfl, Nat.le_of_ble_eq_true rfl⟩, hts (.static yX5_leastOf) (by decide +kernel), trivial⟩ preEq rfl rfl hl.1 rfl (lv_room (Nat.le_of_ble_eq_true rfl)) dX2_init_34 ⟨Nat.le_of_ble_eq_true rfl, Nat.le_of_ble_eq_true rfl⟩)) (fun r362 hr362 => ?_)
  subst hr362
  refine va_put (D := (dC, dI)) (ci := 2) (v := .int (sp_lo st)) (ty := .int) (C := RX2) (T := TX2) (N := 6) hx hb hts hi2 tyX2 tyX2_ok nmX2 hown hK hP hD hS 0 rfl rfl 3 (by decide) (hts (.fieldLink RX2 34 "TallyLogs$Partition" "leader" "I") (by decide +kernel)) (fun _ h9 => h9) rfl (by decide +kernel) rfl rfl (Nat.le_of_ble_eq_true rfl) dX2_init_37 (fun H locs hP hD hS => ?_)
  have hP : va_P (dC, dI) vwCl [(h0, .inr (2, [.int mk, .int mn, .ref q360, .int (sp_lo st), .int 0, .int st])), (q360, .inl (cA361, 5, .inr (.inr (.inr (.inr (fun _ => none))))))] H := hP
  have hD : va_D A [(h0, .inr (2, [.int mk, .int mn, .ref q360, .int (sp_lo st), .int 0, .int st])), (q360, .inl (cA361, 5, .inr (.inr (.inr (.inr (fun _ => none))))))] := hD
  refine lv_iconst (v := 0) hx hb dX2_init_40 (by decide) ?_
  refine lv_istore (lv' := [(5, .int 0), (0, .ref h0), (1, .int mk), (2, .int st), (3, .int mn), (4, .int nw)]) hx hb dX2_init_41 hl (by decide) rfl (fun ls hl => ?_)
  refine wq_gen (fun Q hQ => ?_)
  have hL5 : ∀ (f : Nat → Option Nat) (H : Heap) (locs : List Loc) (ls : Array Slot), va_P (dC, dI) vwCl [(h0, .inr (2, [.int mk, .int mn, .ref q360, .int (sp_lo st), .int 0, .int st])), (q360, .inl (cA361, 5, .inr (.inr (.inr (.inr f)))))] H → va_D A [(h0, .inr (2, [.int mk, .int mn, .ref q360, .int (sp_lo st), .int 0, .int st])), (q360, .inl (cA361, 5, .inr (.inr (.inr (.inr f)))))] → va_S A s.heap H locs → lv_has ls 6 [(0, .ref h0), (1, .int mk), (2, .int st), (3, .int mn), (4, .int nw), (5, .int 5)] → W p l e (headSpec wsX2_init ({ frames := 2, cells := 11, slots := 340, locals := 42 })).room s m ([.ref h0, .int mk, .int st, .int mn, .int nw] : List Value).toArray below meth c H locs 11 340 Q (F0 m 43 ls []) := by
    intro f H locs ls hP hD hS hl
    refine lv_iload hx hb dX2_init_43 (lv_at hl 5 rfl) ?_
    refine lv_iconst (v := 5) hx hb dX2_init_45 (by decide) ?_
    refine lv_icmp_ge (tgt := 84) hx hb dX2_init_46 (by decide) (fun c363 => ?_) (fun c363 => ?_)
    rotate_left
    · exact absurd c363 (by decide)
    rw [hQ]
    have hP9 := hP.sub (ws' := [(h0, .inr (2, [.int mk, .int mn, .ref q360, .int (sp_lo st), .int 0, .int st]))]) [0] rfl
    have hD9 := hD.sub (ws' := [(h0, .inr (2, [.int mk, .int mn, .ref q360, .int (sp_lo st), .int 0, .int st]))]) [0] (by decide +kernel) rfl
    have hK9 := hK.sub (tys' := []) [] rfl
    exact W.vret hx hb hr (fun t ht hW => ⟨⟨(), rfl, trivial, q360, by rw [ht]; exact hP9, va_K.moved hW.alike hK9, hD9⟩, hS.F ht⟩) hS.2.2 dX2_init_84
  have hL4 : ∀ (f : Nat → Option Nat) (H : Heap) (locs : List Loc) (ls : Array Slot), va_P (dC, dI) vwCl [(h0, .inr (2, [.int mk, .int mn, .ref q360, .int (sp_lo st), .int 0, .int st])), (q360, .inl (cA361, 5, .inr (.inr (.inr (.inr f)))))] H → va_D A [(h0, .inr (2, [.int mk, .int mn, .ref q360, .int (sp_lo st), .int 0, .int st])), (q360, .inl (cA361, 5, .inr (.inr (.inr (.inr f)))))] → va_S A s.heap H locs → lv_has ls 6 [(0, .ref h0), (1, .int mk), (2, .int st), (3, .int mn), (4, .int nw), (5, .int 4)] → W p l e (headSpec wsX2_init ({ frames := 2, cells := 11, slots := 340, locals := 42 })).room s m ([.ref h0, .int mk, .int st, .int mn, .int nw] : List Value).toArray below meth c H locs 9 273 Q (F0 m 43 ls []) := by
    intro f H locs ls hP hD hS hl
    refine lv_iload hx hb dX2_init_43 (lv_at hl 5 rfl) ?_
    refine lv_iconst (v := 5) hx hb dX2_init_45 (by decide) ?_
    refine lv_icmp_ge (tgt := 84) hx hb dX2_init_46 (by decide) (fun c364 => ?_) (fun c364 => ?_)
    · exact absurd c364 (by decide)
    refine lv_aload_n hx hb dX2_init_49 rfl (lv_at hl 0 rfl) ?_
    refine va_get (D := (dC, dI)) (ci := 2) (v := .ref q360) (C := RX2) (T := TX2) (N := 6) hx hb hts hi2 hown hK hP 0 rfl rfl 2 (by decide) (hts (.fieldLink RX2 11 "TallyLogs$Partition" "replicas" "[LTallyLogs$Replica;") (by decide +kernel)) (fun _ h9 => h9) rfl dX2_init_50 ?_
    refine lv_iload hx hb dX2_init_53 (lv_at hl 5 rfl) ?_
    refine lv_iload_n hx hb dX2_init_55 rfl (lv_at hl 1 rfl) ?_
    refine lv_iload hx hb dX2_init_56 (lv_at hl 5 rfl) ?_
    refine vp_callSi (va_Run.run (va_runSN (As := [.int mk, .int 4]) (rest := [.int 4, .ref q360]) ⟨hx, hb, hml, hown, hts⟩ (c_X5_contains l mk 4) ⟨va_cnB 2 hts gX2_init_X5_contains_n37 rfl rfl rfl hn37 (hts (.initialized RX5) (by decide +kernel)) (by decide +kernel) ⟨Nat.le_of_ble_eq_true rfl, Nat.le_of_ble_eq_true rfl⟩, hts (.static yX5_contains) (by decide +kernel), trivial⟩ preEq rfl rfl hl.1 rfl (lv_room (Nat.le_of_ble_eq_true rfl)) dX2_init_58 ⟨Nat.le_of_ble_eq_true rfl, Nat.le_of_ble_eq_true rfl⟩)) (fun r365 hr365 => ?_)
    subst hr365
    refine lv_if_eq (tgt := 76) hx hb dX2_init_61 (by decide) (fun c366 => ?_) (fun c366 => ?_)
    · refine lv_null hx hb dX2_init_76 ?_
      refine va_astqN hx hb hK hP hD hS 1 0 rfl rfl (by unfold vp_in; decide) dX2_init_77 (fun H locs hP hD hS => ?_)
      have hP : va_P (dC, dI) vwCl [(h0, .inr (2, [.int mk, .int mn, .ref q360, .int (sp_lo st), .int 0, .int st])), (q360, .inl (cA361, 5, .inr (.inr (.inr (.inr (va_up f 4 none))))))] H := hP
      have hD : va_D A [(h0, .inr (2, [.int mk, .int mn, .ref q360, .int (sp_lo st), .int 0, .int st])), (q360, .inl (cA361, 5, .inr (.inr (.inr (.inr (va_up f 4 none))))))] := hD
      refine lv_iinc (v := 5) (lv' := [(5, .int 5), (0, .ref h0), (1, .int mk), (2, .int st), (3, .int mn), (4, .int nw)]) hx hb dX2_init_78 hl (k := 5) rfl (by decide) (by decide) rfl (fun ls hl => ?_)
      refine lv_goto (tgt := 43) hx hb dX2_init_81 (by decide) ?_
      refine W.widen (k := 11) (n := 340) (by omega) (by omega) ?_
      exact hL5 _ _ _ _ (hP.sub [0, 1] rfl) (hD.sub [0, 1] (by decide) rfl) hS (lv_sub hl [1, 2, 3, 4, 5, 0] rfl)
    · refine va_new (ci := 4) (fs := [.null, .int 0, .int 0, .int 0, .int 0, .int 0, .int 0]) (C := RX4) (T := TX4) (N := 7) hx hb hts hi4 tyX4 tyX4_ok hown (hts (.classLink RX2 9 RX4) (by decide +kernel)) (hts (.instantiable RX4 7) (by decide +kernel)) (hts (.initialized RX4) (by decide +kernel)) hK hP hD hS hA rfl (fun j hj => by rcases (show j = 0 ∨ j = 1 ∨ j = 2 ∨ j = 3 ∨ j = 4 ∨ j = 5 ∨ j = 6 by omega) with rfl | rfl | rfl | rfl | rfl | rfl | rfl <;> rfl) (Nat.le_of_ble_eq_true rfl) (Nat.le_of_ble_eq_true rfl) dX2_init_64 (fun q367 H hP hD hS => ?_)
      have hP : va_P (dC, dI) vwCl [(h0, .inr (2, [.int mk, .int mn, .ref q360, .int (sp_lo st), .int 0, .int st])), (q360, .inl (cA361, 5, .inr (.inr (.inr (.inr f))))), (q367, .inr (4, [.null, .int 0, .int 0, .int 0, .int 0, .int 0, .int 0]))] H := hP
      have hD : va_D A [(h0, .inr (2, [.int mk, .int mn, .ref q360, .int (sp_lo st), .int 0, .int st])), (q360, .inl (cA361, 5, .inr (.inr (.inr (.inr f))))), (q367, .inr (4, [.null, .int 0, .int 0, .int 0, .int 0, .int 0, .int 0]))] := hD
      refine W.widen (k := 10) (n := 280) (by omega) (by omega) ?_
      refine lv_dup hx hb dX2_init_67 rfl ?_
      refine lv_iload hx hb dX2_init_68 (lv_at hl 4 rfl) ?_
      have hPc := hP.sub (ws' := [(q367, .inr (4, [.null, .int 0, .int 0, .int 0, .int 0, .int 0, .int 0]))]) [2] rfl
      have hDc := hD.sub (ws' := [(q367, .inr (4, [.null, .int 0, .int 0, .int 0, .int 0, .int 0, .int 0]))]) [2] (by decide) rfl
      have hKc := hK.sub (tys' := []) [] rfl
      have hFc := va_free (wc := [(q367, .inr (4, [.null, .int 0, .int 0, .int 0, .int 0, .int 0, .int 0]))]) hD hS hA [2] rfl
      refine va_callv (va_runI (As := [.int nw]) (rest := [.ref q367, .int 4, .ref q360]) ⟨hx, hb, hml, hown, hts⟩ (c_X4_init l dC dI q367 H.size nw) (cwI 1 hts gX2_init_X4_init rfl rfl rfl (hts (.initialized RX4) (by decide +kernel)) (hts (.methodLink RX2 41 yX4_init) (by decide +kernel)) (hts (.instanceMethod yX4_init) (by decide +kernel)) rfl (by decide +kernel) ⟨Nat.le_of_ble_eq_true rfl, Nat.le_of_ble_eq_true rfl⟩) ⟨fun a U g mk q => by obtain ⟨q0, q1, qP, qK, qD, qo⟩ := q; exact ⟨q0, q1, qP, va_K.moved (u := U) (U := U.calling g mk a) (Vm.Alike.refl U.vm) qK, qD, va_AO.moved (u := U) (U := U.calling g mk a) (Vm.Alike.refl U.vm) qo⟩, fun U hU hW => ⟨rfl, by rw [hU], by rw [hU]; exact hPc, va_K.moved hW.alike hKc, hDc.weaken (fun _ _ _ _ => trivial), va_AO.moved hW.alike ho4⟩⟩ rfl rfl hl.1 rfl (lv_room (Nat.le_of_ble_eq_true rfl)) dX2_init_70 ⟨Nat.le_of_ble_eq_true rfl, Nat.le_of_ble_eq_true rfl⟩) hS (fun q _ h => hFc q h) hFc (fun u t H1 locs ht hvm hw hB hz1 hk1 hS => ?_)
      obtain ⟨qs368, hP1, hK1, hD1⟩ := hB
      rw [ht] at hP1
      have hK1 := va_K.moved hvm.symm hK1
      obtain ⟨hP, hD⟩ := va_join (wr := [(h0, .inr (2, [.int mk, .int mn, .ref q360, .int (sp_lo st), .int 0, .int st])), (q360, .inl (cA361, 5, .inr (.inr (.inr (.inr f)))))]) (w1 := [(q367, .inr (4, [.ref qs368, .int 0, .int 0, .int 0, .int 0, .int 0, .int nw]))]) hP hD [2] [0, 1] rfl rfl (by decide +kernel) (by decide +kernel) hk1 hFc hP1 hD1
      have hK := (hK.sub (tys' := [(cA361, .object "TallyLogs$Replica")]) [0] rfl).app hK1
      generalize H1 = H at hP hS ⊢
      have hP : va_P (dC, dI) vwCl [(h0, .inr (2, [.int mk, .int mn, .ref q360, .int (sp_lo st), .int 0, .int st])), (q360, .inl (cA361, 5, .inr (.inr (.inr (.inr f))))), (q367, .inr (4, [.ref qs368, .int 0, .int 0, .int 0, .int 0, .int 0, .int nw]))] H := hP
      have hD : va_D A [(h0, .inr (2, [.int mk, .int mn, .ref q360, .int (sp_lo st), .int 0, .int st])), (q360, .inl (cA361, 5, .inr (.inr (.inr (.inr f))))), (q367, .inr (4, [.ref qs368, .int 0, .int 0, .int 0, .int 0, .int 0, .int nw]))] := hD
      have hK : va_K (dC, dI) vwCl [(cA361, .object "TallyLogs$Replica")] s := hK
      refine W.widen (k := 11) (n := 340) (by omega) (by omega) ?_
      refine lv_goto (tgt := 77) hx hb dX2_init_73 (by decide) ?_
      refine va_astq hx hb hK hP hD hS 1 0 2 4 rfl rfl rfl rfl (by unfold vp_in; decide) dX2_init_77 (fun H locs hP hD hS => ?_)
      have hP : va_P (dC, dI) vwCl [(h0, .inr (2, [.int mk, .int mn, .ref q360, .int (sp_lo st), .int 0, .int st])), (q360, .inl (cA361, 5, .inr (.inr (.inr (.inr (va_up f 4 (some q367))))))), (q367, .inr (4, [.ref qs368, .int 0, .int 0, .int 0, .int 0, .int 0, .int nw]))] H := hP
      have hD : va_D A [(h0, .inr (2, [.int mk, .int mn, .ref q360, .int (sp_lo st), .int 0, .int st])), (q360, .inl (cA361, 5, .inr (.inr (.inr (.inr (va_up f 4 (some q367))))))), (q367, .inr (4, [.ref qs368, .int 0, .int 0, .int 0, .int 0, .int 0, .int nw]))] := hD
      refine lv_iinc (v := 5) (lv' := [(5, .int 5), (0, .ref h0), (1, .int mk), (2, .int st), (3, .int mn), (4, .int nw)]) hx hb dX2_init_78 hl (k := 5) rfl (by decide) (by decide) rfl (fun ls hl => ?_)
      refine lv_goto (tgt := 43) hx hb dX2_init_81 (by decide) ?_
      refine W.widen (k := 11) (n := 340) (by omega) (by omega) ?_
      exact hL5 _ _ _ _ (hP.sub [0, 1] rfl) (hD.sub [0, 1] (by decide) rfl) hS (lv_sub hl [1, 2, 3, 4, 5, 0] rfl)
  have hL3 : ∀ (f : Nat → Option Nat) (H : Heap) (locs : List Loc) (ls : Array Slot), va_P (dC, dI) vwCl [(h0, .inr (2, [.int mk, .int mn, .ref q360, .int (sp_lo st), .int 0, .int st])), (q360, .inl (cA361, 5, .inr (.inr (.inr (.inr f)))))] H → va_D A [(h0, .inr (2, [.int mk, .int mn, .ref q360, .int (sp_lo st), .int 0, .int st])), (q360, .inl (cA361, 5, .inr (.inr (.inr (.inr f)))))] → va_S A s.heap H locs → lv_has ls 6 [(0, .ref h0), (1, .int mk), (2, .int st), (3, .int mn), (4, .int nw), (5, .int 3)] → W p l e (headSpec wsX2_init ({ frames := 2, cells := 11, slots := 340, locals := 42 })).room s m ([.ref h0, .int mk, .int st, .int mn, .int nw] : List Value).toArray below meth c H locs 7 206 Q (F0 m 43 ls []) := by
    intro f H locs ls hP hD hS hl
    refine lv_iload hx hb dX2_init_43 (lv_at hl 5 rfl) ?_
    refine lv_iconst (v := 5) hx hb dX2_init_45 (by decide) ?_
    refine lv_icmp_ge (tgt := 84) hx hb dX2_init_46 (by decide) (fun c369 => ?_) (fun c369 => ?_)
    · exact absurd c369 (by decide)
    refine lv_aload_n hx hb dX2_init_49 rfl (lv_at hl 0 rfl) ?_
    refine va_get (D := (dC, dI)) (ci := 2) (v := .ref q360) (C := RX2) (T := TX2) (N := 6) hx hb hts hi2 hown hK hP 0 rfl rfl 2 (by decide) (hts (.fieldLink RX2 11 "TallyLogs$Partition" "replicas" "[LTallyLogs$Replica;") (by decide +kernel)) (fun _ h9 => h9) rfl dX2_init_50 ?_
    refine lv_iload hx hb dX2_init_53 (lv_at hl 5 rfl) ?_
    refine lv_iload_n hx hb dX2_init_55 rfl (lv_at hl 1 rfl) ?_
    refine lv_iload hx hb dX2_init_56 (lv_at hl 5 rfl) ?_
    refine vp_callSi (va_Run.run (va_runSN (As := [.int mk, .int 3]) (rest := [.int 3, .ref q360]) ⟨hx, hb, hml, hown, hts⟩ (c_X5_contains l mk 3) ⟨va_cnB 2 hts gX2_init_X5_contains_n37 rfl rfl rfl hn37 (hts (.initialized RX5) (by decide +kernel)) (by decide +kernel) ⟨Nat.le_of_ble_eq_true rfl, Nat.le_of_ble_eq_true rfl⟩, hts (.static yX5_contains) (by decide +kernel), trivial⟩ preEq rfl rfl hl.1 rfl (lv_room (Nat.le_of_ble_eq_true rfl)) dX2_init_58 ⟨Nat.le_of_ble_eq_true rfl, Nat.le_of_ble_eq_true rfl⟩)) (fun r370 hr370 => ?_)
    subst hr370
    refine lv_if_eq (tgt := 76) hx hb dX2_init_61 (by decide) (fun c371 => ?_) (fun c371 => ?_)
    · refine lv_null hx hb dX2_init_76 ?_
      refine va_astqN hx hb hK hP hD hS 1 0 rfl rfl (by unfold vp_in; decide) dX2_init_77 (fun H locs hP hD hS => ?_)
      have hP : va_P (dC, dI) vwCl [(h0, .inr (2, [.int mk, .int mn, .ref q360, .int (sp_lo st), .int 0, .int st])), (q360, .inl (cA361, 5, .inr (.inr (.inr (.inr (va_up f 3 none))))))] H := hP
      have hD : va_D A [(h0, .inr (2, [.int mk, .int mn, .ref q360, .int (sp_lo st), .int 0, .int st])), (q360, .inl (cA361, 5, .inr (.inr (.inr (.inr (va_up f 3 none))))))] := hD
      refine lv_iinc (v := 4) (lv' := [(5, .int 4), (0, .ref h0), (1, .int mk), (2, .int st), (3, .int mn), (4, .int nw)]) hx hb dX2_init_78 hl (k := 5) rfl (by decide) (by decide) rfl (fun ls hl => ?_)
      refine lv_goto (tgt := 43) hx hb dX2_init_81 (by decide) ?_
      refine W.widen (k := 9) (n := 273) (by omega) (by omega) ?_
      exact hL4 _ _ _ _ (hP.sub [0, 1] rfl) (hD.sub [0, 1] (by decide) rfl) hS (lv_sub hl [1, 2, 3, 4, 5, 0] rfl)
    · refine va_new (ci := 4) (fs := [.null, .int 0, .int 0, .int 0, .int 0, .int 0, .int 0]) (C := RX4) (T := TX4) (N := 7) hx hb hts hi4 tyX4 tyX4_ok hown (hts (.classLink RX2 9 RX4) (by decide +kernel)) (hts (.instantiable RX4 7) (by decide +kernel)) (hts (.initialized RX4) (by decide +kernel)) hK hP hD hS hA rfl (fun j hj => by rcases (show j = 0 ∨ j = 1 ∨ j = 2 ∨ j = 3 ∨ j = 4 ∨ j = 5 ∨ j = 6 by omega) with rfl | rfl | rfl | rfl | rfl | rfl | rfl <;> rfl) (Nat.le_of_ble_eq_true rfl) (Nat.le_of_ble_eq_true rfl) dX2_init_64 (fun q372 H hP hD hS => ?_)
      have hP : va_P (dC, dI) vwCl [(h0, .inr (2, [.int mk, .int mn, .ref q360, .int (sp_lo st), .int 0, .int st])), (q360, .inl (cA361, 5, .inr (.inr (.inr (.inr f))))), (q372, .inr (4, [.null, .int 0, .int 0, .int 0, .int 0, .int 0, .int 0]))] H := hP
      have hD : va_D A [(h0, .inr (2, [.int mk, .int mn, .ref q360, .int (sp_lo st), .int 0, .int st])), (q360, .inl (cA361, 5, .inr (.inr (.inr (.inr f))))), (q372, .inr (4, [.null, .int 0, .int 0, .int 0, .int 0, .int 0, .int 0]))] := hD
      refine W.widen (k := 8) (n := 213) (by omega) (by omega) ?_
      refine lv_dup hx hb dX2_init_67 rfl ?_
      refine lv_iload hx hb dX2_init_68 (lv_at hl 4 rfl) ?_
      have hPc := hP.sub (ws' := [(q372, .inr (4, [.null, .int 0, .int 0, .int 0, .int 0, .int 0, .int 0]))]) [2] rfl
      have hDc := hD.sub (ws' := [(q372, .inr (4, [.null, .int 0, .int 0, .int 0, .int 0, .int 0, .int 0]))]) [2] (by decide) rfl
      have hKc := hK.sub (tys' := []) [] rfl
      have hFc := va_free (wc := [(q372, .inr (4, [.null, .int 0, .int 0, .int 0, .int 0, .int 0, .int 0]))]) hD hS hA [2] rfl
      refine va_callv (va_runI (As := [.int nw]) (rest := [.ref q372, .int 3, .ref q360]) ⟨hx, hb, hml, hown, hts⟩ (c_X4_init l dC dI q372 H.size nw) (cwI 1 hts gX2_init_X4_init rfl rfl rfl (hts (.initialized RX4) (by decide +kernel)) (hts (.methodLink RX2 41 yX4_init) (by decide +kernel)) (hts (.instanceMethod yX4_init) (by decide +kernel)) rfl (by decide +kernel) ⟨Nat.le_of_ble_eq_true rfl, Nat.le_of_ble_eq_true rfl⟩) ⟨fun a U g mk q => by obtain ⟨q0, q1, qP, qK, qD, qo⟩ := q; exact ⟨q0, q1, qP, va_K.moved (u := U) (U := U.calling g mk a) (Vm.Alike.refl U.vm) qK, qD, va_AO.moved (u := U) (U := U.calling g mk a) (Vm.Alike.refl U.vm) qo⟩, fun U hU hW => ⟨rfl, by rw [hU], by rw [hU]; exact hPc, va_K.moved hW.alike hKc, hDc.weaken (fun _ _ _ _ => trivial), va_AO.moved hW.alike ho4⟩⟩ rfl rfl hl.1 rfl (lv_room (Nat.le_of_ble_eq_true rfl)) dX2_init_70 ⟨Nat.le_of_ble_eq_true rfl, Nat.le_of_ble_eq_true rfl⟩) hS (fun q _ h => hFc q h) hFc (fun u t H1 locs ht hvm hw hB hz1 hk1 hS => ?_)
      obtain ⟨qs373, hP1, hK1, hD1⟩ := hB
      rw [ht] at hP1
      have hK1 := va_K.moved hvm.symm hK1
      obtain ⟨hP, hD⟩ := va_join (wr := [(h0, .inr (2, [.int mk, .int mn, .ref q360, .int (sp_lo st), .int 0, .int st])), (q360, .inl (cA361, 5, .inr (.inr (.inr (.inr f)))))]) (w1 := [(q372, .inr (4, [.ref qs373, .int 0, .int 0, .int 0, .int 0, .int 0, .int nw]))]) hP hD [2] [0, 1] rfl rfl (by decide +kernel) (by decide +kernel) hk1 hFc hP1 hD1
      have hK := (hK.sub (tys' := [(cA361, .object "TallyLogs$Replica")]) [0] rfl).app hK1
      generalize H1 = H at hP hS ⊢
      have hP : va_P (dC, dI) vwCl [(h0, .inr (2, [.int mk, .int mn, .ref q360, .int (sp_lo st), .int 0, .int st])), (q360, .inl (cA361, 5, .inr (.inr (.inr (.inr f))))), (q372, .inr (4, [.ref qs373, .int 0, .int 0, .int 0, .int 0, .int 0, .int nw]))] H := hP
      have hD : va_D A [(h0, .inr (2, [.int mk, .int mn, .ref q360, .int (sp_lo st), .int 0, .int st])), (q360, .inl (cA361, 5, .inr (.inr (.inr (.inr f))))), (q372, .inr (4, [.ref qs373, .int 0, .int 0, .int 0, .int 0, .int 0, .int nw]))] := hD
      have hK : va_K (dC, dI) vwCl [(cA361, .object "TallyLogs$Replica")] s := hK
      refine W.widen (k := 9) (n := 273) (by omega) (by omega) ?_
      refine lv_goto (tgt := 77) hx hb dX2_init_73 (by decide) ?_
      refine va_astq hx hb hK hP hD hS 1 0 2 4 rfl rfl rfl rfl (by unfold vp_in; decide) dX2_init_77 (fun H locs hP hD hS => ?_)
      have hP : va_P (dC, dI) vwCl [(h0, .inr (2, [.int mk, .int mn, .ref q360, .int (sp_lo st), .int 0, .int st])), (q360, .inl (cA361, 5, .inr (.inr (.inr (.inr (va_up f 3 (some q372))))))), (q372, .inr (4, [.ref qs373, .int 0, .int 0, .int 0, .int 0, .int 0, .int nw]))] H := hP
      have hD : va_D A [(h0, .inr (2, [.int mk, .int mn, .ref q360, .int (sp_lo st), .int 0, .int st])), (q360, .inl (cA361, 5, .inr (.inr (.inr (.inr (va_up f 3 (some q372))))))), (q372, .inr (4, [.ref qs373, .int 0, .int 0, .int 0, .int 0, .int 0, .int nw]))] := hD
      refine lv_iinc (v := 4) (lv' := [(5, .int 4), (0, .ref h0), (1, .int mk), (2, .int st), (3, .int mn), (4, .int nw)]) hx hb dX2_init_78 hl (k := 5) rfl (by decide) (by decide) rfl (fun ls hl => ?_)
      refine lv_goto (tgt := 43) hx hb dX2_init_81 (by decide) ?_
      refine W.widen (k := 9) (n := 273) (by omega) (by omega) ?_
      exact hL4 _ _ _ _ (hP.sub [0, 1] rfl) (hD.sub [0, 1] (by decide) rfl) hS (lv_sub hl [1, 2, 3, 4, 5, 0] rfl)
  have hL2 : ∀ (f : Nat → Option Nat) (H : Heap) (locs : List Loc) (ls : Array Slot), va_P (dC, dI) vwCl [(h0, .inr (2, [.int mk, .int mn, .ref q360, .int (sp_lo st), .int 0, .int st])), (q360, .inl (cA361, 5, .inr (.inr (.inr (.inr f)))))] H → va_D A [(h0, .inr (2, [.int mk, .int mn, .ref q360, .int (sp_lo st), .int 0, .int st])), (q360, .inl (cA361, 5, .inr (.inr (.inr (.inr f)))))] → va_S A s.heap H locs → lv_has ls 6 [(0, .ref h0), (1, .int mk), (2, .int st), (3, .int mn), (4, .int nw), (5, .int 2)] → W p l e (headSpec wsX2_init ({ frames := 2, cells := 11, slots := 340, locals := 42 })).room s m ([.ref h0, .int mk, .int st, .int mn, .int nw] : List Value).toArray below meth c H locs 5 139 Q (F0 m 43 ls []) := by
    intro f H locs ls hP hD hS hl
    refine lv_iload hx hb dX2_init_43 (lv_at hl 5 rfl) ?_
    refine lv_iconst (v := 5) hx hb dX2_init_45 (by decide) ?_
    refine lv_icmp_ge (tgt := 84) hx hb dX2_init_46 (by decide) (fun c374 => ?_) (fun c374 => ?_)
    · exact absurd c374 (by decide)
    refine lv_aload_n hx hb dX2_init_49 rfl (lv_at hl 0 rfl) ?_
    refine va_get (D := (dC, dI)) (ci := 2) (v := .ref q360) (C := RX2) (T := TX2) (N := 6) hx hb hts hi2 hown hK hP 0 rfl rfl 2 (by decide) (hts (.fieldLink RX2 11 "TallyLogs$Partition" "replicas" "[LTallyLogs$Replica;") (by decide +kernel)) (fun _ h9 => h9) rfl dX2_init_50 ?_
    refine lv_iload hx hb dX2_init_53 (lv_at hl 5 rfl) ?_
    refine lv_iload_n hx hb dX2_init_55 rfl (lv_at hl 1 rfl) ?_
    refine lv_iload hx hb dX2_init_56 (lv_at hl 5 rfl) ?_
    refine vp_callSi (va_Run.run (va_runSN (As := [.int mk, .int 2]) (rest := [.int 2, .ref q360]) ⟨hx, hb, hml, hown, hts⟩ (c_X5_contains l mk 2) ⟨va_cnB 2 hts gX2_init_X5_contains_n37 rfl rfl rfl hn37 (hts (.initialized RX5) (by decide +kernel)) (by decide +kernel) ⟨Nat.le_of_ble_eq_true rfl, Nat.le_of_ble_eq_true rfl⟩, hts (.static yX5_contains) (by decide +kernel), trivial⟩ preEq rfl rfl hl.1 rfl (lv_room (Nat.le_of_ble_eq_true rfl)) dX2_init_58 ⟨Nat.le_of_ble_eq_true rfl, Nat.le_of_ble_eq_true rfl⟩)) (fun r375 hr375 => ?_)
    subst hr375
    refine lv_if_eq (tgt := 76) hx hb dX2_init_61 (by decide) (fun c376 => ?_) (fun c376 => ?_)
    · refine lv_null hx hb dX2_init_76 ?_
      refine va_astqN hx hb hK hP hD hS 1 0 rfl rfl (by unfold vp_in; decide) dX2_init_77 (fun H locs hP hD hS => ?_)
      have hP : va_P (dC, dI) vwCl [(h0, .inr (2, [.int mk, .int mn, .ref q360, .int (sp_lo st), .int 0, .int st])), (q360, .inl (cA361, 5, .inr (.inr (.inr (.inr (va_up f 2 none))))))] H := hP
      have hD : va_D A [(h0, .inr (2, [.int mk, .int mn, .ref q360, .int (sp_lo st), .int 0, .int st])), (q360, .inl (cA361, 5, .inr (.inr (.inr (.inr (va_up f 2 none))))))] := hD
      refine lv_iinc (v := 3) (lv' := [(5, .int 3), (0, .ref h0), (1, .int mk), (2, .int st), (3, .int mn), (4, .int nw)]) hx hb dX2_init_78 hl (k := 5) rfl (by decide) (by decide) rfl (fun ls hl => ?_)
      refine lv_goto (tgt := 43) hx hb dX2_init_81 (by decide) ?_
      refine W.widen (k := 7) (n := 206) (by omega) (by omega) ?_
      exact hL3 _ _ _ _ (hP.sub [0, 1] rfl) (hD.sub [0, 1] (by decide) rfl) hS (lv_sub hl [1, 2, 3, 4, 5, 0] rfl)
    · refine va_new (ci := 4) (fs := [.null, .int 0, .int 0, .int 0, .int 0, .int 0, .int 0]) (C := RX4) (T := TX4) (N := 7) hx hb hts hi4 tyX4 tyX4_ok hown (hts (.classLink RX2 9 RX4) (by decide +kernel)) (hts (.instantiable RX4 7) (by decide +kernel)) (hts (.initialized RX4) (by decide +kernel)) hK hP hD hS hA rfl (fun j hj => by rcases (show j = 0 ∨ j = 1 ∨ j = 2 ∨ j = 3 ∨ j = 4 ∨ j = 5 ∨ j = 6 by omega) with rfl | rfl | rfl | rfl | rfl | rfl | rfl <;> rfl) (Nat.le_of_ble_eq_true rfl) (Nat.le_of_ble_eq_true rfl) dX2_init_64 (fun q377 H hP hD hS => ?_)
      have hP : va_P (dC, dI) vwCl [(h0, .inr (2, [.int mk, .int mn, .ref q360, .int (sp_lo st), .int 0, .int st])), (q360, .inl (cA361, 5, .inr (.inr (.inr (.inr f))))), (q377, .inr (4, [.null, .int 0, .int 0, .int 0, .int 0, .int 0, .int 0]))] H := hP
      have hD : va_D A [(h0, .inr (2, [.int mk, .int mn, .ref q360, .int (sp_lo st), .int 0, .int st])), (q360, .inl (cA361, 5, .inr (.inr (.inr (.inr f))))), (q377, .inr (4, [.null, .int 0, .int 0, .int 0, .int 0, .int 0, .int 0]))] := hD
      refine W.widen (k := 6) (n := 146) (by omega) (by omega) ?_
      refine lv_dup hx hb dX2_init_67 rfl ?_
      refine lv_iload hx hb dX2_init_68 (lv_at hl 4 rfl) ?_
      have hPc := hP.sub (ws' := [(q377, .inr (4, [.null, .int 0, .int 0, .int 0, .int 0, .int 0, .int 0]))]) [2] rfl
      have hDc := hD.sub (ws' := [(q377, .inr (4, [.null, .int 0, .int 0, .int 0, .int 0, .int 0, .int 0]))]) [2] (by decide) rfl
      have hKc := hK.sub (tys' := []) [] rfl
      have hFc := va_free (wc := [(q377, .inr (4, [.null, .int 0, .int 0, .int 0, .int 0, .int 0, .int 0]))]) hD hS hA [2] rfl
      refine va_callv (va_runI (As := [.int nw]) (rest := [.ref q377, .int 2, .ref q360]) ⟨hx, hb, hml, hown, hts⟩ (c_X4_init l dC dI q377 H.size nw) (cwI 1 hts gX2_init_X4_init rfl rfl rfl (hts (.initialized RX4) (by decide +kernel)) (hts (.methodLink RX2 41 yX4_init) (by decide +kernel)) (hts (.instanceMethod yX4_init) (by decide +kernel)) rfl (by decide +kernel) ⟨Nat.le_of_ble_eq_true rfl, Nat.le_of_ble_eq_true rfl⟩) ⟨fun a U g mk q => by obtain ⟨q0, q1, qP, qK, qD, qo⟩ := q; exact ⟨q0, q1, qP, va_K.moved (u := U) (U := U.calling g mk a) (Vm.Alike.refl U.vm) qK, qD, va_AO.moved (u := U) (U := U.calling g mk a) (Vm.Alike.refl U.vm) qo⟩, fun U hU hW => ⟨rfl, by rw [hU], by rw [hU]; exact hPc, va_K.moved hW.alike hKc, hDc.weaken (fun _ _ _ _ => trivial), va_AO.moved hW.alike ho4⟩⟩ rfl rfl hl.1 rfl (lv_room (Nat.le_of_ble_eq_true rfl)) dX2_init_70 ⟨Nat.le_of_ble_eq_true rfl, Nat.le_of_ble_eq_true rfl⟩) hS (fun q _ h => hFc q h) hFc (fun u t H1 locs ht hvm hw hB hz1 hk1 hS => ?_)
      obtain ⟨qs378, hP1, hK1, hD1⟩ := hB
      rw [ht] at hP1
      have hK1 := va_K.moved hvm.symm hK1
      obtain ⟨hP, hD⟩ := va_join (wr := [(h0, .inr (2, [.int mk, .int mn, .ref q360, .int (sp_lo st), .int 0, .int st])), (q360, .inl (cA361, 5, .inr (.inr (.inr (.inr f)))))]) (w1 := [(q377, .inr (4, [.ref qs378, .int 0, .int 0, .int 0, .int 0, .int 0, .int nw]))]) hP hD [2] [0, 1] rfl rfl (by decide +kernel) (by decide +kernel) hk1 hFc hP1 hD1
      have hK := (hK.sub (tys' := [(cA361, .object "TallyLogs$Replica")]) [0] rfl).app hK1
      generalize H1 = H at hP hS ⊢
      have hP : va_P (dC, dI) vwCl [(h0, .inr (2, [.int mk, .int mn, .ref q360, .int (sp_lo st), .int 0, .int st])), (q360, .inl (cA361, 5, .inr (.inr (.inr (.inr f))))), (q377, .inr (4, [.ref qs378, .int 0, .int 0, .int 0, .int 0, .int 0, .int nw]))] H := hP
      have hD : va_D A [(h0, .inr (2, [.int mk, .int mn, .ref q360, .int (sp_lo st), .int 0, .int st])), (q360, .inl (cA361, 5, .inr (.inr (.inr (.inr f))))), (q377, .inr (4, [.ref qs378, .int 0, .int 0, .int 0, .int 0, .int 0, .int nw]))] := hD
      have hK : va_K (dC, dI) vwCl [(cA361, .object "TallyLogs$Replica")] s := hK
      refine W.widen (k := 7) (n := 206) (by omega) (by omega) ?_
      refine lv_goto (tgt := 77) hx hb dX2_init_73 (by decide) ?_
      refine va_astq hx hb hK hP hD hS 1 0 2 4 rfl rfl rfl rfl (by unfold vp_in; decide) dX2_init_77 (fun H locs hP hD hS => ?_)
      have hP : va_P (dC, dI) vwCl [(h0, .inr (2, [.int mk, .int mn, .ref q360, .int (sp_lo st), .int 0, .int st])), (q360, .inl (cA361, 5, .inr (.inr (.inr (.inr (va_up f 2 (some q377))))))), (q377, .inr (4, [.ref qs378, .int 0, .int 0, .int 0, .int 0, .int 0, .int nw]))] H := hP
      have hD : va_D A [(h0, .inr (2, [.int mk, .int mn, .ref q360, .int (sp_lo st), .int 0, .int st])), (q360, .inl (cA361, 5, .inr (.inr (.inr (.inr (va_up f 2 (some q377))))))), (q377, .inr (4, [.ref qs378, .int 0, .int 0, .int 0, .int 0, .int 0, .int nw]))] := hD
      refine lv_iinc (v := 3) (lv' := [(5, .int 3), (0, .ref h0), (1, .int mk), (2, .int st), (3, .int mn), (4, .int nw)]) hx hb dX2_init_78 hl (k := 5) rfl (by decide) (by decide) rfl (fun ls hl => ?_)
      refine lv_goto (tgt := 43) hx hb dX2_init_81 (by decide) ?_
      refine W.widen (k := 7) (n := 206) (by omega) (by omega) ?_
      exact hL3 _ _ _ _ (hP.sub [0, 1] rfl) (hD.sub [0, 1] (by decide) rfl) hS (lv_sub hl [1, 2, 3, 4, 5, 0] rfl)
  have hL1 : ∀ (f : Nat → Option Nat) (H : Heap) (locs : List Loc) (ls : Array Slot), va_P (dC, dI) vwCl [(h0, .inr (2, [.int mk, .int mn, .ref q360, .int (sp_lo st), .int 0, .int st])), (q360, .inl (cA361, 5, .inr (.inr (.inr (.inr f)))))] H → va_D A [(h0, .inr (2, [.int mk, .int mn, .ref q360, .int (sp_lo st), .int 0, .int st])), (q360, .inl (cA361, 5, .inr (.inr (.inr (.inr f)))))] → va_S A s.heap H locs → lv_has ls 6 [(0, .ref h0), (1, .int mk), (2, .int st), (3, .int mn), (4, .int nw), (5, .int 1)] → W p l e (headSpec wsX2_init ({ frames := 2, cells := 11, slots := 340, locals := 42 })).room s m ([.ref h0, .int mk, .int st, .int mn, .int nw] : List Value).toArray below meth c H locs 3 72 Q (F0 m 43 ls []) := by
    intro f H locs ls hP hD hS hl
    refine lv_iload hx hb dX2_init_43 (lv_at hl 5 rfl) ?_
    refine lv_iconst (v := 5) hx hb dX2_init_45 (by decide) ?_
    refine lv_icmp_ge (tgt := 84) hx hb dX2_init_46 (by decide) (fun c379 => ?_) (fun c379 => ?_)
    · exact absurd c379 (by decide)
    refine lv_aload_n hx hb dX2_init_49 rfl (lv_at hl 0 rfl) ?_
    refine va_get (D := (dC, dI)) (ci := 2) (v := .ref q360) (C := RX2) (T := TX2) (N := 6) hx hb hts hi2 hown hK hP 0 rfl rfl 2 (by decide) (hts (.fieldLink RX2 11 "TallyLogs$Partition" "replicas" "[LTallyLogs$Replica;") (by decide +kernel)) (fun _ h9 => h9) rfl dX2_init_50 ?_
    refine lv_iload hx hb dX2_init_53 (lv_at hl 5 rfl) ?_
    refine lv_iload_n hx hb dX2_init_55 rfl (lv_at hl 1 rfl) ?_
    refine lv_iload hx hb dX2_init_56 (lv_at hl 5 rfl) ?_
    refine vp_callSi (va_Run.run (va_runSN (As := [.int mk, .int 1]) (rest := [.int 1, .ref q360]) ⟨hx, hb, hml, hown, hts⟩ (c_X5_contains l mk 1) ⟨va_cnB 2 hts gX2_init_X5_contains_n37 rfl rfl rfl hn37 (hts (.initialized RX5) (by decide +kernel)) (by decide +kernel) ⟨Nat.le_of_ble_eq_true rfl, Nat.le_of_ble_eq_true rfl⟩, hts (.static yX5_contains) (by decide +kernel), trivial⟩ preEq rfl rfl hl.1 rfl (lv_room (Nat.le_of_ble_eq_true rfl)) dX2_init_58 ⟨Nat.le_of_ble_eq_true rfl, Nat.le_of_ble_eq_true rfl⟩)) (fun r380 hr380 => ?_)
    subst hr380
    refine lv_if_eq (tgt := 76) hx hb dX2_init_61 (by decide) (fun c381 => ?_) (fun c381 => ?_)
    · refine lv_null hx hb dX2_init_76 ?_
      refine va_astqN hx hb hK hP hD hS 1 0 rfl rfl (by unfold vp_in; decide) dX2_init_77 (fun H locs hP hD hS => ?_)
      have hP : va_P (dC, dI) vwCl [(h0, .inr (2, [.int mk, .int mn, .ref q360, .int (sp_lo st), .int 0, .int st])), (q360, .inl (cA361, 5, .inr (.inr (.inr (.inr (va_up f 1 none))))))] H := hP
      have hD : va_D A [(h0, .inr (2, [.int mk, .int mn, .ref q360, .int (sp_lo st), .int 0, .int st])), (q360, .inl (cA361, 5, .inr (.inr (.inr (.inr (va_up f 1 none))))))] := hD
      refine lv_iinc (v := 2) (lv' := [(5, .int 2), (0, .ref h0), (1, .int mk), (2, .int st), (3, .int mn), (4, .int nw)]) hx hb dX2_init_78 hl (k := 5) rfl (by decide) (by decide) rfl (fun ls hl => ?_)
      refine lv_goto (tgt := 43) hx hb dX2_init_81 (by decide) ?_
      refine W.widen (k := 5) (n := 139) (by omega) (by omega) ?_
      exact hL2 _ _ _ _ (hP.sub [0, 1] rfl) (hD.sub [0, 1] (by decide) rfl) hS (lv_sub hl [1, 2, 3, 4, 5, 0] rfl)
    · refine va_new (ci := 4) (fs := [.null, .int 0, .int 0, .int 0, .int 0, .int 0, .int 0]) (C := RX4) (T := TX4) (N := 7) hx hb hts hi4 tyX4 tyX4_ok hown (hts (.classLink RX2 9 RX4) (by decide +kernel)) (hts (.instantiable RX4 7) (by decide +kernel)) (hts (.initialized RX4) (by decide +kernel)) hK hP hD hS hA rfl (fun j hj => by rcases (show j = 0 ∨ j = 1 ∨ j = 2 ∨ j = 3 ∨ j = 4 ∨ j = 5 ∨ j = 6 by omega) with rfl | rfl | rfl | rfl | rfl | rfl | rfl <;> rfl) (Nat.le_of_ble_eq_true rfl) (Nat.le_of_ble_eq_true rfl) dX2_init_64 (fun q382 H hP hD hS => ?_)
      have hP : va_P (dC, dI) vwCl [(h0, .inr (2, [.int mk, .int mn, .ref q360, .int (sp_lo st), .int 0, .int st])), (q360, .inl (cA361, 5, .inr (.inr (.inr (.inr f))))), (q382, .inr (4, [.null, .int 0, .int 0, .int 0, .int 0, .int 0, .int 0]))] H := hP
      have hD : va_D A [(h0, .inr (2, [.int mk, .int mn, .ref q360, .int (sp_lo st), .int 0, .int st])), (q360, .inl (cA361, 5, .inr (.inr (.inr (.inr f))))), (q382, .inr (4, [.null, .int 0, .int 0, .int 0, .int 0, .int 0, .int 0]))] := hD
      refine W.widen (k := 4) (n := 79) (by omega) (by omega) ?_
      refine lv_dup hx hb dX2_init_67 rfl ?_
      refine lv_iload hx hb dX2_init_68 (lv_at hl 4 rfl) ?_
      have hPc := hP.sub (ws' := [(q382, .inr (4, [.null, .int 0, .int 0, .int 0, .int 0, .int 0, .int 0]))]) [2] rfl
      have hDc := hD.sub (ws' := [(q382, .inr (4, [.null, .int 0, .int 0, .int 0, .int 0, .int 0, .int 0]))]) [2] (by decide) rfl
      have hKc := hK.sub (tys' := []) [] rfl
      have hFc := va_free (wc := [(q382, .inr (4, [.null, .int 0, .int 0, .int 0, .int 0, .int 0, .int 0]))]) hD hS hA [2] rfl
      refine va_callv (va_runI (As := [.int nw]) (rest := [.ref q382, .int 1, .ref q360]) ⟨hx, hb, hml, hown, hts⟩ (c_X4_init l dC dI q382 H.size nw) (cwI 1 hts gX2_init_X4_init rfl rfl rfl (hts (.initialized RX4) (by decide +kernel)) (hts (.methodLink RX2 41 yX4_init) (by decide +kernel)) (hts (.instanceMethod yX4_init) (by decide +kernel)) rfl (by decide +kernel) ⟨Nat.le_of_ble_eq_true rfl, Nat.le_of_ble_eq_true rfl⟩) ⟨fun a U g mk q => by obtain ⟨q0, q1, qP, qK, qD, qo⟩ := q; exact ⟨q0, q1, qP, va_K.moved (u := U) (U := U.calling g mk a) (Vm.Alike.refl U.vm) qK, qD, va_AO.moved (u := U) (U := U.calling g mk a) (Vm.Alike.refl U.vm) qo⟩, fun U hU hW => ⟨rfl, by rw [hU], by rw [hU]; exact hPc, va_K.moved hW.alike hKc, hDc.weaken (fun _ _ _ _ => trivial), va_AO.moved hW.alike ho4⟩⟩ rfl rfl hl.1 rfl (lv_room (Nat.le_of_ble_eq_true rfl)) dX2_init_70 ⟨Nat.le_of_ble_eq_true rfl, Nat.le_of_ble_eq_true rfl⟩) hS (fun q _ h => hFc q h) hFc (fun u t H1 locs ht hvm hw hB hz1 hk1 hS => ?_)
      obtain ⟨qs383, hP1, hK1, hD1⟩ := hB
      rw [ht] at hP1
      have hK1 := va_K.moved hvm.symm hK1
      obtain ⟨hP, hD⟩ := va_join (wr := [(h0, .inr (2, [.int mk, .int mn, .ref q360, .int (sp_lo st), .int 0, .int st])), (q360, .inl (cA361, 5, .inr (.inr (.inr (.inr f)))))]) (w1 := [(q382, .inr (4, [.ref qs383, .int 0, .int 0, .int 0, .int 0, .int 0, .int nw]))]) hP hD [2] [0, 1] rfl rfl (by decide +kernel) (by decide +kernel) hk1 hFc hP1 hD1
      have hK := (hK.sub (tys' := [(cA361, .object "TallyLogs$Replica")]) [0] rfl).app hK1
      generalize H1 = H at hP hS ⊢
      have hP : va_P (dC, dI) vwCl [(h0, .inr (2, [.int mk, .int mn, .ref q360, .int (sp_lo st), .int 0, .int st])), (q360, .inl (cA361, 5, .inr (.inr (.inr (.inr f))))), (q382, .inr (4, [.ref qs383, .int 0, .int 0, .int 0, .int 0, .int 0, .int nw]))] H := hP
      have hD : va_D A [(h0, .inr (2, [.int mk, .int mn, .ref q360, .int (sp_lo st), .int 0, .int st])), (q360, .inl (cA361, 5, .inr (.inr (.inr (.inr f))))), (q382, .inr (4, [.ref qs383, .int 0, .int 0, .int 0, .int 0, .int 0, .int nw]))] := hD
      have hK : va_K (dC, dI) vwCl [(cA361, .object "TallyLogs$Replica")] s := hK
      refine W.widen (k := 5) (n := 139) (by omega) (by omega) ?_
      refine lv_goto (tgt := 77) hx hb dX2_init_73 (by decide) ?_
      refine va_astq hx hb hK hP hD hS 1 0 2 4 rfl rfl rfl rfl (by unfold vp_in; decide) dX2_init_77 (fun H locs hP hD hS => ?_)
      have hP : va_P (dC, dI) vwCl [(h0, .inr (2, [.int mk, .int mn, .ref q360, .int (sp_lo st), .int 0, .int st])), (q360, .inl (cA361, 5, .inr (.inr (.inr (.inr (va_up f 1 (some q382))))))), (q382, .inr (4, [.ref qs383, .int 0, .int 0, .int 0, .int 0, .int 0, .int nw]))] H := hP
      have hD : va_D A [(h0, .inr (2, [.int mk, .int mn, .ref q360, .int (sp_lo st), .int 0, .int st])), (q360, .inl (cA361, 5, .inr (.inr (.inr (.inr (va_up f 1 (some q382))))))), (q382, .inr (4, [.ref qs383, .int 0, .int 0, .int 0, .int 0, .int 0, .int nw]))] := hD
      refine lv_iinc (v := 2) (lv' := [(5, .int 2), (0, .ref h0), (1, .int mk), (2, .int st), (3, .int mn), (4, .int nw)]) hx hb dX2_init_78 hl (k := 5) rfl (by decide) (by decide) rfl (fun ls hl => ?_)
      refine lv_goto (tgt := 43) hx hb dX2_init_81 (by decide) ?_
      refine W.widen (k := 5) (n := 139) (by omega) (by omega) ?_
      exact hL2 _ _ _ _ (hP.sub [0, 1] rfl) (hD.sub [0, 1] (by decide) rfl) hS (lv_sub hl [1, 2, 3, 4, 5, 0] rfl)
  have hL0 : ∀ (f : Nat → Option Nat) (H : Heap) (locs : List Loc) (ls : Array Slot), va_P (dC, dI) vwCl [(h0, .inr (2, [.int mk, .int mn, .ref q360, .int (sp_lo st), .int 0, .int st])), (q360, .inl (cA361, 5, .inr (.inr (.inr (.inr f)))))] H → va_D A [(h0, .inr (2, [.int mk, .int mn, .ref q360, .int (sp_lo st), .int 0, .int st])), (q360, .inl (cA361, 5, .inr (.inr (.inr (.inr f)))))] → va_S A s.heap H locs → lv_has ls 6 [(0, .ref h0), (1, .int mk), (2, .int st), (3, .int mn), (4, .int nw), (5, .int 0)] → W p l e (headSpec wsX2_init ({ frames := 2, cells := 11, slots := 340, locals := 42 })).room s m ([.ref h0, .int mk, .int st, .int mn, .int nw] : List Value).toArray below meth c H locs 1 5 Q (F0 m 43 ls []) := by
    intro f H locs ls hP hD hS hl
    refine lv_iload hx hb dX2_init_43 (lv_at hl 5 rfl) ?_
    refine lv_iconst (v := 5) hx hb dX2_init_45 (by decide) ?_
    refine lv_icmp_ge (tgt := 84) hx hb dX2_init_46 (by decide) (fun c384 => ?_) (fun c384 => ?_)
    · exact absurd c384 (by decide)
    refine lv_aload_n hx hb dX2_init_49 rfl (lv_at hl 0 rfl) ?_
    refine va_get (D := (dC, dI)) (ci := 2) (v := .ref q360) (C := RX2) (T := TX2) (N := 6) hx hb hts hi2 hown hK hP 0 rfl rfl 2 (by decide) (hts (.fieldLink RX2 11 "TallyLogs$Partition" "replicas" "[LTallyLogs$Replica;") (by decide +kernel)) (fun _ h9 => h9) rfl dX2_init_50 ?_
    refine lv_iload hx hb dX2_init_53 (lv_at hl 5 rfl) ?_
    refine lv_iload_n hx hb dX2_init_55 rfl (lv_at hl 1 rfl) ?_
    refine lv_iload hx hb dX2_init_56 (lv_at hl 5 rfl) ?_
    refine vp_callSi (va_Run.run (va_runSN (As := [.int mk, .int 0]) (rest := [.int 0, .ref q360]) ⟨hx, hb, hml, hown, hts⟩ (c_X5_contains l mk 0) ⟨va_cnB 2 hts gX2_init_X5_contains_n37 rfl rfl rfl hn37 (hts (.initialized RX5) (by decide +kernel)) (by decide +kernel) ⟨Nat.le_of_ble_eq_true rfl, Nat.le_of_ble_eq_true rfl⟩, hts (.static yX5_contains) (by decide +kernel), trivial⟩ preEq rfl rfl hl.1 rfl (lv_room (Nat.le_of_ble_eq_true rfl)) dX2_init_58 ⟨Nat.le_of_ble_eq_true rfl, Nat.le_of_ble_eq_true rfl⟩)) (fun r385 hr385 => ?_)
    subst hr385
    refine lv_if_eq (tgt := 76) hx hb dX2_init_61 (by decide) (fun c386 => ?_) (fun c386 => ?_)
    · refine lv_null hx hb dX2_init_76 ?_
      refine va_astqN hx hb hK hP hD hS 1 0 rfl rfl (by unfold vp_in; decide) dX2_init_77 (fun H locs hP hD hS => ?_)
      have hP : va_P (dC, dI) vwCl [(h0, .inr (2, [.int mk, .int mn, .ref q360, .int (sp_lo st), .int 0, .int st])), (q360, .inl (cA361, 5, .inr (.inr (.inr (.inr (va_up f 0 none))))))] H := hP
      have hD : va_D A [(h0, .inr (2, [.int mk, .int mn, .ref q360, .int (sp_lo st), .int 0, .int st])), (q360, .inl (cA361, 5, .inr (.inr (.inr (.inr (va_up f 0 none))))))] := hD
      refine lv_iinc (v := 1) (lv' := [(5, .int 1), (0, .ref h0), (1, .int mk), (2, .int st), (3, .int mn), (4, .int nw)]) hx hb dX2_init_78 hl (k := 5) rfl (by decide) (by decide) rfl (fun ls hl => ?_)
      refine lv_goto (tgt := 43) hx hb dX2_init_81 (by decide) ?_
      refine W.widen (k := 3) (n := 72) (by omega) (by omega) ?_
      exact hL1 _ _ _ _ (hP.sub [0, 1] rfl) (hD.sub [0, 1] (by decide) rfl) hS (lv_sub hl [1, 2, 3, 4, 5, 0] rfl)
    · refine va_new (ci := 4) (fs := [.null, .int 0, .int 0, .int 0, .int 0, .int 0, .int 0]) (C := RX4) (T := TX4) (N := 7) hx hb hts hi4 tyX4 tyX4_ok hown (hts (.classLink RX2 9 RX4) (by decide +kernel)) (hts (.instantiable RX4 7) (by decide +kernel)) (hts (.initialized RX4) (by decide +kernel)) hK hP hD hS hA rfl (fun j hj => by rcases (show j = 0 ∨ j = 1 ∨ j = 2 ∨ j = 3 ∨ j = 4 ∨ j = 5 ∨ j = 6 by omega) with rfl | rfl | rfl | rfl | rfl | rfl | rfl <;> rfl) (Nat.le_of_ble_eq_true rfl) (Nat.le_of_ble_eq_true rfl) dX2_init_64 (fun q387 H hP hD hS => ?_)
      have hP : va_P (dC, dI) vwCl [(h0, .inr (2, [.int mk, .int mn, .ref q360, .int (sp_lo st), .int 0, .int st])), (q360, .inl (cA361, 5, .inr (.inr (.inr (.inr f))))), (q387, .inr (4, [.null, .int 0, .int 0, .int 0, .int 0, .int 0, .int 0]))] H := hP
      have hD : va_D A [(h0, .inr (2, [.int mk, .int mn, .ref q360, .int (sp_lo st), .int 0, .int st])), (q360, .inl (cA361, 5, .inr (.inr (.inr (.inr f))))), (q387, .inr (4, [.null, .int 0, .int 0, .int 0, .int 0, .int 0, .int 0]))] := hD
      refine W.widen (k := 2) (n := 12) (by omega) (by omega) ?_
      refine lv_dup hx hb dX2_init_67 rfl ?_
      refine lv_iload hx hb dX2_init_68 (lv_at hl 4 rfl) ?_
      have hPc := hP.sub (ws' := [(q387, .inr (4, [.null, .int 0, .int 0, .int 0, .int 0, .int 0, .int 0]))]) [2] rfl
      have hDc := hD.sub (ws' := [(q387, .inr (4, [.null, .int 0, .int 0, .int 0, .int 0, .int 0, .int 0]))]) [2] (by decide) rfl
      have hKc := hK.sub (tys' := []) [] rfl
      have hFc := va_free (wc := [(q387, .inr (4, [.null, .int 0, .int 0, .int 0, .int 0, .int 0, .int 0]))]) hD hS hA [2] rfl
      refine va_callv (va_runI (As := [.int nw]) (rest := [.ref q387, .int 0, .ref q360]) ⟨hx, hb, hml, hown, hts⟩ (c_X4_init l dC dI q387 H.size nw) (cwI 1 hts gX2_init_X4_init rfl rfl rfl (hts (.initialized RX4) (by decide +kernel)) (hts (.methodLink RX2 41 yX4_init) (by decide +kernel)) (hts (.instanceMethod yX4_init) (by decide +kernel)) rfl (by decide +kernel) ⟨Nat.le_of_ble_eq_true rfl, Nat.le_of_ble_eq_true rfl⟩) ⟨fun a U g mk q => by obtain ⟨q0, q1, qP, qK, qD, qo⟩ := q; exact ⟨q0, q1, qP, va_K.moved (u := U) (U := U.calling g mk a) (Vm.Alike.refl U.vm) qK, qD, va_AO.moved (u := U) (U := U.calling g mk a) (Vm.Alike.refl U.vm) qo⟩, fun U hU hW => ⟨rfl, by rw [hU], by rw [hU]; exact hPc, va_K.moved hW.alike hKc, hDc.weaken (fun _ _ _ _ => trivial), va_AO.moved hW.alike ho4⟩⟩ rfl rfl hl.1 rfl (lv_room (Nat.le_of_ble_eq_true rfl)) dX2_init_70 ⟨Nat.le_of_ble_eq_true rfl, Nat.le_of_ble_eq_true rfl⟩) hS (fun q _ h => hFc q h) hFc (fun u t H1 locs ht hvm hw hB hz1 hk1 hS => ?_)
      obtain ⟨qs388, hP1, hK1, hD1⟩ := hB
      rw [ht] at hP1
      have hK1 := va_K.moved hvm.symm hK1
      obtain ⟨hP, hD⟩ := va_join (wr := [(h0, .inr (2, [.int mk, .int mn, .ref q360, .int (sp_lo st), .int 0, .int st])), (q360, .inl (cA361, 5, .inr (.inr (.inr (.inr f)))))]) (w1 := [(q387, .inr (4, [.ref qs388, .int 0, .int 0, .int 0, .int 0, .int 0, .int nw]))]) hP hD [2] [0, 1] rfl rfl (by decide +kernel) (by decide +kernel) hk1 hFc hP1 hD1
      have hK := (hK.sub (tys' := [(cA361, .object "TallyLogs$Replica")]) [0] rfl).app hK1
      generalize H1 = H at hP hS ⊢
      have hP : va_P (dC, dI) vwCl [(h0, .inr (2, [.int mk, .int mn, .ref q360, .int (sp_lo st), .int 0, .int st])), (q360, .inl (cA361, 5, .inr (.inr (.inr (.inr f))))), (q387, .inr (4, [.ref qs388, .int 0, .int 0, .int 0, .int 0, .int 0, .int nw]))] H := hP
      have hD : va_D A [(h0, .inr (2, [.int mk, .int mn, .ref q360, .int (sp_lo st), .int 0, .int st])), (q360, .inl (cA361, 5, .inr (.inr (.inr (.inr f))))), (q387, .inr (4, [.ref qs388, .int 0, .int 0, .int 0, .int 0, .int 0, .int nw]))] := hD
      have hK : va_K (dC, dI) vwCl [(cA361, .object "TallyLogs$Replica")] s := hK
      refine W.widen (k := 3) (n := 72) (by omega) (by omega) ?_
      refine lv_goto (tgt := 77) hx hb dX2_init_73 (by decide) ?_
      refine va_astq hx hb hK hP hD hS 1 0 2 4 rfl rfl rfl rfl (by unfold vp_in; decide) dX2_init_77 (fun H locs hP hD hS => ?_)
      have hP : va_P (dC, dI) vwCl [(h0, .inr (2, [.int mk, .int mn, .ref q360, .int (sp_lo st), .int 0, .int st])), (q360, .inl (cA361, 5, .inr (.inr (.inr (.inr (va_up f 0 (some q387))))))), (q387, .inr (4, [.ref qs388, .int 0, .int 0, .int 0, .int 0, .int 0, .int nw]))] H := hP
      have hD : va_D A [(h0, .inr (2, [.int mk, .int mn, .ref q360, .int (sp_lo st), .int 0, .int st])), (q360, .inl (cA361, 5, .inr (.inr (.inr (.inr (va_up f 0 (some q387))))))), (q387, .inr (4, [.ref qs388, .int 0, .int 0, .int 0, .int 0, .int 0, .int nw]))] := hD
      refine lv_iinc (v := 1) (lv' := [(5, .int 1), (0, .ref h0), (1, .int mk), (2, .int st), (3, .int mn), (4, .int nw)]) hx hb dX2_init_78 hl (k := 5) rfl (by decide) (by decide) rfl (fun ls hl => ?_)
      refine lv_goto (tgt := 43) hx hb dX2_init_81 (by decide) ?_
      refine W.widen (k := 3) (n := 72) (by omega) (by omega) ?_
      exact hL1 _ _ _ _ (hP.sub [0, 1] rfl) (hD.sub [0, 1] (by decide) rfl) hS (lv_sub hl [1, 2, 3, 4, 5, 0] rfl)
  refine W.widen (k := 1) (n := 5) (by omega) (by omega) ?_
  exact hL0 _ _ _ _ hP hD hS (lv_sub hl [1, 2, 3, 4, 5, 0] rfl)
