set_option maxHeartbeats 4000000 in
set_option maxRecDepth 100000 in
/-- Replica.agreeWith -/
theorem c_X4_agreeWith (l : Launch) (dC : Nat → ClassId) (dI : Nat → Nat → Nat) (cy : Nat → ClassId) (v : Nat → Nat) (L : List Nat) (K N : Nat → Nat) (T : Nat → Nat → Nat) (I : Nat → Nat → Int32) (Q : Nat → Nat → Option Nat) (J : Nat → Nat → Int32) (sz : Nat) (a : Nat) (rb : Nat) (hC : CT v L K N T I Q) (ha : a ∈ L) (hk : K a = 4) (hb4 : rb ∈ L) (hkb : K rb = 4) : Met l yX4_agreeWith wsX4_agreeWith ({ frames := 3, cells := 0, slots := 0, locals := 67 }) (va_Pc [.ref a, .ref rb] (pW dC dI cy L (pF cy K N T I Q J) sz)) (va_Qv (fun d : (Nat → Nat → Int32) × (Nat → Nat → Option Nat) × (Nat → Nat → Int32) => CT v L K N T d.1 d.2.1 ∧ RS v I Q J d.1 d.2.1 d.2.2) (fun (d : (Nat → Nat → Int32) × (Nat → Nat → Option Nat) × (Nat → Nat → Int32)) t => va_P (dC, dI) vwCl (va_pl L (pF cy K N T d.1 d.2.1 d.2.2)) t.heap ∧ va_K (dC, dI) vwCl (pTy cy) t ∧ va_D (va_A (va_pl L (pF cy K N T I Q J)) sz) (va_pl L (pF cy K N T d.1 d.2.1 d.2.2))) (va_A (va_pl L (pF cy K N T I Q J)) sz)) 0 0 (va_A (va_pl L (pF cy K N T I Q J)) sz) := by
  refine Met.ofW (cc := cX4_agreeWith) (maxL := 3) (ret := none) (by decide) rfl ?_
  intro p e s m args below meth c s₁ B hml hv
  obtain ⟨rfl, hsz, ⟨hP, hK, hN⟩, hD0⟩ := hv
  have hx := B.exec
  have hb := B.bytes
  have hr := B.returns
  have hts := atoms_spec (ws := wsX4_agreeWith) B.pre
  have hown : s.vm.findClass RX4 = some m.cls := findClass_of_methodNamed B.named
  have hlocks := B.notSynchronized
  have hi4 : ∀ w ∈ wsX40, w ∈ wsX4_agreeWith := by decide +kernel
  have hl := lv_entry ([.ref a, .ref rb]) (n := 3) (Nat.le_of_ble_eq_true rfl)
  rw [lg_entry_eq]
  generalize (lg_sl ([.ref a, .ref rb]) ++ List.replicate (3 - (lg_sl ([.ref a, .ref rb])).length) Slot.unset).toArray = ls at hl ⊢
  have hl : lv_has ls 3 [(0, .ref a), (1, .ref rb)] := hl
  subst hsz
  have hD := hD0.self (sz := s.heap.size)
  generalize hAe : va_A (va_pl L (pF cy K N T I Q J)) s.heap.size = A at hD ⊢
  have hA : ∀ q : Nat, s.heap.size ≤ q → A q := fun q h => by rw [← hAe]; exact Or.inr h
  have hS : va_S A s.heap s.heap [] := va_S.rf
  have hR : RS v I Q J I Q J := RS.rf
  have hn28 := hN.1
  have hn30 := hN.2.1
  have hn37 := hN.2.2.1
  refine lv_aload_n hx hb dX4_agreeWith_0 rfl (lv_at hl 0 rfl) ?_
  obtain ⟨j179, hj179⟩ := pG_4 (cy := cy) (N := N) (T := T) (I := I) (Q := Q) (J := J) ha hk
  refine va_get (D := (dC, dI)) (ci := 4) (v := .int (I a 2)) (C := RX4) (T := TX4) (N := 7) hx hb hts hi4 hown hK hP j179 hj179 rfl 2 (by decide) (hts (.fieldLink RX4 21 "TallyLogs$Replica" "end" "I") (by decide +kernel)) (fun _ h9 => h9) rfl dX4_agreeWith_1 ?_
  refine lv_topi (fun x180 ex180 => ?_)
  refine lv_aload_n hx hb dX4_agreeWith_4 rfl (lv_at hl 1 rfl) ?_
  obtain ⟨j181, hj181⟩ := pG_4 (cy := cy) (N := N) (T := T) (I := I) (Q := Q) (J := J) hb4 hkb
  refine va_get (D := (dC, dI)) (ci := 4) (v := .int (I rb 1)) (C := RX4) (T := TX4) (N := 7) hx hb hts hi4 hown hK hP j181 hj181 rfl 1 (by decide) (hts (.fieldLink RX4 17 "TallyLogs$Replica" "start" "I") (by decide +kernel)) (fun _ h9 => h9) rfl dX4_agreeWith_5 ?_
  refine lv_topi (fun x182 ex182 => ?_)
  refine lv_icmp_ge (tgt := 27) hx hb dX4_agreeWith_8 (by decide) (fun c183 => ?_) (fun c183 => ?_)
  · refine lv_aload_n hx hb dX4_agreeWith_27 rfl (lv_at hl 0 rfl) ?_
    obtain ⟨j184, hj184⟩ := pG_4 (cy := cy) (N := N) (T := T) (I := I) (Q := Q) (J := J) ha hk
    refine va_get (D := (dC, dI)) (ci := 4) (v := .int (I a 1)) (C := RX4) (T := TX4) (N := 7) hx hb hts hi4 hown hK hP j184 hj184 rfl 1 (by decide) (hts (.fieldLink RX4 17 "TallyLogs$Replica" "start" "I") (by decide +kernel)) (fun _ h9 => h9) rfl dX4_agreeWith_28 ?_
    refine lv_topi (fun x185 ex185 => ?_)
    refine lv_aload_n hx hb dX4_agreeWith_31 rfl (lv_at hl 1 rfl) ?_
    obtain ⟨j186, hj186⟩ := pG_4 (cy := cy) (N := N) (T := T) (I := I) (Q := Q) (J := J) hb4 hkb
    refine va_get (D := (dC, dI)) (ci := 4) (v := .int (I rb 1)) (C := RX4) (T := TX4) (N := 7) hx hb hts hi4 hown hK hP j186 hj186 rfl 1 (by decide) (hts (.fieldLink RX4 17 "TallyLogs$Replica" "start" "I") (by decide +kernel)) (fun _ h9 => h9) rfl dX4_agreeWith_32 ?_
    refine lv_topi (fun x187 ex187 => ?_)
    refine va_mmax hx hb (by rw [hml]; exact hl.1.symm) hown (hts (.methodLink RX4 46 Lib.Math.max.name) (by decide +kernel)) (hts (.static Lib.Math.max.name) (by decide +kernel)) (hts (.initialized "java/lang/Math") (by decide +kernel)) (hts _ (List.mem_of_getElem? (i := 6) rfl)) (Nat.le_of_ble_eq_true rfl) (Nat.le_of_ble_eq_true rfl) (Nat.le_of_ble_eq_true rfl) (Nat.le_of_ble_eq_true rfl) dX4_agreeWith_35 ?_
    refine lv_topi (fun z188 ez188 => ?_)
    refine lv_istore_n (lv' := [(2, .int z188), (0, .ref a), (1, .ref rb)]) hx hb dX4_agreeWith_38 rfl hl (by decide) rfl (fun ls hl => ?_)
    refine wq_gen (fun Qz hQz => ?_)
    have hLP189 : ∀ (n : Nat) (y190 : Int32) (Ia189 : Nat → Nat → Int32) (Qa189 : Nat → Nat → Option Nat) (Ja189 : Nat → Nat → Int32) (H : Heap) (locs : List Loc) (ls : Array Slot), ((Ia189 a 2).toInt - y190.toInt).toNat < n → 0 ≤ y190.toInt → CT v L K N T Ia189 Qa189 → RS v I Q J Ia189 Qa189 Ja189 → va_P (dC, dI) vwCl (va_pl L (pF cy K N T Ia189 Qa189 Ja189)) H → va_D A (va_pl L (pF cy K N T Ia189 Qa189 Ja189)) → va_S A s.heap H locs → lv_has ls 3 [(2, .int y190), (0, .ref a), (1, .ref rb)] → W p l e (headSpec wsX4_agreeWith ({ frames := 3, cells := 0, slots := 0, locals := 67 })).room s m ([.ref a, .ref rb] : List Value).toArray below meth c H locs 0 0 Qz (F0 m 39 ls []) := by
      intro n
      induction n with
      | zero => intro y190 Ia189 Qa189 Ja189 H locs ls hms; exact absurd hms (Nat.not_lt_zero _)
      | succ n ih =>
        intro y190 Ia189 Qa189 Ja189 H locs ls hms hnn189 hC hR hP hD hS hl
        refine lv_iload_n hx hb dX4_agreeWith_39 rfl (lv_at hl 0 rfl) ?_
        refine lv_aload_n hx hb dX4_agreeWith_40 rfl (lv_at hl 1 rfl) ?_
        obtain ⟨j191, hj191⟩ := pG_4 (cy := cy) (N := N) (T := T) (I := Ia189) (Q := Qa189) (J := Ja189) ha hk
        refine va_get (D := (dC, dI)) (ci := 4) (v := .int (Ia189 a 2)) (C := RX4) (T := TX4) (N := 7) hx hb hts hi4 hown hK hP j191 hj191 rfl 2 (by decide) (hts (.fieldLink RX4 21 "TallyLogs$Replica" "end" "I") (by decide +kernel)) (fun _ h9 => h9) rfl dX4_agreeWith_41 ?_
        refine lv_topi (fun x192 ex192 => ?_)
        refine lv_icmp_ge (tgt := 62) hx hb dX4_agreeWith_44 (by decide) (fun c193 => ?_) (fun c193 => ?_)
        · refine lv_aload_n hx hb dX4_agreeWith_62 rfl (lv_at hl 1 rfl) ?_
          refine lv_iload_n hx hb dX4_agreeWith_63 rfl (lv_at hl 0 rfl) ?_
          obtain ⟨j194, hj194⟩ := pG_4 (cy := cy) (N := N) (T := T) (I := Ia189) (Q := Qa189) (J := Ja189) ha hk
          have hDo := hD
          refine va_put (D := (dC, dI)) (ci := 4) (v := .int y190) (ty := .int) (C := RX4) (T := TX4) (N := 7) hx hb hts hi4 tyX4 tyX4_ok nmX4 hown hK hP hD hS j194 hj194 rfl 2 (by decide) (hts (.fieldLink RX4 21 "TallyLogs$Replica" "end" "I") (by decide +kernel)) (fun _ h9 => h9) rfl (by decide +kernel) rfl rfl (Nat.le_of_ble_eq_true rfl) dX4_agreeWith_64 (fun H locs hP hD hS => ?_)
          have hP := Eq.mp (congrArg (fun w => va_P (dC, dI) vwCl w H) (pP_4_2 (x := y190) hDo ha hk hj194)) hP
          obtain ⟨I195, eI195⟩ : ∃ z, z = p2 Ia189 a 2 y190 := ⟨_, rfl⟩
          rw [← eI195] at hP
          have hR : RS v I Q J I195 Qa189 Ja189 := by rw [eI195]; exact hR.pi hC (by rw [hk]; decide)
          have hC : CT v L K N T I195 Qa189 := by rw [eI195]; exact hC.pi (by rw [hk]; decide)
          have hD : va_D A (va_pl L (pF cy K N T I195 Qa189 Ja189)) := pD hDo
          refine lv_aload_n hx hb dX4_agreeWith_67 rfl (lv_at hl 1 rfl) ?_
          refine lv_aload_n hx hb dX4_agreeWith_68 rfl (lv_at hl 1 rfl) ?_
          obtain ⟨j196, hj196⟩ := pG_4 (cy := cy) (N := N) (T := T) (I := I195) (Q := Qa189) (J := Ja189) ha hk
          refine va_get (D := (dC, dI)) (ci := 4) (v := .int (I195 a 4)) (C := RX4) (T := TX4) (N := 7) hx hb hts hi4 hown hK hP j196 hj196 rfl 4 (by decide) (hts (.fieldLink RX4 27 "TallyLogs$Replica" "flushed" "I") (by decide +kernel)) (fun _ h9 => h9) rfl dX4_agreeWith_69 ?_
          refine lv_topi (fun x197 ex197 => ?_)
          refine lv_aload_n hx hb dX4_agreeWith_72 rfl (lv_at hl 1 rfl) ?_
          obtain ⟨j198, hj198⟩ := pG_4 (cy := cy) (N := N) (T := T) (I := I195) (Q := Qa189) (J := Ja189) ha hk
          refine va_get (D := (dC, dI)) (ci := 4) (v := .int (I195 a 2)) (C := RX4) (T := TX4) (N := 7) hx hb hts hi4 hown hK hP j198 hj198 rfl 2 (by decide) (hts (.fieldLink RX4 21 "TallyLogs$Replica" "end" "I") (by decide +kernel)) (fun _ h9 => h9) rfl dX4_agreeWith_73 ?_
          refine lv_topi (fun x199 ex199 => ?_)
          refine va_mmin hx hb (by rw [hml]; exact hl.1.symm) hown (hts (.methodLink RX4 49 Lib.Math.min.name) (by decide +kernel)) (hts (.static Lib.Math.min.name) (by decide +kernel)) (hts (.initialized "java/lang/Math") (by decide +kernel)) (hts _ (List.mem_of_getElem? (i := 10) rfl)) (Nat.le_of_ble_eq_true rfl) (Nat.le_of_ble_eq_true rfl) (Nat.le_of_ble_eq_true rfl) (Nat.le_of_ble_eq_true rfl) dX4_agreeWith_76 ?_
          refine lv_topi (fun z200 ez200 => ?_)
          obtain ⟨j201, hj201⟩ := pG_4 (cy := cy) (N := N) (T := T) (I := I195) (Q := Qa189) (J := Ja189) ha hk
          have hDo := hD
          refine va_put (D := (dC, dI)) (ci := 4) (v := .int z200) (ty := .int) (C := RX4) (T := TX4) (N := 7) hx hb hts hi4 tyX4 tyX4_ok nmX4 hown hK hP hD hS j201 hj201 rfl 4 (by decide) (hts (.fieldLink RX4 27 "TallyLogs$Replica" "flushed" "I") (by decide +kernel)) (fun _ h9 => h9) rfl (by decide +kernel) rfl rfl (Nat.le_of_ble_eq_true rfl) dX4_agreeWith_79 (fun H locs hP hD hS => ?_)
          have hP := Eq.mp (congrArg (fun w => va_P (dC, dI) vwCl w H) (pP_4_4 (x := z200) hDo ha hk hj201)) hP
          obtain ⟨I202, eI202⟩ : ∃ z, z = p2 I195 a 4 z200 := ⟨_, rfl⟩
          rw [← eI202] at hP
          have hR : RS v I Q J I202 Qa189 Ja189 := by rw [eI202]; exact hR.pi hC (by rw [hk]; decide)
          have hC : CT v L K N T I202 Qa189 := by rw [eI202]; exact hC.pi (by rw [hk]; decide)
          have hD : va_D A (va_pl L (pF cy K N T I202 Qa189 Ja189)) := pD hDo
          rw [hQz]
          exact W.vret hx hb hr (fun t ht hW => ⟨⟨(I202, Qa189, Ja189), rfl, ⟨hC, hR⟩, by rw [ht]; exact hP, va_K.moved hW.alike hK, hD⟩, hS.F ht⟩) hS.2.2 dX4_agreeWith_82
        · refine lv_aload_n hx hb dX4_agreeWith_47 rfl (lv_at hl 1 rfl) ?_
          refine lv_iload_n hx hb dX4_agreeWith_48 rfl (lv_at hl 0 rfl) ?_
          refine lv_aload_n hx hb dX4_agreeWith_49 rfl (lv_at hl 2 rfl) ?_
          obtain ⟨j204, hj204⟩ := pG_4 (cy := cy) (N := N) (T := T) (I := Ia189) (Q := Qa189) (J := Ja189) ha hk
          refine vp_callSi (W.runV (As := [.int y190, .ref rb]) (rest := []) ⟨hx, hb, hml, hown, hts⟩ (c_X4_hasSameEpoch l dC dI cy v L K N T Ia189 Qa189 Ja189 a y190 rb hC ha hk hb4 hkb) (cwV 2 hts gX4_agreeWith_X4_hasSameEpoch rfl rfl rfl (by decide +kernel) ⟨Nat.le_of_ble_eq_true rfl, Nat.le_of_ble_eq_true rfl⟩) ⟨pb_blind, va_recv hK hP (ci := 4) (q0 := j204) rfl hj204, fun U hU hW => ⟨rfl, pb_pre hP hK hN hU hW⟩⟩ rfl rfl hl.1 rfl (lv_room (Nat.le_of_ble_eq_true rfl)) dX4_agreeWith_50 ⟨Nat.le_of_ble_eq_true rfl, Nat.le_of_ble_eq_true rfl⟩) (fun r203 hr203 => ?_)
          refine lv_if_eq (tgt := 62) hx hb dX4_agreeWith_53 (by decide) (fun c205 => ?_) (fun c205 => ?_)
          · refine lv_aload_n hx hb dX4_agreeWith_62 rfl (lv_at hl 1 rfl) ?_
            refine lv_iload_n hx hb dX4_agreeWith_63 rfl (lv_at hl 0 rfl) ?_
            obtain ⟨j206, hj206⟩ := pG_4 (cy := cy) (N := N) (T := T) (I := Ia189) (Q := Qa189) (J := Ja189) ha hk
            have hDo := hD
            refine va_put (D := (dC, dI)) (ci := 4) (v := .int y190) (ty := .int) (C := RX4) (T := TX4) (N := 7) hx hb hts hi4 tyX4 tyX4_ok nmX4 hown hK hP hD hS j206 hj206 rfl 2 (by decide) (hts (.fieldLink RX4 21 "TallyLogs$Replica" "end" "I") (by decide +kernel)) (fun _ h9 => h9) rfl (by decide +kernel) rfl rfl (Nat.le_of_ble_eq_true rfl) dX4_agreeWith_64 (fun H locs hP hD hS => ?_)
            have hP := Eq.mp (congrArg (fun w => va_P (dC, dI) vwCl w H) (pP_4_2 (x := y190) hDo ha hk hj206)) hP
            obtain ⟨I207, eI207⟩ : ∃ z, z = p2 Ia189 a 2 y190 := ⟨_, rfl⟩
            rw [← eI207] at hP
            have hR : RS v I Q J I207 Qa189 Ja189 := by rw [eI207]; exact hR.pi hC (by rw [hk]; decide)
            have hC : CT v L K N T I207 Qa189 := by rw [eI207]; exact hC.pi (by rw [hk]; decide)
            have hD : va_D A (va_pl L (pF cy K N T I207 Qa189 Ja189)) := pD hDo
            refine lv_aload_n hx hb dX4_agreeWith_67 rfl (lv_at hl 1 rfl) ?_
            refine lv_aload_n hx hb dX4_agreeWith_68 rfl (lv_at hl 1 rfl) ?_
            obtain ⟨j208, hj208⟩ := pG_4 (cy := cy) (N := N) (T := T) (I := I207) (Q := Qa189) (J := Ja189) ha hk
            refine va_get (D := (dC, dI)) (ci := 4) (v := .int (I207 a 4)) (C := RX4) (T := TX4) (N := 7) hx hb hts hi4 hown hK hP j208 hj208 rfl 4 (by decide) (hts (.fieldLink RX4 27 "TallyLogs$Replica" "flushed" "I") (by decide +kernel)) (fun _ h9 => h9) rfl dX4_agreeWith_69 ?_
            refine lv_topi (fun x209 ex209 => ?_)
            refine lv_aload_n hx hb dX4_agreeWith_72 rfl (lv_at hl 1 rfl) ?_
            obtain ⟨j210, hj210⟩ := pG_4 (cy := cy) (N := N) (T := T) (I := I207) (Q := Qa189) (J := Ja189) ha hk
            refine va_get (D := (dC, dI)) (ci := 4) (v := .int (I207 a 2)) (C := RX4) (T := TX4) (N := 7) hx hb hts hi4 hown hK hP j210 hj210 rfl 2 (by decide) (hts (.fieldLink RX4 21 "TallyLogs$Replica" "end" "I") (by decide +kernel)) (fun _ h9 => h9) rfl dX4_agreeWith_73 ?_
            refine lv_topi (fun x211 ex211 => ?_)
            refine va_mmin hx hb (by rw [hml]; exact hl.1.symm) hown (hts (.methodLink RX4 49 Lib.Math.min.name) (by decide +kernel)) (hts (.static Lib.Math.min.name) (by decide +kernel)) (hts (.initialized "java/lang/Math") (by decide +kernel)) (hts _ (List.mem_of_getElem? (i := 10) rfl)) (Nat.le_of_ble_eq_true rfl) (Nat.le_of_ble_eq_true rfl) (Nat.le_of_ble_eq_true rfl) (Nat.le_of_ble_eq_true rfl) dX4_agreeWith_76 ?_
            refine lv_topi (fun z212 ez212 => ?_)
            obtain ⟨j213, hj213⟩ := pG_4 (cy := cy) (N := N) (T := T) (I := I207) (Q := Qa189) (J := Ja189) ha hk
            have hDo := hD
            refine va_put (D := (dC, dI)) (ci := 4) (v := .int z212) (ty := .int) (C := RX4) (T := TX4) (N := 7) hx hb hts hi4 tyX4 tyX4_ok nmX4 hown hK hP hD hS j213 hj213 rfl 4 (by decide) (hts (.fieldLink RX4 27 "TallyLogs$Replica" "flushed" "I") (by decide +kernel)) (fun _ h9 => h9) rfl (by decide +kernel) rfl rfl (Nat.le_of_ble_eq_true rfl) dX4_agreeWith_79 (fun H locs hP hD hS => ?_)
            have hP := Eq.mp (congrArg (fun w => va_P (dC, dI) vwCl w H) (pP_4_4 (x := z212) hDo ha hk hj213)) hP
            obtain ⟨I214, eI214⟩ : ∃ z, z = p2 I207 a 4 z212 := ⟨_, rfl⟩
            rw [← eI214] at hP
            have hR : RS v I Q J I214 Qa189 Ja189 := by rw [eI214]; exact hR.pi hC (by rw [hk]; decide)
            have hC : CT v L K N T I214 Qa189 := by rw [eI214]; exact hC.pi (by rw [hk]; decide)
            have hD : va_D A (va_pl L (pF cy K N T I214 Qa189 Ja189)) := pD hDo
            rw [hQz]
            exact W.vret hx hb hr (fun t ht hW => ⟨⟨(I214, Qa189, Ja189), rfl, ⟨hC, hR⟩, by rw [ht]; exact hP, va_K.moved hW.alike hK, hD⟩, hS.F ht⟩) hS.2.2 dX4_agreeWith_82
          · obtain ⟨v215, ev215⟩ : ∃ y : Int32, y = y190 + Int32.ofInt 1 := ⟨_, rfl⟩
            refine lv_iinc (v := v215) (lv' := [(2, .int v215), (0, .ref a), (1, .ref rb)]) hx hb dX4_agreeWith_56 hl (k := 0) rfl ev215.symm (by decide) rfl (fun ls hl => ?_)
            refine lv_goto (tgt := 39) hx hb dX4_agreeWith_59 (by decide) ?_
            exact ih _ _ _ _ _ _ _ (by have kc := c193; rw [ex192] at kc; simp only [xk_le, xk_lt] at kc; have h9 := xinc (x := y190) (y := Ia189 a 2) (by rw [xk_lt]; omega); rw [ev215, show y190 + Int32.ofInt 1 = y190 + 1 from rfl, h9]; omega) (by have kc := c193; rw [ex192] at kc; simp only [xk_le, xk_lt] at kc; have h9 := xinc (x := y190) (y := Ia189 a 2) (by rw [xk_lt]; omega); rw [ev215, show y190 + Int32.ofInt 1 = y190 + 1 from rfl, h9]; omega) hC hR hP hD hS (lv_sub hl [0, 1, 2] rfl)
    exact hLP189 _ _ _ _ _ _ _ _ (Nat.lt_succ_self _) (xmax0 ez188 (by rw [ex185]; exact hC.2.2.2.2.2.2.2.1 a ha hk)) hC hR hP hD hS (lv_sub hl [0, 1, 2] rfl)
  · refine lv_aload_n hx hb dX4_agreeWith_11 rfl (lv_at hl 0 rfl) ?_
    refine lv_aload_n hx hb dX4_agreeWith_12 rfl (lv_at hl 1 rfl) ?_
    obtain ⟨j216, hj216⟩ := pG_4 (cy := cy) (N := N) (T := T) (I := I) (Q := Q) (J := J) hb4 hkb
    refine va_get (D := (dC, dI)) (ci := 4) (v := .int (I rb 1)) (C := RX4) (T := TX4) (N := 7) hx hb hts hi4 hown hK hP j216 hj216 rfl 1 (by decide) (hts (.fieldLink RX4 17 "TallyLogs$Replica" "start" "I") (by decide +kernel)) (fun _ h9 => h9) rfl dX4_agreeWith_13 ?_
    refine lv_topi (fun x217 ex217 => ?_)
    obtain ⟨j218, hj218⟩ := pG_4 (cy := cy) (N := N) (T := T) (I := I) (Q := Q) (J := J) ha hk
    have hDo := hD
    refine va_put (D := (dC, dI)) (ci := 4) (v := .int x217) (ty := .int) (C := RX4) (T := TX4) (N := 7) hx hb hts hi4 tyX4 tyX4_ok nmX4 hown hK hP hD hS j218 hj218 rfl 1 (by decide) (hts (.fieldLink RX4 17 "TallyLogs$Replica" "start" "I") (by decide +kernel)) (fun _ h9 => h9) rfl (by decide +kernel) rfl rfl (Nat.le_of_ble_eq_true rfl) dX4_agreeWith_16 (fun H locs hP hD hS => ?_)
    have hP := Eq.mp (congrArg (fun w => va_P (dC, dI) vwCl w H) (pP_4_1 (x := x217) hDo ha hk hj218)) hP
    obtain ⟨I219, eI219⟩ : ∃ z, z = p2 I a 1 x217 := ⟨_, rfl⟩
    rw [← eI219] at hP
    have hR : RS v I Q J I219 Q J := by rw [eI219]; exact hR.pi hC (by rw [hk]; decide)
    have hC : CT v L K N T I219 Q := by rw [eI219]; exact hC.ps (by rw [ex217]; exact hC.2.2.2.2.2.2.2.1 rb hb4 hkb)
    have hD : va_D A (va_pl L (pF cy K N T I219 Q J)) := pD hDo
    refine lv_aload_n hx hb dX4_agreeWith_19 rfl (lv_at hl 0 rfl) ?_
    refine lv_aload_n hx hb dX4_agreeWith_20 rfl (lv_at hl 1 rfl) ?_
    obtain ⟨j220, hj220⟩ := pG_4 (cy := cy) (N := N) (T := T) (I := I219) (Q := Q) (J := J) hb4 hkb
    refine va_get (D := (dC, dI)) (ci := 4) (v := .int (I219 rb 1)) (C := RX4) (T := TX4) (N := 7) hx hb hts hi4 hown hK hP j220 hj220 rfl 1 (by decide) (hts (.fieldLink RX4 17 "TallyLogs$Replica" "start" "I") (by decide +kernel)) (fun _ h9 => h9) rfl dX4_agreeWith_21 ?_
    refine lv_topi (fun x221 ex221 => ?_)
    obtain ⟨j222, hj222⟩ := pG_4 (cy := cy) (N := N) (T := T) (I := I219) (Q := Q) (J := J) ha hk
    have hDo := hD
    refine va_put (D := (dC, dI)) (ci := 4) (v := .int x221) (ty := .int) (C := RX4) (T := TX4) (N := 7) hx hb hts hi4 tyX4 tyX4_ok nmX4 hown hK hP hD hS j222 hj222 rfl 2 (by decide) (hts (.fieldLink RX4 21 "TallyLogs$Replica" "end" "I") (by decide +kernel)) (fun _ h9 => h9) rfl (by decide +kernel) rfl rfl (Nat.le_of_ble_eq_true rfl) dX4_agreeWith_24 (fun H locs hP hD hS => ?_)
    have hP := Eq.mp (congrArg (fun w => va_P (dC, dI) vwCl w H) (pP_4_2 (x := x221) hDo ha hk hj222)) hP
    obtain ⟨I223, eI223⟩ : ∃ z, z = p2 I219 a 2 x221 := ⟨_, rfl⟩
    rw [← eI223] at hP
    have hR : RS v I Q J I223 Q J := by rw [eI223]; exact hR.pi hC (by rw [hk]; decide)
    have hC : CT v L K N T I223 Q := by rw [eI223]; exact hC.pi (by rw [hk]; decide)
    have hD : va_D A (va_pl L (pF cy K N T I223 Q J)) := pD hDo
    refine lv_aload_n hx hb dX4_agreeWith_27 rfl (lv_at hl 0 rfl) ?_
    obtain ⟨j224, hj224⟩ := pG_4 (cy := cy) (N := N) (T := T) (I := I223) (Q := Q) (J := J) ha hk
    refine va_get (D := (dC, dI)) (ci := 4) (v := .int (I223 a 1)) (C := RX4) (T := TX4) (N := 7) hx hb hts hi4 hown hK hP j224 hj224 rfl 1 (by decide) (hts (.fieldLink RX4 17 "TallyLogs$Replica" "start" "I") (by decide +kernel)) (fun _ h9 => h9) rfl dX4_agreeWith_28 ?_
    refine lv_topi (fun x225 ex225 => ?_)
    refine lv_aload_n hx hb dX4_agreeWith_31 rfl (lv_at hl 1 rfl) ?_
    obtain ⟨j226, hj226⟩ := pG_4 (cy := cy) (N := N) (T := T) (I := I223) (Q := Q) (J := J) hb4 hkb
    refine va_get (D := (dC, dI)) (ci := 4) (v := .int (I223 rb 1)) (C := RX4) (T := TX4) (N := 7) hx hb hts hi4 hown hK hP j226 hj226 rfl 1 (by decide) (hts (.fieldLink RX4 17 "TallyLogs$Replica" "start" "I") (by decide +kernel)) (fun _ h9 => h9) rfl dX4_agreeWith_32 ?_
    refine lv_topi (fun x227 ex227 => ?_)
    refine va_mmax hx hb (by rw [hml]; exact hl.1.symm) hown (hts (.methodLink RX4 46 Lib.Math.max.name) (by decide +kernel)) (hts (.static Lib.Math.max.name) (by decide +kernel)) (hts (.initialized "java/lang/Math") (by decide +kernel)) (hts _ (List.mem_of_getElem? (i := 6) rfl)) (Nat.le_of_ble_eq_true rfl) (Nat.le_of_ble_eq_true rfl) (Nat.le_of_ble_eq_true rfl) (Nat.le_of_ble_eq_true rfl) dX4_agreeWith_35 ?_
    refine lv_topi (fun z228 ez228 => ?_)
    refine lv_istore_n (lv' := [(2, .int z228), (0, .ref a), (1, .ref rb)]) hx hb dX4_agreeWith_38 rfl hl (by decide) rfl (fun ls hl => ?_)
    refine wq_gen (fun Qz hQz => ?_)
    have hLP229 : ∀ (n : Nat) (y230 : Int32) (Ia229 : Nat → Nat → Int32) (Qa229 : Nat → Nat → Option Nat) (Ja229 : Nat → Nat → Int32) (H : Heap) (locs : List Loc) (ls : Array Slot), ((Ia229 a 2).toInt - y230.toInt).toNat < n → 0 ≤ y230.toInt → CT v L K N T Ia229 Qa229 → RS v I Q J Ia229 Qa229 Ja229 → va_P (dC, dI) vwCl (va_pl L (pF cy K N T Ia229 Qa229 Ja229)) H → va_D A (va_pl L (pF cy K N T Ia229 Qa229 Ja229)) → va_S A s.heap H locs → lv_has ls 3 [(2, .int y230), (0, .ref a), (1, .ref rb)] → W p l e (headSpec wsX4_agreeWith ({ frames := 3, cells := 0, slots := 0, locals := 67 })).room s m ([.ref a, .ref rb] : List Value).toArray below meth c H locs 0 0 Qz (F0 m 39 ls []) := by
      intro n
      induction n with
      | zero => intro y230 Ia229 Qa229 Ja229 H locs ls hms; exact absurd hms (Nat.not_lt_zero _)
      | succ n ih =>
        intro y230 Ia229 Qa229 Ja229 H locs ls hms hnn229 hC hR hP hD hS hl
        refine lv_iload_n hx hb dX4_agreeWith_39 rfl (lv_at hl 0 rfl) ?_
        refine lv_aload_n hx hb dX4_agreeWith_40 rfl (lv_at hl 1 rfl) ?_
        obtain ⟨j231, hj231⟩ := pG_4 (cy := cy) (N := N) (T := T) (I := Ia229) (Q := Qa229) (J := Ja229) ha hk
        refine va_get (D := (dC, dI)) (ci := 4) (v := .int (Ia229 a 2)) (C := RX4) (T := TX4) (N := 7) hx hb hts hi4 hown hK hP j231 hj231 rfl 2 (by decide) (hts (.fieldLink RX4 21 "TallyLogs$Replica" "end" "I") (by decide +kernel)) (fun _ h9 => h9) rfl dX4_agreeWith_41 ?_
        refine lv_topi (fun x232 ex232 => ?_)
        refine lv_icmp_ge (tgt := 62) hx hb dX4_agreeWith_44 (by decide) (fun c233 => ?_) (fun c233 => ?_)
        · refine lv_aload_n hx hb dX4_agreeWith_62 rfl (lv_at hl 1 rfl) ?_
          refine lv_iload_n hx hb dX4_agreeWith_63 rfl (lv_at hl 0 rfl) ?_
          obtain ⟨j234, hj234⟩ := pG_4 (cy := cy) (N := N) (T := T) (I := Ia229) (Q := Qa229) (J := Ja229) ha hk
          have hDo := hD
          refine va_put (D := (dC, dI)) (ci := 4) (v := .int y230) (ty := .int) (C := RX4) (T := TX4) (N := 7) hx hb hts hi4 tyX4 tyX4_ok nmX4 hown hK hP hD hS j234 hj234 rfl 2 (by decide) (hts (.fieldLink RX4 21 "TallyLogs$Replica" "end" "I") (by decide +kernel)) (fun _ h9 => h9) rfl (by decide +kernel) rfl rfl (Nat.le_of_ble_eq_true rfl) dX4_agreeWith_64 (fun H locs hP hD hS => ?_)
          have hP := Eq.mp (congrArg (fun w => va_P (dC, dI) vwCl w H) (pP_4_2 (x := y230) hDo ha hk hj234)) hP
          obtain ⟨I235, eI235⟩ : ∃ z, z = p2 Ia229 a 2 y230 := ⟨_, rfl⟩
          rw [← eI235] at hP
          have hR : RS v I Q J I235 Qa229 Ja229 := by rw [eI235]; exact hR.pi hC (by rw [hk]; decide)
          have hC : CT v L K N T I235 Qa229 := by rw [eI235]; exact hC.pi (by rw [hk]; decide)
          have hD : va_D A (va_pl L (pF cy K N T I235 Qa229 Ja229)) := pD hDo
          refine lv_aload_n hx hb dX4_agreeWith_67 rfl (lv_at hl 1 rfl) ?_
          refine lv_aload_n hx hb dX4_agreeWith_68 rfl (lv_at hl 1 rfl) ?_
          obtain ⟨j236, hj236⟩ := pG_4 (cy := cy) (N := N) (T := T) (I := I235) (Q := Qa229) (J := Ja229) ha hk
          refine va_get (D := (dC, dI)) (ci := 4) (v := .int (I235 a 4)) (C := RX4) (T := TX4) (N := 7) hx hb hts hi4 hown hK hP j236 hj236 rfl 4 (by decide) (hts (.fieldLink RX4 27 "TallyLogs$Replica" "flushed" "I") (by decide +kernel)) (fun _ h9 => h9) rfl dX4_agreeWith_69 ?_
          refine lv_topi (fun x237 ex237 => ?_)
          refine lv_aload_n hx hb dX4_agreeWith_72 rfl (lv_at hl 1 rfl) ?_
          obtain ⟨j238, hj238⟩ := pG_4 (cy := cy) (N := N) (T := T) (I := I235) (Q := Qa229) (J := Ja229) ha hk
          refine va_get (D := (dC, dI)) (ci := 4) (v := .int (I235 a 2)) (C := RX4) (T := TX4) (N := 7) hx hb hts hi4 hown hK hP j238 hj238 rfl 2 (by decide) (hts (.fieldLink RX4 21 "TallyLogs$Replica" "end" "I") (by decide +kernel)) (fun _ h9 => h9) rfl dX4_agreeWith_73 ?_
          refine lv_topi (fun x239 ex239 => ?_)
          refine va_mmin hx hb (by rw [hml]; exact hl.1.symm) hown (hts (.methodLink RX4 49 Lib.Math.min.name) (by decide +kernel)) (hts (.static Lib.Math.min.name) (by decide +kernel)) (hts (.initialized "java/lang/Math") (by decide +kernel)) (hts _ (List.mem_of_getElem? (i := 10) rfl)) (Nat.le_of_ble_eq_true rfl) (Nat.le_of_ble_eq_true rfl) (Nat.le_of_ble_eq_true rfl) (Nat.le_of_ble_eq_true rfl) dX4_agreeWith_76 ?_
          refine lv_topi (fun z240 ez240 => ?_)
          obtain ⟨j241, hj241⟩ := pG_4 (cy := cy) (N := N) (T := T) (I := I235) (Q := Qa229) (J := Ja229) ha hk
          have hDo := hD
          refine va_put (D := (dC, dI)) (ci := 4) (v := .int z240) (ty := .int) (C := RX4) (T := TX4) (N := 7) hx hb hts hi4 tyX4 tyX4_ok nmX4 hown hK hP hD hS j241 hj241 rfl 4 (by decide) (hts (.fieldLink RX4 27 "TallyLogs$Replica" "flushed" "I") (by decide +kernel)) (fun _ h9 => h9) rfl (by decide +kernel) rfl rfl (Nat.le_of_ble_eq_true rfl) dX4_agreeWith_79 (fun H locs hP hD hS => ?_)
          have hP := Eq.mp (congrArg (fun w => va_P (dC, dI) vwCl w H) (pP_4_4 (x := z240) hDo ha hk hj241)) hP
          obtain ⟨I242, eI242⟩ : ∃ z, z = p2 I235 a 4 z240 := ⟨_, rfl⟩
          rw [← eI242] at hP
          have hR : RS v I Q J I242 Qa229 Ja229 := by rw [eI242]; exact hR.pi hC (by rw [hk]; decide)
          have hC : CT v L K N T I242 Qa229 := by rw [eI242]; exact hC.pi (by rw [hk]; decide)
          have hD : va_D A (va_pl L (pF cy K N T I242 Qa229 Ja229)) := pD hDo
          rw [hQz]
          exact W.vret hx hb hr (fun t ht hW => ⟨⟨(I242, Qa229, Ja229), rfl, ⟨hC, hR⟩, by rw [ht]; exact hP, va_K.moved hW.alike hK, hD⟩, hS.F ht⟩) hS.2.2 dX4_agreeWith_82
        · refine lv_aload_n hx hb dX4_agreeWith_47 rfl (lv_at hl 1 rfl) ?_
          refine lv_iload_n hx hb dX4_agreeWith_48 rfl (lv_at hl 0 rfl) ?_
          refine lv_aload_n hx hb dX4_agreeWith_49 rfl (lv_at hl 2 rfl) ?_
          obtain ⟨j244, hj244⟩ := pG_4 (cy := cy) (N := N) (T := T) (I := Ia229) (Q := Qa229) (J := Ja229) ha hk
          refine vp_callSi (W.runV (As := [.int y230, .ref rb]) (rest := []) ⟨hx, hb, hml, hown, hts⟩ (c_X4_hasSameEpoch l dC dI cy v L K N T Ia229 Qa229 Ja229 a y230 rb hC ha hk hb4 hkb) (cwV 2 hts gX4_agreeWith_X4_hasSameEpoch rfl rfl rfl (by decide +kernel) ⟨Nat.le_of_ble_eq_true rfl, Nat.le_of_ble_eq_true rfl⟩) ⟨pb_blind, va_recv hK hP (ci := 4) (q0 := j244) rfl hj244, fun U hU hW => ⟨rfl, pb_pre hP hK hN hU hW⟩⟩ rfl rfl hl.1 rfl (lv_room (Nat.le_of_ble_eq_true rfl)) dX4_agreeWith_50 ⟨Nat.le_of_ble_eq_true rfl, Nat.le_of_ble_eq_true rfl⟩) (fun r243 hr243 => ?_)
          refine lv_if_eq (tgt := 62) hx hb dX4_agreeWith_53 (by decide) (fun c245 => ?_) (fun c245 => ?_)
          · refine lv_aload_n hx hb dX4_agreeWith_62 rfl (lv_at hl 1 rfl) ?_
            refine lv_iload_n hx hb dX4_agreeWith_63 rfl (lv_at hl 0 rfl) ?_
            obtain ⟨j246, hj246⟩ := pG_4 (cy := cy) (N := N) (T := T) (I := Ia229) (Q := Qa229) (J := Ja229) ha hk
            have hDo := hD
            refine va_put (D := (dC, dI)) (ci := 4) (v := .int y230) (ty := .int) (C := RX4) (T := TX4) (N := 7) hx hb hts hi4 tyX4 tyX4_ok nmX4 hown hK hP hD hS j246 hj246 rfl 2 (by decide) (hts (.fieldLink RX4 21 "TallyLogs$Replica" "end" "I") (by decide +kernel)) (fun _ h9 => h9) rfl (by decide +kernel) rfl rfl (Nat.le_of_ble_eq_true rfl) dX4_agreeWith_64 (fun H locs hP hD hS => ?_)
            have hP := Eq.mp (congrArg (fun w => va_P (dC, dI) vwCl w H) (pP_4_2 (x := y230) hDo ha hk hj246)) hP
            obtain ⟨I247, eI247⟩ : ∃ z, z = p2 Ia229 a 2 y230 := ⟨_, rfl⟩
            rw [← eI247] at hP
            have hR : RS v I Q J I247 Qa229 Ja229 := by rw [eI247]; exact hR.pi hC (by rw [hk]; decide)
            have hC : CT v L K N T I247 Qa229 := by rw [eI247]; exact hC.pi (by rw [hk]; decide)
            have hD : va_D A (va_pl L (pF cy K N T I247 Qa229 Ja229)) := pD hDo
            refine lv_aload_n hx hb dX4_agreeWith_67 rfl (lv_at hl 1 rfl) ?_
            refine lv_aload_n hx hb dX4_agreeWith_68 rfl (lv_at hl 1 rfl) ?_
            obtain ⟨j248, hj248⟩ := pG_4 (cy := cy) (N := N) (T := T) (I := I247) (Q := Qa229) (J := Ja229) ha hk
            refine va_get (D := (dC, dI)) (ci := 4) (v := .int (I247 a 4)) (C := RX4) (T := TX4) (N := 7) hx hb hts hi4 hown hK hP j248 hj248 rfl 4 (by decide) (hts (.fieldLink RX4 27 "TallyLogs$Replica" "flushed" "I") (by decide +kernel)) (fun _ h9 => h9) rfl dX4_agreeWith_69 ?_
            refine lv_topi (fun x249 ex249 => ?_)
            refine lv_aload_n hx hb dX4_agreeWith_72 rfl (lv_at hl 1 rfl) ?_
            obtain ⟨j250, hj250⟩ := pG_4 (cy := cy) (N := N) (T := T) (I := I247) (Q := Qa229) (J := Ja229) ha hk
            refine va_get (D := (dC, dI)) (ci := 4) (v := .int (I247 a 2)) (C := RX4) (T := TX4) (N := 7) hx hb hts hi4 hown hK hP j250 hj250 rfl 2 (by decide) (hts (.fieldLink RX4 21 "TallyLogs$Replica" "end" "I") (by decide +kernel)) (fun _ h9 => h9) rfl dX4_agreeWith_73 ?_
            refine lv_topi (fun x251 ex251 => ?_)
            refine va_mmin hx hb (by rw [hml]; exact hl.1.symm) hown (hts (.methodLink RX4 49 Lib.Math.min.name) (by decide +kernel)) (hts (.static Lib.Math.min.name) (by decide +kernel)) (hts (.initialized "java/lang/Math") (by decide +kernel)) (hts _ (List.mem_of_getElem? (i := 10) rfl)) (Nat.le_of_ble_eq_true rfl) (Nat.le_of_ble_eq_true rfl) (Nat.le_of_ble_eq_true rfl) (Nat.le_of_ble_eq_true rfl) dX4_agreeWith_76 ?_
            refine lv_topi (fun z252 ez252 => ?_)
            obtain ⟨j253, hj253⟩ := pG_4 (cy := cy) (N := N) (T := T) (I := I247) (Q := Qa229) (J := Ja229) ha hk
            have hDo := hD
            refine va_put (D := (dC, dI)) (ci := 4) (v := .int z252) (ty := .int) (C := RX4) (T := TX4) (N := 7) hx hb hts hi4 tyX4 tyX4_ok nmX4 hown hK hP hD hS j253 hj253 rfl 4 (by decide) (hts (.fieldLink RX4 27 "TallyLogs$Replica" "flushed" "I") (by decide +kernel)) (fun _ h9 => h9) rfl (by decide +kernel) rfl rfl (Nat.le_of_ble_eq_true rfl) dX4_agreeWith_79 (fun H locs hP hD hS => ?_)
            have hP := Eq.mp (congrArg (fun w => va_P (dC, dI) vwCl w H) (pP_4_4 (x := z252) hDo ha hk hj253)) hP
            obtain ⟨I254, eI254⟩ : ∃ z, z = p2 I247 a 4 z252 := ⟨_, rfl⟩
            rw [← eI254] at hP
            have hR : RS v I Q J I254 Qa229 Ja229 := by rw [eI254]; exact hR.pi hC (by rw [hk]; decide)
            have hC : CT v L K N T I254 Qa229 := by rw [eI254]; exact hC.pi (by rw [hk]; decide)
            have hD : va_D A (va_pl L (pF cy K N T I254 Qa229 Ja229)) := pD hDo
            rw [hQz]
            exact W.vret hx hb hr (fun t ht hW => ⟨⟨(I254, Qa229, Ja229), rfl, ⟨hC, hR⟩, by rw [ht]; exact hP, va_K.moved hW.alike hK, hD⟩, hS.F ht⟩) hS.2.2 dX4_agreeWith_82
          · obtain ⟨v255, ev255⟩ : ∃ y : Int32, y = y230 + Int32.ofInt 1 := ⟨_, rfl⟩
            refine lv_iinc (v := v255) (lv' := [(2, .int v255), (0, .ref a), (1, .ref rb)]) hx hb dX4_agreeWith_56 hl (k := 0) rfl ev255.symm (by decide) rfl (fun ls hl => ?_)
            refine lv_goto (tgt := 39) hx hb dX4_agreeWith_59 (by decide) ?_
            exact ih _ _ _ _ _ _ _ (by have kc := c233; rw [ex232] at kc; simp only [xk_le, xk_lt] at kc; have h9 := xinc (x := y230) (y := Ia229 a 2) (by rw [xk_lt]; omega); rw [ev255, show y230 + Int32.ofInt 1 = y230 + 1 from rfl, h9]; omega) (by have kc := c233; rw [ex232] at kc; simp only [xk_le, xk_lt] at kc; have h9 := xinc (x := y230) (y := Ia229 a 2) (by rw [xk_lt]; omega); rw [ev255, show y230 + Int32.ofInt 1 = y230 + 1 from rfl, h9]; omega) hC hR hP hD hS (lv_sub hl [0, 1, 2] rfl)
    exact hLP229 _ _ _ _ _ _ _ _ (Nat.lt_succ_self _) (xmax0 ez228 (by rw [ex225]; exact hC.2.2.2.2.2.2.2.1 a ha hk)) hC hR hP hD hS (lv_sub hl [0, 1, 2] rfl)
set_option maxHeartbeats 4000000 in
set_option maxRecDepth 100000 in
/-- Replica.fetchFrom -/
theorem c_X4_fetchFrom (l : Launch) (dC : Nat → ClassId) (dI : Nat → Nat → Nat) (cy : Nat → ClassId) (v : Nat → Nat) (L : List Nat) (K N : Nat → Nat) (T : Nat → Nat → Nat) (I : Nat → Nat → Int32) (Q : Nat → Nat → Option Nat) (J : Nat → Nat → Int32) (sz : Nat) (a : Nat) (rb : Nat) (hC : CT v L K N T I Q) (ha : a ∈ L) (hk : K a = 4) (hb4 : rb ∈ L) (hkb : K rb = 4) : Met l yX4_fetchFrom wsX4_fetchFrom ({ frames := 2, cells := 0, slots := 0, locals := 43 }) (va_Pc [.ref a, .ref rb] (pW dC dI cy L (pF cy K N T I Q J) sz)) (va_Qi (fun (r : Int32) (d : (Nat → Nat → Int32) × (Nat → Nat → Option Nat) × (Nat → Nat → Int32)) => (CT v L K N T d.1 d.2.1 ∧ RS v I Q J d.1 d.2.1 d.2.2) ∧ True) (fun (d : (Nat → Nat → Int32) × (Nat → Nat → Option Nat) × (Nat → Nat → Int32)) t => va_P (dC, dI) vwCl (va_pl L (pF cy K N T d.1 d.2.1 d.2.2)) t.heap ∧ va_K (dC, dI) vwCl (pTy cy) t ∧ va_D (va_A (va_pl L (pF cy K N T I Q J)) sz) (va_pl L (pF cy K N T d.1 d.2.1 d.2.2))) (va_A (va_pl L (pF cy K N T I Q J)) sz)) 0 0 (va_A (va_pl L (pF cy K N T I Q J)) sz) := by
  refine Met.ofW (cc := cX4_fetchFrom) (maxL := 3) (ret := (some .int)) (by decide) rfl ?_
  intro p e s m args below meth c s₁ B hml hv
  obtain ⟨rfl, hsz, ⟨hP, hK, hN⟩, hD0⟩ := hv
  have hx := B.exec
  have hb := B.bytes
  have hr := B.returns
  have hts := atoms_spec (ws := wsX4_fetchFrom) B.pre
  have hown : s.vm.findClass RX4 = some m.cls := findClass_of_methodNamed B.named
  have hlocks := B.notSynchronized
  have hi4 : ∀ w ∈ wsX40, w ∈ wsX4_fetchFrom := by decide +kernel
  have hl := lv_entry ([.ref a, .ref rb]) (n := 3) (Nat.le_of_ble_eq_true rfl)
  rw [lg_entry_eq]
  generalize (lg_sl ([.ref a, .ref rb]) ++ List.replicate (3 - (lg_sl ([.ref a, .ref rb])).length) Slot.unset).toArray = ls at hl ⊢
  have hl : lv_has ls 3 [(0, .ref a), (1, .ref rb)] := hl
  subst hsz
  have hD := hD0.self (sz := s.heap.size)
  generalize hAe : va_A (va_pl L (pF cy K N T I Q J)) s.heap.size = A at hD ⊢
  have hA : ∀ q : Nat, s.heap.size ≤ q → A q := fun q h => by rw [← hAe]; exact Or.inr h
  have hS : va_S A s.heap s.heap [] := va_S.rf
  have hR : RS v I Q J I Q J := RS.rf
  have hn28 := hN.1
  have hn30 := hN.2.1
  have hn37 := hN.2.2.1
  refine lv_aload_n hx hb dX4_fetchFrom_0 rfl (lv_at hl 0 rfl) ?_
  refine lv_aload_n hx hb dX4_fetchFrom_1 rfl (lv_at hl 1 rfl) ?_
  obtain ⟨j256, hj256⟩ := pG_4 (cy := cy) (N := N) (T := T) (I := I) (Q := Q) (J := J) hb4 hkb
  refine va_get (D := (dC, dI)) (ci := 4) (v := .int (I rb 1)) (C := RX4) (T := TX4) (N := 7) hx hb hts hi4 hown hK hP j256 hj256 rfl 1 (by decide) (hts (.fieldLink RX4 17 "TallyLogs$Replica" "start" "I") (by decide +kernel)) (fun _ h9 => h9) rfl dX4_fetchFrom_2 ?_
  refine lv_topi (fun x257 ex257 => ?_)
  obtain ⟨j258, hj258⟩ := pG_4 (cy := cy) (N := N) (T := T) (I := I) (Q := Q) (J := J) ha hk
  have hFc := pfree hD hS hA
  refine va_callv (va_runV (As := [.int x257]) (rest := []) ⟨hx, hb, hml, hown, hts⟩ (c_X4_dropBefore l dC dI cy v L K N T I Q J s.heap.size a x257 hC ha hk) (cwV 1 hts gX4_fetchFrom_X4_dropBefore rfl rfl rfl (by decide +kernel) ⟨Nat.le_of_ble_eq_true rfl, Nat.le_of_ble_eq_true rfl⟩) ⟨pw_blind, va_recv hK hP (ci := 4) (q0 := j258) rfl hj258, fun U hU hW => ⟨rfl, pw_pre hP hK hN hD hU hW⟩⟩ rfl rfl hl.1 rfl (lv_room (Nat.le_of_ble_eq_true rfl)) dX4_fetchFrom_5 ⟨Nat.le_of_ble_eq_true rfl, Nat.le_of_ble_eq_true rfl⟩) hS (fun q _ h => hFc q h) hFc (fun d9 t H1 locs ht hvm hw hB hz1 hk1 hS => ?_)
  obtain ⟨I259, Q259, J259⟩ := d9
  obtain ⟨hC, hR1⟩ := hw
  obtain ⟨hP, hK1, hD1⟩ := hB
  rw [ht] at hP
  have hD := hD1.weaken (fun _ _ _ h => hFc _ h)
  have hR := hR.trans hR1
  generalize H1 = H at hP hS ⊢
  have hP : va_P (dC, dI) vwCl (va_pl L (pF cy K N T I259 Q259 J259)) H := hP
  have hD : va_D A (va_pl L (pF cy K N T I259 Q259 J259)) := hD
  have hC : CT v L K N T I259 Q259 := hC
  have hR : RS v I Q J I259 Q259 J259 := hR
  refine lv_iconst (v := 0) hx hb dX4_fetchFrom_8 (by decide) ?_
  refine lv_istore_n (lv' := [(2, .int 0), (0, .ref a), (1, .ref rb)]) hx hb dX4_fetchFrom_9 rfl hl (by decide) rfl (fun ls hl => ?_)
  refine wq_gen (fun Qz hQz => ?_)
  have hLP261 : ∀ (n : Nat) (y262 : Int32) (Ia261 : Nat → Nat → Int32) (Qa261 : Nat → Nat → Option Nat) (Ja261 : Nat → Nat → Int32) (H : Heap) (locs : List Loc) (ls : Array Slot), (((5 : Int32)).toInt - y262.toInt).toNat < n → 0 ≤ y262.toInt → CT v L K N T Ia261 Qa261 → RS v I Q J Ia261 Qa261 Ja261 → va_P (dC, dI) vwCl (va_pl L (pF cy K N T Ia261 Qa261 Ja261)) H → va_D A (va_pl L (pF cy K N T Ia261 Qa261 Ja261)) → va_S A s.heap H locs → lv_has ls 3 [(2, .int y262), (0, .ref a), (1, .ref rb)] → W p l e (headSpec wsX4_fetchFrom ({ frames := 2, cells := 0, slots := 0, locals := 43 })).room s m ([.ref a, .ref rb] : List Value).toArray below meth c H locs 0 0 Qz (F0 m 10 ls []) := by
    intro n
    induction n with
    | zero => intro y262 Ia261 Qa261 Ja261 H locs ls hms; exact absurd hms (Nat.not_lt_zero _)
    | succ n ih =>
      intro y262 Ia261 Qa261 Ja261 H locs ls hms hnn261 hC hR hP hD hS hl
      refine lv_iload_n hx hb dX4_fetchFrom_10 rfl (lv_at hl 0 rfl) ?_
      refine lv_iconst (v := 5) hx hb dX4_fetchFrom_11 (by decide) ?_
      refine lv_icmp_ge (tgt := 44) hx hb dX4_fetchFrom_12 (by decide) (fun c263 => ?_) (fun c263 => ?_)
      · refine lv_aload_n hx hb dX4_fetchFrom_44 rfl (lv_at hl 1 rfl) ?_
        refine lv_aload_n hx hb dX4_fetchFrom_45 rfl (lv_at hl 2 rfl) ?_
        obtain ⟨j264, hj264⟩ := pG_4 (cy := cy) (N := N) (T := T) (I := Ia261) (Q := Qa261) (J := Ja261) hb4 hkb
        refine va_get (D := (dC, dI)) (ci := 4) (v := .int (Ia261 rb 3)) (C := RX4) (T := TX4) (N := 7) hx hb hts hi4 hown hK hP j264 hj264 rfl 3 (by decide) (hts (.fieldLink RX4 24 "TallyLogs$Replica" "hw" "I") (by decide +kernel)) (fun _ h9 => h9) rfl dX4_fetchFrom_46 ?_
        refine lv_topi (fun x265 ex265 => ?_)
        refine lv_aload_n hx hb dX4_fetchFrom_49 rfl (lv_at hl 1 rfl) ?_
        obtain ⟨j266, hj266⟩ := pG_4 (cy := cy) (N := N) (T := T) (I := Ia261) (Q := Qa261) (J := Ja261) ha hk
        refine va_get (D := (dC, dI)) (ci := 4) (v := .int (Ia261 a 2)) (C := RX4) (T := TX4) (N := 7) hx hb hts hi4 hown hK hP j266 hj266 rfl 2 (by decide) (hts (.fieldLink RX4 21 "TallyLogs$Replica" "end" "I") (by decide +kernel)) (fun _ h9 => h9) rfl dX4_fetchFrom_50 ?_
        refine lv_topi (fun x267 ex267 => ?_)
        refine va_mmin hx hb (by rw [hml]; exact hl.1.symm) hown (hts (.methodLink RX4 49 Lib.Math.min.name) (by decide +kernel)) (hts (.static Lib.Math.min.name) (by decide +kernel)) (hts (.initialized "java/lang/Math") (by decide +kernel)) (hts _ (List.mem_of_getElem? (i := 7) rfl)) (Nat.le_of_ble_eq_true rfl) (Nat.le_of_ble_eq_true rfl) (Nat.le_of_ble_eq_true rfl) (Nat.le_of_ble_eq_true rfl) dX4_fetchFrom_53 ?_
        refine lv_topi (fun z268 ez268 => ?_)
        obtain ⟨j269, hj269⟩ := pG_4 (cy := cy) (N := N) (T := T) (I := Ia261) (Q := Qa261) (J := Ja261) ha hk
        have hDo := hD
        refine va_put (D := (dC, dI)) (ci := 4) (v := .int z268) (ty := .int) (C := RX4) (T := TX4) (N := 7) hx hb hts hi4 tyX4 tyX4_ok nmX4 hown hK hP hD hS j269 hj269 rfl 3 (by decide) (hts (.fieldLink RX4 24 "TallyLogs$Replica" "hw" "I") (by decide +kernel)) (fun _ h9 => h9) rfl (by decide +kernel) rfl rfl (Nat.le_of_ble_eq_true rfl) dX4_fetchFrom_56 (fun H locs hP hD hS => ?_)
        have hP := Eq.mp (congrArg (fun w => va_P (dC, dI) vwCl w H) (pP_4_3 (x := z268) hDo ha hk hj269)) hP
        obtain ⟨I270, eI270⟩ : ∃ z, z = p2 Ia261 a 3 z268 := ⟨_, rfl⟩
        rw [← eI270] at hP
        have hR : RS v I Q J I270 Qa261 Ja261 := by rw [eI270]; exact hR.pi hC (by rw [hk]; decide)
        have hC : CT v L K N T I270 Qa261 := by rw [eI270]; exact hC.pi (by rw [hk]; decide)
        have hD : va_D A (va_pl L (pF cy K N T I270 Qa261 Ja261)) := pD hDo
        refine lv_iload_n hx hb dX4_fetchFrom_59 rfl (lv_at hl 0 rfl) ?_
        rw [hQz]
        exact W.iret (v := y262) hx hb hr (fun t ht hW => ⟨⟨y262, (I270, Qa261, Ja261), rfl, ⟨⟨hC, hR⟩, trivial⟩, by rw [ht]; exact hP, va_K.moved hW.alike hK, hD⟩, hS.F ht⟩) hS.2.2 dX4_fetchFrom_60
      · refine lv_aload_n hx hb dX4_fetchFrom_15 rfl (lv_at hl 1 rfl) ?_
        obtain ⟨j271, hj271⟩ := pG_4 (cy := cy) (N := N) (T := T) (I := Ia261) (Q := Qa261) (J := Ja261) ha hk
        refine va_get (D := (dC, dI)) (ci := 4) (v := .int (Ia261 a 2)) (C := RX4) (T := TX4) (N := 7) hx hb hts hi4 hown hK hP j271 hj271 rfl 2 (by decide) (hts (.fieldLink RX4 21 "TallyLogs$Replica" "end" "I") (by decide +kernel)) (fun _ h9 => h9) rfl dX4_fetchFrom_16 ?_
        refine lv_topi (fun x272 ex272 => ?_)
        refine lv_aload_n hx hb dX4_fetchFrom_19 rfl (lv_at hl 2 rfl) ?_
        obtain ⟨j273, hj273⟩ := pG_4 (cy := cy) (N := N) (T := T) (I := Ia261) (Q := Qa261) (J := Ja261) hb4 hkb
        refine va_get (D := (dC, dI)) (ci := 4) (v := .int (Ia261 rb 2)) (C := RX4) (T := TX4) (N := 7) hx hb hts hi4 hown hK hP j273 hj273 rfl 2 (by decide) (hts (.fieldLink RX4 21 "TallyLogs$Replica" "end" "I") (by decide +kernel)) (fun _ h9 => h9) rfl dX4_fetchFrom_20 ?_
        refine lv_topi (fun x274 ex274 => ?_)
        refine lv_icmp_ge (tgt := 44) hx hb dX4_fetchFrom_23 (by decide) (fun c275 => ?_) (fun c275 => ?_)
        · refine lv_aload_n hx hb dX4_fetchFrom_44 rfl (lv_at hl 1 rfl) ?_
          refine lv_aload_n hx hb dX4_fetchFrom_45 rfl (lv_at hl 2 rfl) ?_
          obtain ⟨j276, hj276⟩ := pG_4 (cy := cy) (N := N) (T := T) (I := Ia261) (Q := Qa261) (J := Ja261) hb4 hkb
          refine va_get (D := (dC, dI)) (ci := 4) (v := .int (Ia261 rb 3)) (C := RX4) (T := TX4) (N := 7) hx hb hts hi4 hown hK hP j276 hj276 rfl 3 (by decide) (hts (.fieldLink RX4 24 "TallyLogs$Replica" "hw" "I") (by decide +kernel)) (fun _ h9 => h9) rfl dX4_fetchFrom_46 ?_
          refine lv_topi (fun x277 ex277 => ?_)
          refine lv_aload_n hx hb dX4_fetchFrom_49 rfl (lv_at hl 1 rfl) ?_
          obtain ⟨j278, hj278⟩ := pG_4 (cy := cy) (N := N) (T := T) (I := Ia261) (Q := Qa261) (J := Ja261) ha hk
          refine va_get (D := (dC, dI)) (ci := 4) (v := .int (Ia261 a 2)) (C := RX4) (T := TX4) (N := 7) hx hb hts hi4 hown hK hP j278 hj278 rfl 2 (by decide) (hts (.fieldLink RX4 21 "TallyLogs$Replica" "end" "I") (by decide +kernel)) (fun _ h9 => h9) rfl dX4_fetchFrom_50 ?_
          refine lv_topi (fun x279 ex279 => ?_)
          refine va_mmin hx hb (by rw [hml]; exact hl.1.symm) hown (hts (.methodLink RX4 49 Lib.Math.min.name) (by decide +kernel)) (hts (.static Lib.Math.min.name) (by decide +kernel)) (hts (.initialized "java/lang/Math") (by decide +kernel)) (hts _ (List.mem_of_getElem? (i := 7) rfl)) (Nat.le_of_ble_eq_true rfl) (Nat.le_of_ble_eq_true rfl) (Nat.le_of_ble_eq_true rfl) (Nat.le_of_ble_eq_true rfl) dX4_fetchFrom_53 ?_
          refine lv_topi (fun z280 ez280 => ?_)
          obtain ⟨j281, hj281⟩ := pG_4 (cy := cy) (N := N) (T := T) (I := Ia261) (Q := Qa261) (J := Ja261) ha hk
          have hDo := hD
          refine va_put (D := (dC, dI)) (ci := 4) (v := .int z280) (ty := .int) (C := RX4) (T := TX4) (N := 7) hx hb hts hi4 tyX4 tyX4_ok nmX4 hown hK hP hD hS j281 hj281 rfl 3 (by decide) (hts (.fieldLink RX4 24 "TallyLogs$Replica" "hw" "I") (by decide +kernel)) (fun _ h9 => h9) rfl (by decide +kernel) rfl rfl (Nat.le_of_ble_eq_true rfl) dX4_fetchFrom_56 (fun H locs hP hD hS => ?_)
          have hP := Eq.mp (congrArg (fun w => va_P (dC, dI) vwCl w H) (pP_4_3 (x := z280) hDo ha hk hj281)) hP
          obtain ⟨I282, eI282⟩ : ∃ z, z = p2 Ia261 a 3 z280 := ⟨_, rfl⟩
          rw [← eI282] at hP
          have hR : RS v I Q J I282 Qa261 Ja261 := by rw [eI282]; exact hR.pi hC (by rw [hk]; decide)
          have hC : CT v L K N T I282 Qa261 := by rw [eI282]; exact hC.pi (by rw [hk]; decide)
          have hD : va_D A (va_pl L (pF cy K N T I282 Qa261 Ja261)) := pD hDo
          refine lv_iload_n hx hb dX4_fetchFrom_59 rfl (lv_at hl 0 rfl) ?_
          rw [hQz]
          exact W.iret (v := y262) hx hb hr (fun t ht hW => ⟨⟨y262, (I282, Qa261, Ja261), rfl, ⟨⟨hC, hR⟩, trivial⟩, by rw [ht]; exact hP, va_K.moved hW.alike hK, hD⟩, hS.F ht⟩) hS.2.2 dX4_fetchFrom_60
        · refine lv_aload_n hx hb dX4_fetchFrom_26 rfl (lv_at hl 1 rfl) ?_
          refine lv_aload_n hx hb dX4_fetchFrom_27 rfl (lv_at hl 2 rfl) ?_
          refine lv_aload_n hx hb dX4_fetchFrom_28 rfl (lv_at hl 1 rfl) ?_
          obtain ⟨j283, hj283⟩ := pG_4 (cy := cy) (N := N) (T := T) (I := Ia261) (Q := Qa261) (J := Ja261) ha hk
          refine va_get (D := (dC, dI)) (ci := 4) (v := .int (Ia261 a 2)) (C := RX4) (T := TX4) (N := 7) hx hb hts hi4 hown hK hP j283 hj283 rfl 2 (by decide) (hts (.fieldLink RX4 21 "TallyLogs$Replica" "end" "I") (by decide +kernel)) (fun _ h9 => h9) rfl dX4_fetchFrom_29 ?_
          refine lv_topi (fun x284 ex284 => ?_)
          obtain ⟨j286, hj286⟩ := pG_4 (cy := cy) (N := N) (T := T) (I := Ia261) (Q := Qa261) (J := Ja261) hb4 hkb
          refine va_csq (W.runV (As := [.int x284]) (rest := [.ref a]) ⟨hx, hb, hml, hown, hts⟩ (c_X4_entryAt l dC dI cy v L K N T Ia261 Qa261 Ja261 rb x284 hC hb4 hkb) (cwV 1 hts gX4_fetchFrom_X4_entryAt rfl rfl rfl (by decide +kernel) ⟨Nat.le_of_ble_eq_true rfl, Nat.le_of_ble_eq_true rfl⟩) ⟨pb_blind, va_recv hK hP (ci := 4) (q0 := j286) rfl hj286, fun U hU hW => ⟨rfl, pb_pre hP hK hN hU hW⟩⟩ rfl rfl hl.1 rfl (lv_room (Nat.le_of_ble_eq_true rfl)) dX4_fetchFrom_32 ⟨Nat.le_of_ble_eq_true rfl, Nat.le_of_ble_eq_true rfl⟩) (fun r285 hr285 => ?_)
          cases r285 with
          | none =>
            refine W.eq (g2 := F0 m 35 ls [.null, .ref a]) rfl ?_
            obtain ⟨j288, hj288⟩ := pG_4 (cy := cy) (N := N) (T := T) (I := Ia261) (Q := Qa261) (J := Ja261) ha hk
            have hFc := pfree hD hS hA
            refine va_callv (va_runV (As := [.null]) (rest := []) ⟨hx, hb, hml, hown, hts⟩ (c_X4_append0 l dC dI cy v L K N T Ia261 Qa261 Ja261 H.size a hC ha hk) (cwV 1 hts gX4_fetchFrom_X4_append rfl rfl rfl (by decide +kernel) ⟨Nat.le_of_ble_eq_true rfl, Nat.le_of_ble_eq_true rfl⟩) ⟨pw_blind, va_recv hK hP (ci := 4) (q0 := j288) rfl hj288, fun U hU hW => ⟨rfl, pw_pre hP hK hN hD hU hW⟩⟩ rfl rfl hl.1 rfl (lv_room (Nat.le_of_ble_eq_true rfl)) dX4_fetchFrom_35 ⟨Nat.le_of_ble_eq_true rfl, Nat.le_of_ble_eq_true rfl⟩) hS (fun q _ h => hFc q h) hFc (fun d9 t H1 locs ht hvm hw hB hz1 hk1 hS => ?_)
            obtain ⟨I289, Q289, J289⟩ := d9
            obtain ⟨hC, hR1⟩ := hw
            obtain ⟨hP, hK1, hD1⟩ := hB
            rw [ht] at hP
            have hD := hD1.weaken (fun _ _ _ h => hFc _ h)
            have hR := hR.trans hR1
            generalize H1 = H at hP hS ⊢
            have hP : va_P (dC, dI) vwCl (va_pl L (pF cy K N T I289 Q289 J289)) H := hP
            have hD : va_D A (va_pl L (pF cy K N T I289 Q289 J289)) := hD
            have hC : CT v L K N T I289 Q289 := hC
            have hR : RS v I Q J I289 Q289 J289 := hR
            obtain ⟨v290, ev290⟩ : ∃ y : Int32, y = y262 + Int32.ofInt 1 := ⟨_, rfl⟩
            refine lv_iinc (v := v290) (lv' := [(2, .int v290), (0, .ref a), (1, .ref rb)]) hx hb dX4_fetchFrom_38 hl (k := 0) rfl ev290.symm (by decide) rfl (fun ls hl => ?_)
            refine lv_goto (tgt := 10) hx hb dX4_fetchFrom_41 (by decide) ?_
            exact ih _ _ _ _ _ _ _ (by have kc := c263; simp only [xk_le, xk_lt] at kc; have h9 := xinc (x := y262) (y := (5 : Int32)) (by rw [xk_lt]; omega); rw [ev290, show y262 + Int32.ofInt 1 = y262 + 1 from rfl, h9]; omega) (by have kc := c263; simp only [xk_le, xk_lt] at kc; have h9 := xinc (x := y262) (y := (5 : Int32)) (by rw [xk_lt]; omega); rw [ev290, show y262 + Int32.ofInt 1 = y262 + 1 from rfl, h9]; omega) hC hR hP hD hS (lv_sub hl [0, 1, 2] rfl)
          | some b287 =>
            have hTb287 := hr285 b287 rfl
            refine W.eq (g2 := F0 m 35 ls [.ref b287, .ref a]) rfl ?_
            obtain ⟨j291, hj291⟩ := pG_4 (cy := cy) (N := N) (T := T) (I := Ia261) (Q := Qa261) (J := Ja261) ha hk
            have hFc := pfree hD hS hA
            refine va_callv (va_runV (As := [.ref b287]) (rest := []) ⟨hx, hb, hml, hown, hts⟩ (c_X4_append l dC dI cy v L K N T Ia261 Qa261 Ja261 H.size a b287 hC ha hk hTb287.1 hTb287.2) (cwV 1 hts gX4_fetchFrom_X4_append rfl rfl rfl (by decide +kernel) ⟨Nat.le_of_ble_eq_true rfl, Nat.le_of_ble_eq_true rfl⟩) ⟨pw_blind, va_recv hK hP (ci := 4) (q0 := j291) rfl hj291, fun U hU hW => ⟨rfl, pw_pre hP hK hN hD hU hW⟩⟩ rfl rfl hl.1 rfl (lv_room (Nat.le_of_ble_eq_true rfl)) dX4_fetchFrom_35 ⟨Nat.le_of_ble_eq_true rfl, Nat.le_of_ble_eq_true rfl⟩) hS (fun q _ h => hFc q h) hFc (fun d9 t H1 locs ht hvm hw hB hz1 hk1 hS => ?_)
            obtain ⟨I292, Q292, J292⟩ := d9
            obtain ⟨hC, hR1⟩ := hw
            obtain ⟨hP, hK1, hD1⟩ := hB
            rw [ht] at hP
            have hD := hD1.weaken (fun _ _ _ h => hFc _ h)
            have hR := hR.trans hR1
            generalize H1 = H at hP hS ⊢
            have hP : va_P (dC, dI) vwCl (va_pl L (pF cy K N T I292 Q292 J292)) H := hP
            have hD : va_D A (va_pl L (pF cy K N T I292 Q292 J292)) := hD
            have hC : CT v L K N T I292 Q292 := hC
            have hR : RS v I Q J I292 Q292 J292 := hR
            obtain ⟨v294, ev294⟩ : ∃ y : Int32, y = y262 + Int32.ofInt 1 := ⟨_, rfl⟩
            refine lv_iinc (v := v294) (lv' := [(2, .int v294), (0, .ref a), (1, .ref rb)]) hx hb dX4_fetchFrom_38 hl (k := 0) rfl ev294.symm (by decide) rfl (fun ls hl => ?_)
            refine lv_goto (tgt := 10) hx hb dX4_fetchFrom_41 (by decide) ?_
            exact ih _ _ _ _ _ _ _ (by have kc := c263; simp only [xk_le, xk_lt] at kc; have h9 := xinc (x := y262) (y := (5 : Int32)) (by rw [xk_lt]; omega); rw [ev294, show y262 + Int32.ofInt 1 = y262 + 1 from rfl, h9]; omega) (by have kc := c263; simp only [xk_le, xk_lt] at kc; have h9 := xinc (x := y262) (y := (5 : Int32)) (by rw [xk_lt]; omega); rw [ev294, show y262 + Int32.ofInt 1 = y262 + 1 from rfl, h9]; omega) hC hR hP hD hS (lv_sub hl [0, 1, 2] rfl)
  exact hLP261 _ _ _ _ _ _ _ _ (Nat.lt_succ_self _) (by decide) hC hR hP hD hS (lv_sub hl [0, 1, 2] rfl)
