set_option maxHeartbeats 4000000 in
set_option maxRecDepth 100000 in
/-- Partition.putLeader -/
theorem c_X2_putLeader (l : Launch) (dC : Nat → ClassId) (dI : Nat → Nat → Nat) (cy : Nat → ClassId) (v : Nat → Nat) (L : List Nat) (K N : Nat → Nat) (T : Nat → Nat → Nat) (I : Nat → Nat → Int32) (Q : Nat → Nat → Option Nat) (J : Nat → Nat → Int32) (sz : Nat) (a : Nat) (nx : Int32) (nw : Int32) (hC : CT v L K N T I Q) (ha : a ∈ L) (hk : K a = 2) : Met l yX2_putLeader wsX2_putLeader ({ frames := 3, cells := 0, slots := 0, locals := 66 }) (va_Pc [.ref a, .int nx, .int nw] (pW dC dI cy L (pF cy K N T I Q J) sz)) (va_Qv (fun d : (Nat → Nat → Int32) × (Nat → Nat → Option Nat) × (Nat → Nat → Int32) => CT v L K N T d.1 d.2.1 ∧ RS v I Q J d.1 d.2.1 d.2.2) (fun (d : (Nat → Nat → Int32) × (Nat → Nat → Option Nat) × (Nat → Nat → Int32)) t => va_P (dC, dI) vwCl (va_pl L (pF cy K N T d.1 d.2.1 d.2.2)) t.heap ∧ va_K (dC, dI) vwCl (pTy cy) t ∧ va_D (va_A (va_pl L (pF cy K N T I Q J)) sz) (va_pl L (pF cy K N T d.1 d.2.1 d.2.2))) (va_A (va_pl L (pF cy K N T I Q J)) sz)) 0 0 (va_A (va_pl L (pF cy K N T I Q J)) sz) := by
  refine Met.ofW (cc := cX2_putLeader) (maxL := 5) (ret := none) (by decide) rfl ?_
  intro p e s m args below meth c s₁ B hml hv
  obtain ⟨rfl, hsz, ⟨hP, hK, hN⟩, hD0⟩ := hv
  have hx := B.exec
  have hb := B.bytes
  have hr := B.returns
  have hts := atoms_spec (ws := wsX2_putLeader) B.pre
  have hown : s.vm.findClass RX2 = some m.cls := findClass_of_methodNamed B.named
  have hlocks := B.notSynchronized
  have hi2 : ∀ w ∈ wsX20, w ∈ wsX2_putLeader := by decide +kernel
  have hi4 : ∀ w ∈ wsX40, w ∈ wsX2_putLeader := by decide +kernel
  have hl := lv_entry ([.ref a, .int nx, .int nw]) (n := 5) (Nat.le_of_ble_eq_true rfl)
  rw [lg_entry_eq]
  generalize (lg_sl ([.ref a, .int nx, .int nw]) ++ List.replicate (5 - (lg_sl ([.ref a, .int nx, .int nw])).length) Slot.unset).toArray = ls at hl ⊢
  have hl : lv_has ls 5 [(0, .ref a), (1, .int nx), (2, .int nw)] := hl
  subst hsz
  have hD := hD0.self (sz := s.heap.size)
  generalize hAe : va_A (va_pl L (pF cy K N T I Q J)) s.heap.size = A at hD ⊢
  have hA : ∀ q : Nat, s.heap.size ≤ q → A q := fun q h => by rw [← hAe]; exact Or.inr h
  have hS : va_S A s.heap s.heap [] := va_S.rf
  have hR : RS v I Q J I Q J := RS.rf
  have hn28 := hN.1
  have hn30 := hN.2.1
  have hn37 := hN.2.2.1
  refine lv_aload_n hx hb dX2_putLeader_0 rfl (lv_at hl 0 rfl) ?_
  refine lv_iload_n hx hb dX2_putLeader_1 rfl (lv_at hl 1 rfl) ?_
  obtain ⟨j341, hj341⟩ := pG_2 (cy := cy) (N := N) (T := T) (I := I) (Q := Q) (J := J) ha hk
  have hDo := hD
  refine va_put (D := (dC, dI)) (ci := 2) (v := .int nx) (ty := .int) (C := RX2) (T := TX2) (N := 6) hx hb hts hi2 tyX2 tyX2_ok nmX2 hown hK hP hD hS j341 hj341 rfl 3 (by decide) (hts (.fieldLink RX2 34 "TallyLogs$Partition" "leader" "I") (by decide +kernel)) (fun _ h9 => h9) rfl (by decide +kernel) rfl rfl (Nat.le_of_ble_eq_true rfl) dX2_putLeader_2 (fun H locs hP hD hS => ?_)
  have hP := Eq.mp (congrArg (fun w => va_P (dC, dI) vwCl w H) (pP_2_3 (x := nx) hDo ha hk hj341)) hP
  obtain ⟨I342, eI342⟩ : ∃ z, z = p2 I a 3 nx := ⟨_, rfl⟩
  rw [← eI342] at hP
  have hR : RS v I Q J I342 Q J := by rw [eI342]; exact hR.pi hC (by rw [hk]; decide)
  have hC : CT v L K N T I342 Q := by rw [eI342]; exact hC.pi (by rw [hk]; decide)
  have hD : va_D A (va_pl L (pF cy K N T I342 Q J)) := pD hDo
  refine lv_aload_n hx hb dX2_putLeader_5 rfl (lv_at hl 0 rfl) ?_
  refine lv_dup hx hb dX2_putLeader_6 rfl ?_
  obtain ⟨j343, hj343⟩ := pG_2 (cy := cy) (N := N) (T := T) (I := I342) (Q := Q) (J := J) ha hk
  refine va_get (D := (dC, dI)) (ci := 2) (v := .int (I342 a 4)) (C := RX2) (T := TX2) (N := 6) hx hb hts hi2 hown hK hP j343 hj343 rfl 4 (by decide) (hts (.fieldLink RX2 17 "TallyLogs$Partition" "epoch" "I") (by decide +kernel)) (fun _ h9 => h9) rfl dX2_putLeader_7 ?_
  refine lv_topi (fun x344 ex344 => ?_)
  refine lv_iconst (v := 1) hx hb dX2_putLeader_10 (by decide) ?_
  refine lv_iadd hx hb dX2_putLeader_11 ?_
  refine lv_topi (fun v345 ev345 => ?_)
  obtain ⟨j346, hj346⟩ := pG_2 (cy := cy) (N := N) (T := T) (I := I342) (Q := Q) (J := J) ha hk
  have hDo := hD
  refine va_put (D := (dC, dI)) (ci := 2) (v := .int v345) (ty := .int) (C := RX2) (T := TX2) (N := 6) hx hb hts hi2 tyX2 tyX2_ok nmX2 hown hK hP hD hS j346 hj346 rfl 4 (by decide) (hts (.fieldLink RX2 17 "TallyLogs$Partition" "epoch" "I") (by decide +kernel)) (fun _ h9 => h9) rfl (by decide +kernel) rfl rfl (Nat.le_of_ble_eq_true rfl) dX2_putLeader_12 (fun H locs hP hD hS => ?_)
  have hP := Eq.mp (congrArg (fun w => va_P (dC, dI) vwCl w H) (pP_2_4 (x := v345) hDo ha hk hj346)) hP
  obtain ⟨I347, eI347⟩ : ∃ z, z = p2 I342 a 4 v345 := ⟨_, rfl⟩
  rw [← eI347] at hP
  have hR : RS v I Q J I347 Q J := by rw [eI347]; exact hR.pi hC (by rw [hk]; decide)
  have hC : CT v L K N T I347 Q := by rw [eI347]; exact hC.pi (by rw [hk]; decide)
  have hD : va_D A (va_pl L (pF cy K N T I347 Q J)) := pD hDo
  refine lv_iconst (v := 0) hx hb dX2_putLeader_15 (by decide) ?_
  refine lv_istore_n (lv' := [(3, .int 0), (0, .ref a), (1, .int nx), (2, .int nw)]) hx hb dX2_putLeader_16 rfl hl (by decide) rfl (fun ls hl => ?_)
  refine wq_gen (fun Qz hQz => ?_)
  have hLP348 : ∀ (n : Nat) (y349 : Int32) (Ia348 : Nat → Nat → Int32) (Qa348 : Nat → Nat → Option Nat) (Ja348 : Nat → Nat → Int32) (H : Heap) (locs : List Loc) (ls : Array Slot), (((5 : Int32)).toInt - y349.toInt).toNat < n → 0 ≤ y349.toInt → CT v L K N T Ia348 Qa348 → RS v I Q J Ia348 Qa348 Ja348 → va_P (dC, dI) vwCl (va_pl L (pF cy K N T Ia348 Qa348 Ja348)) H → va_D A (va_pl L (pF cy K N T Ia348 Qa348 Ja348)) → va_S A s.heap H locs → lv_has ls 5 [(3, .int y349), (0, .ref a), (1, .int nx), (2, .int nw)] → W p l e (headSpec wsX2_putLeader ({ frames := 3, cells := 0, slots := 0, locals := 66 })).room s m ([.ref a, .int nx, .int nw] : List Value).toArray below meth c H locs 0 0 Qz (F0 m 17 ls []) := by
    intro n
    induction n with
    | zero => intro y349 Ia348 Qa348 Ja348 H locs ls hms; exact absurd hms (Nat.not_lt_zero _)
    | succ n ih =>
      intro y349 Ia348 Qa348 Ja348 H locs ls hms hnn348 hC hR hP hD hS hl
      refine lv_iload_n hx hb dX2_putLeader_17 rfl (lv_at hl 0 rfl) ?_
      refine lv_iconst (v := 5) hx hb dX2_putLeader_18 (by decide) ?_
      refine lv_icmp_ge (tgt := 61) hx hb dX2_putLeader_19 (by decide) (fun c350 => ?_) (fun c350 => ?_)
      · refine lv_aload_n hx hb dX2_putLeader_61 rfl (lv_at hl 1 rfl) ?_
        obtain ⟨j351, hj351⟩ := pG_2 (cy := cy) (N := N) (T := T) (I := Ia348) (Q := Qa348) (J := Ja348) ha hk
        have hFc := pfree hD hS hA
        refine va_callv (va_runV (As := []) (rest := []) ⟨hx, hb, hml, hown, hts⟩ (c_X2_raiseHw l dC dI cy v L K N T Ia348 Qa348 Ja348 H.size a  hC ha hk) (cwV 0 hts gX2_putLeader_X2_raiseHw rfl rfl rfl (by decide +kernel) ⟨Nat.le_of_ble_eq_true rfl, Nat.le_of_ble_eq_true rfl⟩) ⟨pw_blind, va_recv hK hP (ci := 2) (q0 := j351) rfl hj351, fun U hU hW => ⟨rfl, pw_pre hP hK hN hD hU hW⟩⟩ rfl rfl hl.1 rfl (lv_room (Nat.le_of_ble_eq_true rfl)) dX2_putLeader_62 ⟨Nat.le_of_ble_eq_true rfl, Nat.le_of_ble_eq_true rfl⟩) hS (fun q _ h => hFc q h) hFc (fun d9 t H1 locs ht hvm hw hB hz1 hk1 hS => ?_)
        obtain ⟨I352, Q352, J352⟩ := d9
        obtain ⟨hC, hR1⟩ := hw
        obtain ⟨hP, hK1, hD1⟩ := hB
        rw [ht] at hP
        have hD := hD1.weaken (fun _ _ _ h => hFc _ h)
        have hR := hR.trans hR1
        generalize H1 = H at hP hS ⊢
        have hP : va_P (dC, dI) vwCl (va_pl L (pF cy K N T I352 Q352 J352)) H := hP
        have hD : va_D A (va_pl L (pF cy K N T I352 Q352 J352)) := hD
        have hC : CT v L K N T I352 Q352 := hC
        have hR : RS v I Q J I352 Q352 J352 := hR
        rw [hQz]
        exact W.vret hx hb hr (fun t ht hW => ⟨⟨(I352, Q352, J352), rfl, ⟨hC, hR⟩, by rw [ht]; exact hP, va_K.moved hW.alike hK, hD⟩, hS.F ht⟩) hS.2.2 dX2_putLeader_65
      · refine lv_aload_n hx hb dX2_putLeader_22 rfl (lv_at hl 1 rfl) ?_
        obtain ⟨j354, hj354⟩ := pG_2 (cy := cy) (N := N) (T := T) (I := Ia348) (Q := Qa348) (J := Ja348) ha hk
        refine va_get (D := (dC, dI)) (ci := 2) (v := .ref (T a 2)) (C := RX2) (T := TX2) (N := 6) hx hb hts hi2 hown hK hP j354 hj354 rfl 2 (by decide) (hts (.fieldLink RX2 11 "TallyLogs$Partition" "replicas" "[LTallyLogs$Replica;") (by decide +kernel)) (fun _ h9 => h9) rfl dX2_putLeader_23 ?_
        obtain ⟨t355, et355⟩ : ∃ t, t = T a 2 := ⟨_, rfl⟩
        have hLt355 : t355 ∈ L := by rw [et355]; exact (hC.2.2.2.2.1 a ha hk).1
        have hkt355 : K t355 = 12 := by rw [et355]; exact (hC.2.2.2.2.1 a ha hk).2
        refine W.eq (g2 := F0 m 26 ls [.ref t355]) (by rw [et355]) ?_
        refine lv_iload_n hx hb dX2_putLeader_26 rfl (lv_at hl 0 rfl) ?_
        obtain ⟨j356, hj356⟩ := pG_12 (cy := cy) (N := N) (T := T) (I := Ia348) (Q := Qa348) (J := Ja348) hLt355 hkt355
        refine va_aldq hx hb hK hP j356 5 hj356 rfl (xin_of hnn348 (by have kc := c350; simp only [xk_lt, xk_le, xk_0, xk_1, xk_2, xk_3, xk_4, xk_5, xk_6, xk_7, xk_8, xk_50] at kc; omega)) dX2_putLeader_27 ?_
        cases hq358 : Qa348 t355 y349.toNatClampNeg with
        | none =>
          refine W.eq (g2 := F0 m 28 ls [.null]) rfl ?_
          refine lv_astoreN (lv' := [(4, .null), (3, .int y349), (0, .ref a), (1, .int nx), (2, .int nw)]) hx hb dX2_putLeader_28 hl (by decide) rfl (fun ls hl => ?_)
          refine lv_aloadN hx hb dX2_putLeader_30 (lv_at hl 0 rfl) ?_
          refine lv_ifnonnullN hx hb dX2_putLeader_32 ?_
          refine lv_goto (tgt := 55) hx hb dX2_putLeader_35 (by decide) ?_
          obtain ⟨v359, ev359⟩ : ∃ y : Int32, y = y349 + Int32.ofInt 1 := ⟨_, rfl⟩
          refine lv_iinc (v := v359) (lv' := [(3, .int v359), (4, .null), (0, .ref a), (1, .int nx), (2, .int nw)]) hx hb dX2_putLeader_55 hl (k := 1) rfl ev359.symm (by decide) rfl (fun ls hl => ?_)
          refine lv_goto (tgt := 17) hx hb dX2_putLeader_58 (by decide) ?_
          exact ih _ _ _ _ _ _ _ (by have kc := c350; simp only [xk_le, xk_lt] at kc; have h9 := xinc (x := y349) (y := (5 : Int32)) (by rw [xk_lt]; omega); rw [ev359, show y349 + Int32.ofInt 1 = y349 + 1 from rfl, h9]; omega) (by have kc := c350; simp only [xk_le, xk_lt] at kc; have h9 := xinc (x := y349) (y := (5 : Int32)) (by rw [xk_lt]; omega); rw [ev359, show y349 + Int32.ofInt 1 = y349 + 1 from rfl, h9]; omega) hC hR hP hD hS (lv_sub hl [0, 2, 3, 4] rfl)
        | some b357 =>
          have hTb357 := (hC.2.2.2.2.2.1 t355 hLt355 hkt355 y349.toNatClampNeg b357 (vp_lt (xin_of hnn348 (by have kc := c350; simp only [xk_lt, xk_le, xk_0, xk_1, xk_2, xk_3, xk_4, xk_5, xk_6, xk_7, xk_8, xk_50] at kc; omega))) hq358)
          refine W.eq (g2 := F0 m 28 ls [.ref b357]) rfl ?_
          refine lv_astore (lv' := [(4, .ref b357), (3, .int y349), (0, .ref a), (1, .int nx), (2, .int nw)]) hx hb dX2_putLeader_28 hl (by decide) rfl (fun ls hl => ?_)
          refine lv_aload hx hb dX2_putLeader_30 (lv_at hl 0 rfl) ?_
          refine lv_ifnonnull (tgt := 38) hx hb dX2_putLeader_32 (by decide) ?_
          refine lv_aload hx hb dX2_putLeader_38 (lv_at hl 0 rfl) ?_
          refine lv_iload_n hx hb dX2_putLeader_40 rfl (lv_at hl 4 rfl) ?_
          obtain ⟨j360, hj360⟩ := pG_4 (cy := cy) (N := N) (T := T) (I := Ia348) (Q := Qa348) (J := Ja348) hTb357.1 hTb357.2
          have hDo := hD
          refine va_put (D := (dC, dI)) (ci := 4) (v := .int nw) (ty := .int) (C := RX4) (T := TX4) (N := 7) hx hb hts hi4 tyX4 tyX4_ok nmX4 hown hK hP hD hS j360 hj360 rfl 6 (by decide) (hts (.fieldLink RX2 72 "TallyLogs$Replica" "caught" "I") (by decide +kernel)) (fun _ h9 => h9) rfl (by decide +kernel) rfl rfl (Nat.le_of_ble_eq_true rfl) dX2_putLeader_41 (fun H locs hP hD hS => ?_)
          have hP := Eq.mp (congrArg (fun w => va_P (dC, dI) vwCl w H) (pP_4_6 (x := nw) hDo hTb357.1 hTb357.2 hj360)) hP
          obtain ⟨I361, eI361⟩ : ∃ z, z = p2 Ia348 b357 6 nw := ⟨_, rfl⟩
          rw [← eI361] at hP
          have hR : RS v I Q J I361 Qa348 Ja348 := by rw [eI361]; exact hR.pi hC (by rw [hTb357.2]; decide)
          have hC : CT v L K N T I361 Qa348 := by rw [eI361]; exact hC.pi (by rw [hTb357.2]; decide)
          have hD : va_D A (va_pl L (pF cy K N T I361 Qa348 Ja348)) := pD hDo
          refine lv_iload_n hx hb dX2_putLeader_44 rfl (lv_at hl 1 rfl) ?_
          refine lv_iload_n hx hb dX2_putLeader_45 rfl (lv_at hl 3 rfl) ?_
          refine lv_icmp_eq (tgt := 55) hx hb dX2_putLeader_46 (by decide) (fun c362 => ?_) (fun c362 => ?_)
          · obtain ⟨v363, ev363⟩ : ∃ y : Int32, y = y349 + Int32.ofInt 1 := ⟨_, rfl⟩
            refine lv_iinc (v := v363) (lv' := [(3, .int v363), (4, .ref b357), (0, .ref a), (1, .int nx), (2, .int nw)]) hx hb dX2_putLeader_55 hl (k := 1) rfl ev363.symm (by decide) rfl (fun ls hl => ?_)
            refine lv_goto (tgt := 17) hx hb dX2_putLeader_58 (by decide) ?_
            exact ih _ _ _ _ _ _ _ (by have kc := c350; simp only [xk_le, xk_lt] at kc; have h9 := xinc (x := y349) (y := (5 : Int32)) (by rw [xk_lt]; omega); rw [ev363, show y349 + Int32.ofInt 1 = y349 + 1 from rfl, h9]; omega) (by have kc := c350; simp only [xk_le, xk_lt] at kc; have h9 := xinc (x := y349) (y := (5 : Int32)) (by rw [xk_lt]; omega); rw [ev363, show y349 + Int32.ofInt 1 = y349 + 1 from rfl, h9]; omega) hC hR hP hD hS (lv_sub hl [0, 2, 3, 4] rfl)
          · refine lv_aload hx hb dX2_putLeader_49 (lv_at hl 0 rfl) ?_
            refine lv_iconst (v := (-1)) hx hb dX2_putLeader_51 (by decide) ?_
            obtain ⟨j364, hj364⟩ := pG_4 (cy := cy) (N := N) (T := T) (I := I361) (Q := Qa348) (J := Ja348) hTb357.1 hTb357.2
            have hDo := hD
            refine va_put (D := (dC, dI)) (ci := 4) (v := .int (-1)) (ty := .int) (C := RX4) (T := TX4) (N := 7) hx hb hts hi4 tyX4 tyX4_ok nmX4 hown hK hP hD hS j364 hj364 rfl 5 (by decide) (hts (.fieldLink RX2 51 "TallyLogs$Replica" "known" "I") (by decide +kernel)) (fun _ h9 => h9) rfl (by decide +kernel) rfl rfl (Nat.le_of_ble_eq_true rfl) dX2_putLeader_52 (fun H locs hP hD hS => ?_)
            have hP := Eq.mp (congrArg (fun w => va_P (dC, dI) vwCl w H) (pP_4_5 (x := (-1)) hDo hTb357.1 hTb357.2 hj364)) hP
            obtain ⟨I365, eI365⟩ : ∃ z, z = p2 I361 b357 5 (-1) := ⟨_, rfl⟩
            rw [← eI365] at hP
            have hR : RS v I Q J I365 Qa348 Ja348 := by rw [eI365]; exact hR.pi hC (by rw [hTb357.2]; decide)
            have hC : CT v L K N T I365 Qa348 := by rw [eI365]; exact hC.pi (by rw [hTb357.2]; decide)
            have hD : va_D A (va_pl L (pF cy K N T I365 Qa348 Ja348)) := pD hDo
            obtain ⟨v366, ev366⟩ : ∃ y : Int32, y = y349 + Int32.ofInt 1 := ⟨_, rfl⟩
            refine lv_iinc (v := v366) (lv' := [(3, .int v366), (4, .ref b357), (0, .ref a), (1, .int nx), (2, .int nw)]) hx hb dX2_putLeader_55 hl (k := 1) rfl ev366.symm (by decide) rfl (fun ls hl => ?_)
            refine lv_goto (tgt := 17) hx hb dX2_putLeader_58 (by decide) ?_
            exact ih _ _ _ _ _ _ _ (by have kc := c350; simp only [xk_le, xk_lt] at kc; have h9 := xinc (x := y349) (y := (5 : Int32)) (by rw [xk_lt]; omega); rw [ev366, show y349 + Int32.ofInt 1 = y349 + 1 from rfl, h9]; omega) (by have kc := c350; simp only [xk_le, xk_lt] at kc; have h9 := xinc (x := y349) (y := (5 : Int32)) (by rw [xk_lt]; omega); rw [ev366, show y349 + Int32.ofInt 1 = y349 + 1 from rfl, h9]; omega) hC hR hP hD hS (lv_sub hl [0, 2, 3, 4] rfl)
  exact hLP348 _ _ _ _ _ _ _ _ (Nat.lt_succ_self _) (by decide) hC hR hP hD hS (lv_sub hl [0, 1, 2, 3] rfl)
set_option maxHeartbeats 4000000 in
set_option maxRecDepth 100000 in
/-- Partition.dropLate -/
theorem c_X2_dropLate (l : Launch) (dC : Nat → ClassId) (dI : Nat → Nat → Nat) (cy : Nat → ClassId) (v : Nat → Nat) (L : List Nat) (K N : Nat → Nat) (T : Nat → Nat → Nat) (I : Nat → Nat → Int32) (Q : Nat → Nat → Option Nat) (J : Nat → Nat → Int32) (sz : Nat) (a : Nat) (nw : Int32) (hC : CT v L K N T I Q) (ha : a ∈ L) (hk : K a = 2) : Met l yX2_dropLate wsX2_dropLate ({ frames := 3, cells := 0, slots := 0, locals := 66 }) (va_Pc [.ref a, .int nw] (pW dC dI cy L (pF cy K N T I Q J) sz)) (va_Qi (fun (r : Int32) (d : (Nat → Nat → Int32) × (Nat → Nat → Option Nat) × (Nat → Nat → Int32)) => (CT v L K N T d.1 d.2.1 ∧ RS v I Q J d.1 d.2.1 d.2.2) ∧ True) (fun (d : (Nat → Nat → Int32) × (Nat → Nat → Option Nat) × (Nat → Nat → Int32)) t => va_P (dC, dI) vwCl (va_pl L (pF cy K N T d.1 d.2.1 d.2.2)) t.heap ∧ va_K (dC, dI) vwCl (pTy cy) t ∧ va_D (va_A (va_pl L (pF cy K N T I Q J)) sz) (va_pl L (pF cy K N T d.1 d.2.1 d.2.2))) (va_A (va_pl L (pF cy K N T I Q J)) sz)) 0 0 (va_A (va_pl L (pF cy K N T I Q J)) sz) := by
  refine Met.ofW (cc := cX2_dropLate) (maxL := 5) (ret := (some .int)) (by decide) rfl ?_
  intro p e s m args below meth c s₁ B hml hv
  obtain ⟨rfl, hsz, ⟨hP, hK, hN⟩, hD0⟩ := hv
  have hx := B.exec
  have hb := B.bytes
  have hr := B.returns
  have hts := atoms_spec (ws := wsX2_dropLate) B.pre
  have hown : s.vm.findClass RX2 = some m.cls := findClass_of_methodNamed B.named
  have hlocks := B.notSynchronized
  have hi2 : ∀ w ∈ wsX20, w ∈ wsX2_dropLate := by decide +kernel
  have hi4 : ∀ w ∈ wsX40, w ∈ wsX2_dropLate := by decide +kernel
  have hl := lv_entry ([.ref a, .int nw]) (n := 5) (Nat.le_of_ble_eq_true rfl)
  rw [lg_entry_eq]
  generalize (lg_sl ([.ref a, .int nw]) ++ List.replicate (5 - (lg_sl ([.ref a, .int nw])).length) Slot.unset).toArray = ls at hl ⊢
  have hl : lv_has ls 5 [(0, .ref a), (1, .int nw)] := hl
  subst hsz
  have hD := hD0.self (sz := s.heap.size)
  generalize hAe : va_A (va_pl L (pF cy K N T I Q J)) s.heap.size = A at hD ⊢
  have hA : ∀ q : Nat, s.heap.size ≤ q → A q := fun q h => by rw [← hAe]; exact Or.inr h
  have hS : va_S A s.heap s.heap [] := va_S.rf
  have hR : RS v I Q J I Q J := RS.rf
  have hn28 := hN.1
  have hn30 := hN.2.1
  have hn37 := hN.2.2.1
  refine lv_aload_n hx hb dX2_dropLate_0 rfl (lv_at hl 0 rfl) ?_
  obtain ⟨j368, hj368⟩ := pG_2 (cy := cy) (N := N) (T := T) (I := I) (Q := Q) (J := J) ha hk
  refine va_csq (W.runV (As := []) (rest := []) ⟨hx, hb, hml, hown, hts⟩ (c_X2_leading l dC dI cy v L K N T I Q J a  hC ha hk) (cwV 0 hts gX2_dropLate_X2_leading rfl rfl rfl (by decide +kernel) ⟨Nat.le_of_ble_eq_true rfl, Nat.le_of_ble_eq_true rfl⟩) ⟨pb_blind, va_recv hK hP (ci := 2) (q0 := j368) rfl hj368, fun U hU hW => ⟨rfl, pb_pre hP hK hN hU hW⟩⟩ rfl rfl hl.1 rfl (lv_room (Nat.le_of_ble_eq_true rfl)) dX2_dropLate_1 ⟨Nat.le_of_ble_eq_true rfl, Nat.le_of_ble_eq_true rfl⟩) (fun r367 hr367 => ?_)
  cases r367 with
  | none =>
    refine W.eq (g2 := F0 m 4 ls [.null]) rfl ?_
    refine lv_ifnonnullN hx hb dX2_dropLate_4 ?_
    refine lv_iconst (v := 0) hx hb dX2_dropLate_7 (by decide) ?_
    exact W.iret (v := 0) hx hb hr (fun t ht hW => ⟨⟨0, (I, Q, J), rfl, ⟨⟨hC, hR⟩, trivial⟩, by rw [ht]; exact hP, va_K.moved hW.alike hK, hD⟩, hS.F ht⟩) hS.2.2 dX2_dropLate_8
  | some b369 =>
    have hTb369 := hr367 b369 rfl
    refine W.eq (g2 := F0 m 4 ls [.ref b369]) rfl ?_
    refine lv_ifnonnull (tgt := 9) hx hb dX2_dropLate_4 (by decide) ?_
    refine lv_iconst (v := 0) hx hb dX2_dropLate_9 (by decide) ?_
    refine lv_istore_n (lv' := [(2, .int 0), (0, .ref a), (1, .int nw)]) hx hb dX2_dropLate_10 rfl hl (by decide) rfl (fun ls hl => ?_)
    refine lv_iconst (v := 0) hx hb dX2_dropLate_11 (by decide) ?_
    refine lv_istore_n (lv' := [(3, .int 0), (2, .int 0), (0, .ref a), (1, .int nw)]) hx hb dX2_dropLate_12 rfl hl (by decide) rfl (fun ls hl => ?_)
    refine wq_gen (fun Qz hQz => ?_)
    have hLP370 : ∀ (n : Nat) (y371 y372 : Int32) (Ia370 : Nat → Nat → Int32) (Qa370 : Nat → Nat → Option Nat) (Ja370 : Nat → Nat → Int32) (H : Heap) (locs : List Loc) (ls : Array Slot), (((5 : Int32)).toInt - y371.toInt).toNat < n → 0 ≤ y371.toInt → CT v L K N T Ia370 Qa370 → RS v I Q J Ia370 Qa370 Ja370 → va_P (dC, dI) vwCl (va_pl L (pF cy K N T Ia370 Qa370 Ja370)) H → va_D A (va_pl L (pF cy K N T Ia370 Qa370 Ja370)) → va_S A s.heap H locs → lv_has ls 5 [(3, .int y371), (2, .int y372), (0, .ref a), (1, .int nw)] → W p l e (headSpec wsX2_dropLate ({ frames := 3, cells := 0, slots := 0, locals := 66 })).room s m ([.ref a, .int nw] : List Value).toArray below meth c H locs 0 0 Qz (F0 m 13 ls []) := by
      intro n
      induction n with
      | zero => intro y371 y372 Ia370 Qa370 Ja370 H locs ls hms; exact absurd hms (Nat.not_lt_zero _)
      | succ n ih =>
        intro y371 y372 Ia370 Qa370 Ja370 H locs ls hms hnn370 hC hR hP hD hS hl
        refine lv_iload_n hx hb dX2_dropLate_13 rfl (lv_at hl 0 rfl) ?_
        refine lv_iconst (v := 5) hx hb dX2_dropLate_14 (by decide) ?_
        refine lv_icmp_ge (tgt := 85) hx hb dX2_dropLate_15 (by decide) (fun c373 => ?_) (fun c373 => ?_)
        · refine lv_aload_n hx hb dX2_dropLate_85 rfl (lv_at hl 2 rfl) ?_
          obtain ⟨j374, hj374⟩ := pG_2 (cy := cy) (N := N) (T := T) (I := Ia370) (Q := Qa370) (J := Ja370) ha hk
          have hFc := pfree hD hS hA
          refine va_callv (va_runV (As := []) (rest := []) ⟨hx, hb, hml, hown, hts⟩ (c_X2_raiseHw l dC dI cy v L K N T Ia370 Qa370 Ja370 H.size a  hC ha hk) (cwV 0 hts gX2_dropLate_X2_raiseHw rfl rfl rfl (by decide +kernel) ⟨Nat.le_of_ble_eq_true rfl, Nat.le_of_ble_eq_true rfl⟩) ⟨pw_blind, va_recv hK hP (ci := 2) (q0 := j374) rfl hj374, fun U hU hW => ⟨rfl, pw_pre hP hK hN hD hU hW⟩⟩ rfl rfl hl.1 rfl (lv_room (Nat.le_of_ble_eq_true rfl)) dX2_dropLate_86 ⟨Nat.le_of_ble_eq_true rfl, Nat.le_of_ble_eq_true rfl⟩) hS (fun q _ h => hFc q h) hFc (fun d9 t H1 locs ht hvm hw hB hz1 hk1 hS => ?_)
          obtain ⟨I375, Q375, J375⟩ := d9
          obtain ⟨hC, hR1⟩ := hw
          obtain ⟨hP, hK1, hD1⟩ := hB
          rw [ht] at hP
          have hD := hD1.weaken (fun _ _ _ h => hFc _ h)
          have hR := hR.trans hR1
          generalize H1 = H at hP hS ⊢
          have hP : va_P (dC, dI) vwCl (va_pl L (pF cy K N T I375 Q375 J375)) H := hP
          have hD : va_D A (va_pl L (pF cy K N T I375 Q375 J375)) := hD
          have hC : CT v L K N T I375 Q375 := hC
          have hR : RS v I Q J I375 Q375 J375 := hR
          refine lv_iload_n hx hb dX2_dropLate_89 rfl (lv_at hl 1 rfl) ?_
          rw [hQz]
          exact W.iret (v := y372) hx hb hr (fun t ht hW => ⟨⟨y372, (I375, Q375, J375), rfl, ⟨⟨hC, hR⟩, trivial⟩, by rw [ht]; exact hP, va_K.moved hW.alike hK, hD⟩, hS.F ht⟩) hS.2.2 dX2_dropLate_90
        · refine lv_aload_n hx hb dX2_dropLate_18 rfl (lv_at hl 2 rfl) ?_
          obtain ⟨j377, hj377⟩ := pG_2 (cy := cy) (N := N) (T := T) (I := Ia370) (Q := Qa370) (J := Ja370) ha hk
          refine va_get (D := (dC, dI)) (ci := 2) (v := .ref (T a 2)) (C := RX2) (T := TX2) (N := 6) hx hb hts hi2 hown hK hP j377 hj377 rfl 2 (by decide) (hts (.fieldLink RX2 11 "TallyLogs$Partition" "replicas" "[LTallyLogs$Replica;") (by decide +kernel)) (fun _ h9 => h9) rfl dX2_dropLate_19 ?_
          obtain ⟨t378, et378⟩ : ∃ t, t = T a 2 := ⟨_, rfl⟩
          have hLt378 : t378 ∈ L := by rw [et378]; exact (hC.2.2.2.2.1 a ha hk).1
          have hkt378 : K t378 = 12 := by rw [et378]; exact (hC.2.2.2.2.1 a ha hk).2
          refine W.eq (g2 := F0 m 22 ls [.ref t378]) (by rw [et378]) ?_
          refine lv_iload_n hx hb dX2_dropLate_22 rfl (lv_at hl 0 rfl) ?_
          obtain ⟨j379, hj379⟩ := pG_12 (cy := cy) (N := N) (T := T) (I := Ia370) (Q := Qa370) (J := Ja370) hLt378 hkt378
          refine va_aldq hx hb hK hP j379 5 hj379 rfl (xin_of hnn370 (by have kc := c373; simp only [xk_lt, xk_le, xk_0, xk_1, xk_2, xk_3, xk_4, xk_5, xk_6, xk_7, xk_8, xk_50] at kc; omega)) dX2_dropLate_23 ?_
          cases hq381 : Qa370 t378 y371.toNatClampNeg with
          | none =>
            refine W.eq (g2 := F0 m 24 ls [.null]) rfl ?_
            refine lv_astoreN (lv' := [(4, .null), (3, .int y371), (2, .int y372), (0, .ref a), (1, .int nw)]) hx hb dX2_dropLate_24 hl (by decide) rfl (fun ls hl => ?_)
            refine lv_aloadN hx hb dX2_dropLate_26 (lv_at hl 0 rfl) ?_
            refine lv_ifnullN (tgt := 79) hx hb dX2_dropLate_28 (by decide) ?_
            obtain ⟨v382, ev382⟩ : ∃ y : Int32, y = y371 + Int32.ofInt 1 := ⟨_, rfl⟩
            refine lv_iinc (v := v382) (lv' := [(3, .int v382), (4, .null), (2, .int y372), (0, .ref a), (1, .int nw)]) hx hb dX2_dropLate_79 hl (k := 1) rfl ev382.symm (by decide) rfl (fun ls hl => ?_)
            refine lv_goto (tgt := 13) hx hb dX2_dropLate_82 (by decide) ?_
            exact ih _ _ _ _ _ _ _ _ (by have kc := c373; simp only [xk_le, xk_lt] at kc; have h9 := xinc (x := y371) (y := (5 : Int32)) (by rw [xk_lt]; omega); rw [ev382, show y371 + Int32.ofInt 1 = y371 + 1 from rfl, h9]; omega) (by have kc := c373; simp only [xk_le, xk_lt] at kc; have h9 := xinc (x := y371) (y := (5 : Int32)) (by rw [xk_lt]; omega); rw [ev382, show y371 + Int32.ofInt 1 = y371 + 1 from rfl, h9]; omega) hC hR hP hD hS (lv_sub hl [0, 2, 3, 4] rfl)
          | some b380 =>
            have hTb380 := (hC.2.2.2.2.2.1 t378 hLt378 hkt378 y371.toNatClampNeg b380 (vp_lt (xin_of hnn370 (by have kc := c373; simp only [xk_lt, xk_le, xk_0, xk_1, xk_2, xk_3, xk_4, xk_5, xk_6, xk_7, xk_8, xk_50] at kc; omega))) hq381)
            refine W.eq (g2 := F0 m 24 ls [.ref b380]) rfl ?_
            refine lv_astore (lv' := [(4, .ref b380), (3, .int y371), (2, .int y372), (0, .ref a), (1, .int nw)]) hx hb dX2_dropLate_24 hl (by decide) rfl (fun ls hl => ?_)
            refine lv_aload hx hb dX2_dropLate_26 (lv_at hl 0 rfl) ?_
            refine lv_ifnull hx hb dX2_dropLate_28 ?_
            refine lv_iload_n hx hb dX2_dropLate_31 rfl (lv_at hl 1 rfl) ?_
            refine lv_aload_n hx hb dX2_dropLate_32 rfl (lv_at hl 3 rfl) ?_
            obtain ⟨j383, hj383⟩ := pG_2 (cy := cy) (N := N) (T := T) (I := Ia370) (Q := Qa370) (J := Ja370) ha hk
            refine va_get (D := (dC, dI)) (ci := 2) (v := .int (Ia370 a 3)) (C := RX2) (T := TX2) (N := 6) hx hb hts hi2 hown hK hP j383 hj383 rfl 3 (by decide) (hts (.fieldLink RX2 34 "TallyLogs$Partition" "leader" "I") (by decide +kernel)) (fun _ h9 => h9) rfl dX2_dropLate_33 ?_
            refine lv_topi (fun x384 ex384 => ?_)
            refine lv_icmp_eq (tgt := 79) hx hb dX2_dropLate_36 (by decide) (fun c385 => ?_) (fun c385 => ?_)
            · obtain ⟨v386, ev386⟩ : ∃ y : Int32, y = y371 + Int32.ofInt 1 := ⟨_, rfl⟩
              refine lv_iinc (v := v386) (lv' := [(3, .int v386), (4, .ref b380), (2, .int y372), (0, .ref a), (1, .int nw)]) hx hb dX2_dropLate_79 hl (k := 1) rfl ev386.symm (by decide) rfl (fun ls hl => ?_)
              refine lv_goto (tgt := 13) hx hb dX2_dropLate_82 (by decide) ?_
              exact ih _ _ _ _ _ _ _ _ (by have kc := c373; simp only [xk_le, xk_lt] at kc; have h9 := xinc (x := y371) (y := (5 : Int32)) (by rw [xk_lt]; omega); rw [ev386, show y371 + Int32.ofInt 1 = y371 + 1 from rfl, h9]; omega) (by have kc := c373; simp only [xk_le, xk_lt] at kc; have h9 := xinc (x := y371) (y := (5 : Int32)) (by rw [xk_lt]; omega); rw [ev386, show y371 + Int32.ofInt 1 = y371 + 1 from rfl, h9]; omega) hC hR hP hD hS (lv_sub hl [0, 2, 3, 4] rfl)
            · refine lv_aload_n hx hb dX2_dropLate_39 rfl (lv_at hl 3 rfl) ?_
              obtain ⟨j387, hj387⟩ := pG_2 (cy := cy) (N := N) (T := T) (I := Ia370) (Q := Qa370) (J := Ja370) ha hk
              refine va_get (D := (dC, dI)) (ci := 2) (v := .int (Ia370 a 5)) (C := RX2) (T := TX2) (N := 6) hx hb hts hi2 hown hK hP j387 hj387 rfl 5 (by decide) (hts (.fieldLink RX2 27 "TallyLogs$Partition" "inStep" "I") (by decide +kernel)) (fun _ h9 => h9) rfl dX2_dropLate_40 ?_
              refine lv_topi (fun x388 ex388 => ?_)
              refine lv_iload_n hx hb dX2_dropLate_43 rfl (lv_at hl 1 rfl) ?_
              refine vp_callSi (va_Run.run (va_runSN (As := [.int x388, .int y371]) (rest := []) ⟨hx, hb, hml, hown, hts⟩ (c_X5_contains l x388 y371) ⟨va_cnB 2 hts gX2_dropLate_X5_contains_n37 rfl rfl rfl hn37 (hts (.initialized RX5) (by decide +kernel)) (by decide +kernel) ⟨Nat.le_of_ble_eq_true rfl, Nat.le_of_ble_eq_true rfl⟩, hts (.static yX5_contains) (by decide +kernel), trivial⟩ preEq rfl rfl hl.1 rfl (lv_room (Nat.le_of_ble_eq_true rfl)) dX2_dropLate_44 ⟨Nat.le_of_ble_eq_true rfl, Nat.le_of_ble_eq_true rfl⟩)) (fun r389 hr389 => ?_)
              refine lv_if_eq (tgt := 79) hx hb dX2_dropLate_47 (by decide) (fun c390 => ?_) (fun c390 => ?_)
              · obtain ⟨v391, ev391⟩ : ∃ y : Int32, y = y371 + Int32.ofInt 1 := ⟨_, rfl⟩
                refine lv_iinc (v := v391) (lv' := [(3, .int v391), (4, .ref b380), (2, .int y372), (0, .ref a), (1, .int nw)]) hx hb dX2_dropLate_79 hl (k := 1) rfl ev391.symm (by decide) rfl (fun ls hl => ?_)
                refine lv_goto (tgt := 13) hx hb dX2_dropLate_82 (by decide) ?_
                exact ih _ _ _ _ _ _ _ _ (by have kc := c373; simp only [xk_le, xk_lt] at kc; have h9 := xinc (x := y371) (y := (5 : Int32)) (by rw [xk_lt]; omega); rw [ev391, show y371 + Int32.ofInt 1 = y371 + 1 from rfl, h9]; omega) (by have kc := c373; simp only [xk_le, xk_lt] at kc; have h9 := xinc (x := y371) (y := (5 : Int32)) (by rw [xk_lt]; omega); rw [ev391, show y371 + Int32.ofInt 1 = y371 + 1 from rfl, h9]; omega) hC hR hP hD hS (lv_sub hl [0, 2, 3, 4] rfl)
              · refine lv_iload_n hx hb dX2_dropLate_50 rfl (lv_at hl 4 rfl) ?_
                refine lv_aload hx hb dX2_dropLate_51 (lv_at hl 0 rfl) ?_
                obtain ⟨j392, hj392⟩ := pG_4 (cy := cy) (N := N) (T := T) (I := Ia370) (Q := Qa370) (J := Ja370) hTb380.1 hTb380.2
                refine va_get (D := (dC, dI)) (ci := 4) (v := .int (Ia370 b380 6)) (C := RX4) (T := TX4) (N := 7) hx hb hts hi4 hown hK hP j392 hj392 rfl 6 (by decide) (hts (.fieldLink RX2 72 "TallyLogs$Replica" "caught" "I") (by decide +kernel)) (fun _ h9 => h9) rfl dX2_dropLate_53 ?_
                refine lv_topi (fun x393 ex393 => ?_)
                refine lv_isub hx hb dX2_dropLate_56 ?_
                refine lv_topi (fun v394 ev394 => ?_)
                refine lv_bipush (v := 10) hx hb dX2_dropLate_57 (by decide) ?_
                refine lv_icmp_le (tgt := 79) hx hb dX2_dropLate_59 (by decide) (fun c395 => ?_) (fun c395 => ?_)
                · obtain ⟨v396, ev396⟩ : ∃ y : Int32, y = y371 + Int32.ofInt 1 := ⟨_, rfl⟩
                  refine lv_iinc (v := v396) (lv' := [(3, .int v396), (4, .ref b380), (2, .int y372), (0, .ref a), (1, .int nw)]) hx hb dX2_dropLate_79 hl (k := 1) rfl ev396.symm (by decide) rfl (fun ls hl => ?_)
                  refine lv_goto (tgt := 13) hx hb dX2_dropLate_82 (by decide) ?_
                  exact ih _ _ _ _ _ _ _ _ (by have kc := c373; simp only [xk_le, xk_lt] at kc; have h9 := xinc (x := y371) (y := (5 : Int32)) (by rw [xk_lt]; omega); rw [ev396, show y371 + Int32.ofInt 1 = y371 + 1 from rfl, h9]; omega) (by have kc := c373; simp only [xk_le, xk_lt] at kc; have h9 := xinc (x := y371) (y := (5 : Int32)) (by rw [xk_lt]; omega); rw [ev396, show y371 + Int32.ofInt 1 = y371 + 1 from rfl, h9]; omega) hC hR hP hD hS (lv_sub hl [0, 2, 3, 4] rfl)
                · refine lv_aload_n hx hb dX2_dropLate_62 rfl (lv_at hl 3 rfl) ?_
                  refine lv_dup hx hb dX2_dropLate_63 rfl ?_
                  obtain ⟨j397, hj397⟩ := pG_2 (cy := cy) (N := N) (T := T) (I := Ia370) (Q := Qa370) (J := Ja370) ha hk
                  refine va_get (D := (dC, dI)) (ci := 2) (v := .int (Ia370 a 5)) (C := RX2) (T := TX2) (N := 6) hx hb hts hi2 hown hK hP j397 hj397 rfl 5 (by decide) (hts (.fieldLink RX2 27 "TallyLogs$Partition" "inStep" "I") (by decide +kernel)) (fun _ h9 => h9) rfl dX2_dropLate_64 ?_
                  refine lv_topi (fun x398 ex398 => ?_)
                  refine lv_iconst (v := 1) hx hb dX2_dropLate_67 (by decide) ?_
                  refine lv_iload_n hx hb dX2_dropLate_68 rfl (lv_at hl 1 rfl) ?_
                  refine lv_ishl hx hb dX2_dropLate_69 ?_
                  refine lv_topi (fun v399 ev399 => ?_)
                  refine lv_iconst (v := (-1)) hx hb dX2_dropLate_70 (by decide) ?_
                  refine lv_ixor hx hb dX2_dropLate_71 ?_
                  refine lv_topi (fun v400 ev400 => ?_)
                  refine lv_iand hx hb dX2_dropLate_72 ?_
                  refine lv_topi (fun v401 ev401 => ?_)
                  obtain ⟨j402, hj402⟩ := pG_2 (cy := cy) (N := N) (T := T) (I := Ia370) (Q := Qa370) (J := Ja370) ha hk
                  have hDo := hD
                  refine va_put (D := (dC, dI)) (ci := 2) (v := .int v401) (ty := .int) (C := RX2) (T := TX2) (N := 6) hx hb hts hi2 tyX2 tyX2_ok nmX2 hown hK hP hD hS j402 hj402 rfl 5 (by decide) (hts (.fieldLink RX2 27 "TallyLogs$Partition" "inStep" "I") (by decide +kernel)) (fun _ h9 => h9) rfl (by decide +kernel) rfl rfl (Nat.le_of_ble_eq_true rfl) dX2_dropLate_73 (fun H locs hP hD hS => ?_)
                  have hP := Eq.mp (congrArg (fun w => va_P (dC, dI) vwCl w H) (pP_2_5 (x := v401) hDo ha hk hj402)) hP
                  obtain ⟨I403, eI403⟩ : ∃ z, z = p2 Ia370 a 5 v401 := ⟨_, rfl⟩
                  rw [← eI403] at hP
                  have hR : RS v I Q J I403 Qa370 Ja370 := by rw [eI403]; exact hR.pi hC (by rw [hk]; decide)
                  have hC : CT v L K N T I403 Qa370 := by rw [eI403]; exact hC.pi (by rw [hk]; decide)
                  have hD : va_D A (va_pl L (pF cy K N T I403 Qa370 Ja370)) := pD hDo
                  obtain ⟨v404, ev404⟩ : ∃ y : Int32, y = y372 + Int32.ofInt 1 := ⟨_, rfl⟩
                  refine lv_iinc (v := v404) (lv' := [(2, .int v404), (4, .ref b380), (3, .int y371), (0, .ref a), (1, .int nw)]) hx hb dX2_dropLate_76 hl (k := 2) rfl ev404.symm (by decide) rfl (fun ls hl => ?_)
                  obtain ⟨v405, ev405⟩ : ∃ y : Int32, y = y371 + Int32.ofInt 1 := ⟨_, rfl⟩
                  refine lv_iinc (v := v405) (lv' := [(3, .int v405), (2, .int v404), (4, .ref b380), (0, .ref a), (1, .int nw)]) hx hb dX2_dropLate_79 hl (k := 2) rfl ev405.symm (by decide) rfl (fun ls hl => ?_)
                  refine lv_goto (tgt := 13) hx hb dX2_dropLate_82 (by decide) ?_
                  exact ih _ _ _ _ _ _ _ _ (by have kc := c373; simp only [xk_le, xk_lt] at kc; have h9 := xinc (x := y371) (y := (5 : Int32)) (by rw [xk_lt]; omega); rw [ev405, show y371 + Int32.ofInt 1 = y371 + 1 from rfl, h9]; omega) (by have kc := c373; simp only [xk_le, xk_lt] at kc; have h9 := xinc (x := y371) (y := (5 : Int32)) (by rw [xk_lt]; omega); rw [ev405, show y371 + Int32.ofInt 1 = y371 + 1 from rfl, h9]; omega) hC hR hP hD hS (lv_sub hl [0, 1, 3, 4] rfl)
    exact hLP370 _ _ _ _ _ _ _ _ _ (Nat.lt_succ_self _) (by decide) hC hR hP hD hS (lv_sub hl [0, 1, 2, 3] rfl)
set_option maxHeartbeats 4000000 in
set_option maxRecDepth 100000 in
/-- Partition.lose -/
theorem c_X2_lose (l : Launch) (dC : Nat → ClassId) (dI : Nat → Nat → Nat) (cy : Nat → ClassId) (v : Nat → Nat) (L : List Nat) (K N : Nat → Nat) (T : Nat → Nat → Nat) (I : Nat → Nat → Int32) (Q : Nat → Nat → Option Nat) (J : Nat → Nat → Int32) (sz : Nat) (a : Nat) (xn : Int32) (xk : Int32) (hC : CT v L K N T I Q) (ha : a ∈ L) (hk : K a = 2) : Met l yX2_lose wsX2_lose ({ frames := 3, cells := 0, slots := 0, locals := 66 }) (va_Pc [.ref a, .int xn, .int xk] (pW dC dI cy L (pF cy K N T I Q J) sz)) (va_Qv (fun d : (Nat → Nat → Int32) × (Nat → Nat → Option Nat) × (Nat → Nat → Int32) => CT v L K N T d.1 d.2.1 ∧ RS v I Q J d.1 d.2.1 d.2.2) (fun (d : (Nat → Nat → Int32) × (Nat → Nat → Option Nat) × (Nat → Nat → Int32)) t => va_P (dC, dI) vwCl (va_pl L (pF cy K N T d.1 d.2.1 d.2.2)) t.heap ∧ va_K (dC, dI) vwCl (pTy cy) t ∧ va_D (va_A (va_pl L (pF cy K N T I Q J)) sz) (va_pl L (pF cy K N T d.1 d.2.1 d.2.2))) (va_A (va_pl L (pF cy K N T I Q J)) sz)) 0 0 (va_A (va_pl L (pF cy K N T I Q J)) sz) := by
  refine Met.ofW (cc := cX2_lose) (maxL := 5) (ret := none) (by decide) rfl ?_
  intro p e s m args below meth c s₁ B hml hv
  obtain ⟨rfl, hsz, ⟨hP, hK, hN⟩, hD0⟩ := hv
  have hx := B.exec
  have hb := B.bytes
  have hr := B.returns
  have hts := atoms_spec (ws := wsX2_lose) B.pre
  have hown : s.vm.findClass RX2 = some m.cls := findClass_of_methodNamed B.named
  have hlocks := B.notSynchronized
  have hi2 : ∀ w ∈ wsX20, w ∈ wsX2_lose := by decide +kernel
  have hi4 : ∀ w ∈ wsX40, w ∈ wsX2_lose := by decide +kernel
  have hl := lv_entry ([.ref a, .int xn, .int xk]) (n := 5) (Nat.le_of_ble_eq_true rfl)
  rw [lg_entry_eq]
  generalize (lg_sl ([.ref a, .int xn, .int xk]) ++ List.replicate (5 - (lg_sl ([.ref a, .int xn, .int xk])).length) Slot.unset).toArray = ls at hl ⊢
  have hl : lv_has ls 5 [(0, .ref a), (1, .int xn), (2, .int xk)] := hl
  subst hsz
  have hD := hD0.self (sz := s.heap.size)
  generalize hAe : va_A (va_pl L (pF cy K N T I Q J)) s.heap.size = A at hD ⊢
  have hA : ∀ q : Nat, s.heap.size ≤ q → A q := fun q h => by rw [← hAe]; exact Or.inr h
  have hS : va_S A s.heap s.heap [] := va_S.rf
  have hR : RS v I Q J I Q J := RS.rf
  have hn28 := hN.1
  have hn30 := hN.2.1
  have hn37 := hN.2.2.1
  refine lv_aload_n hx hb dX2_lose_0 rfl (lv_at hl 0 rfl) ?_
  refine lv_iload_n hx hb dX2_lose_1 rfl (lv_at hl 1 rfl) ?_
  obtain ⟨j407, hj407⟩ := pG_2 (cy := cy) (N := N) (T := T) (I := I) (Q := Q) (J := J) ha hk
  refine va_csq (W.runV (As := [.int xn]) (rest := []) ⟨hx, hb, hml, hown, hts⟩ (c_X2_replicaAt l dC dI cy v L K N T I Q J a xn hC ha hk) (cwV 1 hts gX2_lose_X2_replicaAt rfl rfl rfl (by decide +kernel) ⟨Nat.le_of_ble_eq_true rfl, Nat.le_of_ble_eq_true rfl⟩) ⟨pb_blind, va_recv hK hP (ci := 2) (q0 := j407) rfl hj407, fun U hU hW => ⟨rfl, pb_pre hP hK hN hU hW⟩⟩ rfl rfl hl.1 rfl (lv_room (Nat.le_of_ble_eq_true rfl)) dX2_lose_2 ⟨Nat.le_of_ble_eq_true rfl, Nat.le_of_ble_eq_true rfl⟩) (fun r406 hr406 => ?_)
  cases r406 with
  | none =>
    refine W.eq (g2 := F0 m 5 ls [.null]) rfl ?_
    refine lv_astore_nN (lv' := [(3, .null), (0, .ref a), (1, .int xn), (2, .int xk)]) hx hb dX2_lose_5 rfl hl (by decide) rfl (fun ls hl => ?_)
    refine lv_aload_nN hx hb dX2_lose_6 rfl (lv_at hl 0 rfl) ?_
    refine lv_ifnonnullN hx hb dX2_lose_7 ?_
    exact W.vret hx hb hr (fun t ht hW => ⟨⟨(I, Q, J), rfl, ⟨hC, hR⟩, by rw [ht]; exact hP, va_K.moved hW.alike hK, hD⟩, hS.F ht⟩) hS.2.2 dX2_lose_10
  | some b408 =>
    have hTb408 := hr406 b408 rfl
    refine W.eq (g2 := F0 m 5 ls [.ref b408]) rfl ?_
    refine lv_astore_n (lv' := [(3, .ref b408), (0, .ref a), (1, .int xn), (2, .int xk)]) hx hb dX2_lose_5 rfl hl (by decide) rfl (fun ls hl => ?_)
    refine lv_aload_n hx hb dX2_lose_6 rfl (lv_at hl 0 rfl) ?_
    refine lv_ifnonnull (tgt := 11) hx hb dX2_lose_7 (by decide) ?_
    refine lv_aload_n hx hb dX2_lose_11 rfl (lv_at hl 0 rfl) ?_
    refine lv_iload_n hx hb dX2_lose_12 rfl (lv_at hl 3 rfl) ?_
    obtain ⟨j409, hj409⟩ := pG_4 (cy := cy) (N := N) (T := T) (I := I) (Q := Q) (J := J) hTb408.1 hTb408.2
    have hFc := pfree hD hS hA
    refine va_callv (va_runV (As := [.int xk]) (rest := []) ⟨hx, hb, hml, hown, hts⟩ (c_X4_loseUnflushed l dC dI cy v L K N T I Q J s.heap.size b408 xk hC hTb408.1 hTb408.2) (cwV 1 hts gX2_lose_X4_loseUnflushed rfl rfl rfl (by decide +kernel) ⟨Nat.le_of_ble_eq_true rfl, Nat.le_of_ble_eq_true rfl⟩) ⟨pw_blind, va_recv hK hP (ci := 4) (q0 := j409) rfl hj409, fun U hU hW => ⟨rfl, pw_pre hP hK hN hD hU hW⟩⟩ rfl rfl hl.1 rfl (lv_room (Nat.le_of_ble_eq_true rfl)) dX2_lose_13 ⟨Nat.le_of_ble_eq_true rfl, Nat.le_of_ble_eq_true rfl⟩) hS (fun q _ h => hFc q h) hFc (fun d9 t H1 locs ht hvm hw hB hz1 hk1 hS => ?_)
    obtain ⟨I410, Q410, J410⟩ := d9
    obtain ⟨hC, hR1⟩ := hw
    obtain ⟨hP, hK1, hD1⟩ := hB
    rw [ht] at hP
    have hD := hD1.weaken (fun _ _ _ h => hFc _ h)
    have hR := hR.trans hR1
    generalize H1 = H at hP hS ⊢
    have hP : va_P (dC, dI) vwCl (va_pl L (pF cy K N T I410 Q410 J410)) H := hP
    have hD : va_D A (va_pl L (pF cy K N T I410 Q410 J410)) := hD
    have hC : CT v L K N T I410 Q410 := hC
    have hR : RS v I Q J I410 Q410 J410 := hR
    refine lv_aload_n hx hb dX2_lose_16 rfl (lv_at hl 1 rfl) ?_
    obtain ⟨j412, hj412⟩ := pG_2 (cy := cy) (N := N) (T := T) (I := I410) (Q := Q410) (J := J410) ha hk
    refine va_get (D := (dC, dI)) (ci := 2) (v := .int (I410 a 3)) (C := RX2) (T := TX2) (N := 6) hx hb hts hi2 hown hK hP j412 hj412 rfl 3 (by decide) (hts (.fieldLink RX2 34 "TallyLogs$Partition" "leader" "I") (by decide +kernel)) (fun _ h9 => h9) rfl dX2_lose_17 ?_
    refine lv_topi (fun x413 ex413 => ?_)
    refine lv_iload_n hx hb dX2_lose_20 rfl (lv_at hl 2 rfl) ?_
    refine lv_icmp_ne (tgt := 29) hx hb dX2_lose_21 (by decide) (fun c414 => ?_) (fun c414 => ?_)
    · refine lv_aload_n hx hb dX2_lose_29 rfl (lv_at hl 1 rfl) ?_
      obtain ⟨j415, hj415⟩ := pG_2 (cy := cy) (N := N) (T := T) (I := I410) (Q := Q410) (J := J410) ha hk
      refine va_get (D := (dC, dI)) (ci := 2) (v := .int (I410 a 5)) (C := RX2) (T := TX2) (N := 6) hx hb hts hi2 hown hK hP j415 hj415 rfl 5 (by decide) (hts (.fieldLink RX2 27 "TallyLogs$Partition" "inStep" "I") (by decide +kernel)) (fun _ h9 => h9) rfl dX2_lose_30 ?_
      refine lv_topi (fun x416 ex416 => ?_)
      refine lv_iconst (v := 1) hx hb dX2_lose_33 (by decide) ?_
      refine lv_iload_n hx hb dX2_lose_34 rfl (lv_at hl 2 rfl) ?_
      refine lv_ishl hx hb dX2_lose_35 ?_
      refine lv_topi (fun v417 ev417 => ?_)
      refine lv_iconst (v := (-1)) hx hb dX2_lose_36 (by decide) ?_
      refine lv_ixor hx hb dX2_lose_37 ?_
      refine lv_topi (fun v418 ev418 => ?_)
      refine lv_iand hx hb dX2_lose_38 ?_
      refine lv_topi (fun v419 ev419 => ?_)
      refine lv_istore (lv' := [(4, .int v419), (3, .ref b408), (0, .ref a), (1, .int xn), (2, .int xk)]) hx hb dX2_lose_39 hl (by decide) rfl (fun ls hl => ?_)
      refine lv_iload hx hb dX2_lose_41 (lv_at hl 0 rfl) ?_
      refine lv_if_eq (tgt := 52) hx hb dX2_lose_43 (by decide) (fun c420 => ?_) (fun c420 => ?_)
      · refine lv_aload_n hx hb dX2_lose_52 rfl (lv_at hl 2 rfl) ?_
        obtain ⟨j421, hj421⟩ := pG_2 (cy := cy) (N := N) (T := T) (I := I410) (Q := Q410) (J := J410) ha hk
        have hFc := pfree hD hS hA
        refine va_callv (va_runV (As := []) (rest := []) ⟨hx, hb, hml, hown, hts⟩ (c_X2_raiseHw l dC dI cy v L K N T I410 Q410 J410 H.size a  hC ha hk) (cwV 0 hts gX2_lose_X2_raiseHw rfl rfl rfl (by decide +kernel) ⟨Nat.le_of_ble_eq_true rfl, Nat.le_of_ble_eq_true rfl⟩) ⟨pw_blind, va_recv hK hP (ci := 2) (q0 := j421) rfl hj421, fun U hU hW => ⟨rfl, pw_pre hP hK hN hD hU hW⟩⟩ rfl rfl hl.1 rfl (lv_room (Nat.le_of_ble_eq_true rfl)) dX2_lose_53 ⟨Nat.le_of_ble_eq_true rfl, Nat.le_of_ble_eq_true rfl⟩) hS (fun q _ h => hFc q h) hFc (fun d9 t H1 locs ht hvm hw hB hz1 hk1 hS => ?_)
        obtain ⟨I422, Q422, J422⟩ := d9
        obtain ⟨hC, hR1⟩ := hw
        obtain ⟨hP, hK1, hD1⟩ := hB
        rw [ht] at hP
        have hD := hD1.weaken (fun _ _ _ h => hFc _ h)
        have hR := hR.trans hR1
        generalize H1 = H at hP hS ⊢
        have hP : va_P (dC, dI) vwCl (va_pl L (pF cy K N T I422 Q422 J422)) H := hP
        have hD : va_D A (va_pl L (pF cy K N T I422 Q422 J422)) := hD
        have hC : CT v L K N T I422 Q422 := hC
        have hR : RS v I Q J I422 Q422 J422 := hR
        exact W.vret hx hb hr (fun t ht hW => ⟨⟨(I422, Q422, J422), rfl, ⟨hC, hR⟩, by rw [ht]; exact hP, va_K.moved hW.alike hK, hD⟩, hS.F ht⟩) hS.2.2 dX2_lose_56
      · refine lv_aload_n hx hb dX2_lose_46 rfl (lv_at hl 2 rfl) ?_
        refine lv_iload hx hb dX2_lose_47 (lv_at hl 0 rfl) ?_
        obtain ⟨j424, hj424⟩ := pG_2 (cy := cy) (N := N) (T := T) (I := I410) (Q := Q410) (J := J410) ha hk
        have hDo := hD
        refine va_put (D := (dC, dI)) (ci := 2) (v := .int v419) (ty := .int) (C := RX2) (T := TX2) (N := 6) hx hb hts hi2 tyX2 tyX2_ok nmX2 hown hK hP hD hS j424 hj424 rfl 5 (by decide) (hts (.fieldLink RX2 27 "TallyLogs$Partition" "inStep" "I") (by decide +kernel)) (fun _ h9 => h9) rfl (by decide +kernel) rfl rfl (Nat.le_of_ble_eq_true rfl) dX2_lose_49 (fun H locs hP hD hS => ?_)
        have hP := Eq.mp (congrArg (fun w => va_P (dC, dI) vwCl w H) (pP_2_5 (x := v419) hDo ha hk hj424)) hP
        obtain ⟨I425, eI425⟩ : ∃ z, z = p2 I410 a 5 v419 := ⟨_, rfl⟩
        rw [← eI425] at hP
        have hR : RS v I Q J I425 Q410 J410 := by rw [eI425]; exact hR.pi hC (by rw [hk]; decide)
        have hC : CT v L K N T I425 Q410 := by rw [eI425]; exact hC.pi (by rw [hk]; decide)
        have hD : va_D A (va_pl L (pF cy K N T I425 Q410 J410)) := pD hDo
        refine lv_aload_n hx hb dX2_lose_52 rfl (lv_at hl 2 rfl) ?_
        obtain ⟨j426, hj426⟩ := pG_2 (cy := cy) (N := N) (T := T) (I := I425) (Q := Q410) (J := J410) ha hk
        have hFc := pfree hD hS hA
        refine va_callv (va_runV (As := []) (rest := []) ⟨hx, hb, hml, hown, hts⟩ (c_X2_raiseHw l dC dI cy v L K N T I425 Q410 J410 H.size a  hC ha hk) (cwV 0 hts gX2_lose_X2_raiseHw rfl rfl rfl (by decide +kernel) ⟨Nat.le_of_ble_eq_true rfl, Nat.le_of_ble_eq_true rfl⟩) ⟨pw_blind, va_recv hK hP (ci := 2) (q0 := j426) rfl hj426, fun U hU hW => ⟨rfl, pw_pre hP hK hN hD hU hW⟩⟩ rfl rfl hl.1 rfl (lv_room (Nat.le_of_ble_eq_true rfl)) dX2_lose_53 ⟨Nat.le_of_ble_eq_true rfl, Nat.le_of_ble_eq_true rfl⟩) hS (fun q _ h => hFc q h) hFc (fun d9 t H1 locs ht hvm hw hB hz1 hk1 hS => ?_)
        obtain ⟨I427, Q427, J427⟩ := d9
        obtain ⟨hC, hR1⟩ := hw
        obtain ⟨hP, hK1, hD1⟩ := hB
        rw [ht] at hP
        have hD := hD1.weaken (fun _ _ _ h => hFc _ h)
        have hR := hR.trans hR1
        generalize H1 = H at hP hS ⊢
        have hP : va_P (dC, dI) vwCl (va_pl L (pF cy K N T I427 Q427 J427)) H := hP
        have hD : va_D A (va_pl L (pF cy K N T I427 Q427 J427)) := hD
        have hC : CT v L K N T I427 Q427 := hC
        have hR : RS v I Q J I427 Q427 J427 := hR
        exact W.vret hx hb hr (fun t ht hW => ⟨⟨(I427, Q427, J427), rfl, ⟨hC, hR⟩, by rw [ht]; exact hP, va_K.moved hW.alike hK, hD⟩, hS.F ht⟩) hS.2.2 dX2_lose_56
    · refine lv_aload_n hx hb dX2_lose_24 rfl (lv_at hl 1 rfl) ?_
      refine lv_iconst (v := (-1)) hx hb dX2_lose_25 (by decide) ?_
      obtain ⟨j429, hj429⟩ := pG_2 (cy := cy) (N := N) (T := T) (I := I410) (Q := Q410) (J := J410) ha hk
      have hDo := hD
      refine va_put (D := (dC, dI)) (ci := 2) (v := .int (-1)) (ty := .int) (C := RX2) (T := TX2) (N := 6) hx hb hts hi2 tyX2 tyX2_ok nmX2 hown hK hP hD hS j429 hj429 rfl 3 (by decide) (hts (.fieldLink RX2 34 "TallyLogs$Partition" "leader" "I") (by decide +kernel)) (fun _ h9 => h9) rfl (by decide +kernel) rfl rfl (Nat.le_of_ble_eq_true rfl) dX2_lose_26 (fun H locs hP hD hS => ?_)
      have hP := Eq.mp (congrArg (fun w => va_P (dC, dI) vwCl w H) (pP_2_3 (x := (-1)) hDo ha hk hj429)) hP
      obtain ⟨I430, eI430⟩ : ∃ z, z = p2 I410 a 3 (-1) := ⟨_, rfl⟩
      rw [← eI430] at hP
      have hR : RS v I Q J I430 Q410 J410 := by rw [eI430]; exact hR.pi hC (by rw [hk]; decide)
      have hC : CT v L K N T I430 Q410 := by rw [eI430]; exact hC.pi (by rw [hk]; decide)
      have hD : va_D A (va_pl L (pF cy K N T I430 Q410 J410)) := pD hDo
      refine lv_aload_n hx hb dX2_lose_29 rfl (lv_at hl 1 rfl) ?_
      obtain ⟨j431, hj431⟩ := pG_2 (cy := cy) (N := N) (T := T) (I := I430) (Q := Q410) (J := J410) ha hk
      refine va_get (D := (dC, dI)) (ci := 2) (v := .int (I430 a 5)) (C := RX2) (T := TX2) (N := 6) hx hb hts hi2 hown hK hP j431 hj431 rfl 5 (by decide) (hts (.fieldLink RX2 27 "TallyLogs$Partition" "inStep" "I") (by decide +kernel)) (fun _ h9 => h9) rfl dX2_lose_30 ?_
      refine lv_topi (fun x432 ex432 => ?_)
      refine lv_iconst (v := 1) hx hb dX2_lose_33 (by decide) ?_
      refine lv_iload_n hx hb dX2_lose_34 rfl (lv_at hl 2 rfl) ?_
      refine lv_ishl hx hb dX2_lose_35 ?_
      refine lv_topi (fun v433 ev433 => ?_)
      refine lv_iconst (v := (-1)) hx hb dX2_lose_36 (by decide) ?_
      refine lv_ixor hx hb dX2_lose_37 ?_
      refine lv_topi (fun v434 ev434 => ?_)
      refine lv_iand hx hb dX2_lose_38 ?_
      refine lv_topi (fun v435 ev435 => ?_)
      refine lv_istore (lv' := [(4, .int v435), (3, .ref b408), (0, .ref a), (1, .int xn), (2, .int xk)]) hx hb dX2_lose_39 hl (by decide) rfl (fun ls hl => ?_)
      refine lv_iload hx hb dX2_lose_41 (lv_at hl 0 rfl) ?_
      refine lv_if_eq (tgt := 52) hx hb dX2_lose_43 (by decide) (fun c436 => ?_) (fun c436 => ?_)
      · refine lv_aload_n hx hb dX2_lose_52 rfl (lv_at hl 2 rfl) ?_
        obtain ⟨j437, hj437⟩ := pG_2 (cy := cy) (N := N) (T := T) (I := I430) (Q := Q410) (J := J410) ha hk
        have hFc := pfree hD hS hA
        refine va_callv (va_runV (As := []) (rest := []) ⟨hx, hb, hml, hown, hts⟩ (c_X2_raiseHw l dC dI cy v L K N T I430 Q410 J410 H.size a  hC ha hk) (cwV 0 hts gX2_lose_X2_raiseHw rfl rfl rfl (by decide +kernel) ⟨Nat.le_of_ble_eq_true rfl, Nat.le_of_ble_eq_true rfl⟩) ⟨pw_blind, va_recv hK hP (ci := 2) (q0 := j437) rfl hj437, fun U hU hW => ⟨rfl, pw_pre hP hK hN hD hU hW⟩⟩ rfl rfl hl.1 rfl (lv_room (Nat.le_of_ble_eq_true rfl)) dX2_lose_53 ⟨Nat.le_of_ble_eq_true rfl, Nat.le_of_ble_eq_true rfl⟩) hS (fun q _ h => hFc q h) hFc (fun d9 t H1 locs ht hvm hw hB hz1 hk1 hS => ?_)
        obtain ⟨I438, Q438, J438⟩ := d9
        obtain ⟨hC, hR1⟩ := hw
        obtain ⟨hP, hK1, hD1⟩ := hB
        rw [ht] at hP
        have hD := hD1.weaken (fun _ _ _ h => hFc _ h)
        have hR := hR.trans hR1
        generalize H1 = H at hP hS ⊢
        have hP : va_P (dC, dI) vwCl (va_pl L (pF cy K N T I438 Q438 J438)) H := hP
        have hD : va_D A (va_pl L (pF cy K N T I438 Q438 J438)) := hD
        have hC : CT v L K N T I438 Q438 := hC
        have hR : RS v I Q J I438 Q438 J438 := hR
        exact W.vret hx hb hr (fun t ht hW => ⟨⟨(I438, Q438, J438), rfl, ⟨hC, hR⟩, by rw [ht]; exact hP, va_K.moved hW.alike hK, hD⟩, hS.F ht⟩) hS.2.2 dX2_lose_56
      · refine lv_aload_n hx hb dX2_lose_46 rfl (lv_at hl 2 rfl) ?_
        refine lv_iload hx hb dX2_lose_47 (lv_at hl 0 rfl) ?_
        obtain ⟨j440, hj440⟩ := pG_2 (cy := cy) (N := N) (T := T) (I := I430) (Q := Q410) (J := J410) ha hk
        have hDo := hD
        refine va_put (D := (dC, dI)) (ci := 2) (v := .int v435) (ty := .int) (C := RX2) (T := TX2) (N := 6) hx hb hts hi2 tyX2 tyX2_ok nmX2 hown hK hP hD hS j440 hj440 rfl 5 (by decide) (hts (.fieldLink RX2 27 "TallyLogs$Partition" "inStep" "I") (by decide +kernel)) (fun _ h9 => h9) rfl (by decide +kernel) rfl rfl (Nat.le_of_ble_eq_true rfl) dX2_lose_49 (fun H locs hP hD hS => ?_)
        have hP := Eq.mp (congrArg (fun w => va_P (dC, dI) vwCl w H) (pP_2_5 (x := v435) hDo ha hk hj440)) hP
        obtain ⟨I441, eI441⟩ : ∃ z, z = p2 I430 a 5 v435 := ⟨_, rfl⟩
        rw [← eI441] at hP
        have hR : RS v I Q J I441 Q410 J410 := by rw [eI441]; exact hR.pi hC (by rw [hk]; decide)
        have hC : CT v L K N T I441 Q410 := by rw [eI441]; exact hC.pi (by rw [hk]; decide)
        have hD : va_D A (va_pl L (pF cy K N T I441 Q410 J410)) := pD hDo
        refine lv_aload_n hx hb dX2_lose_52 rfl (lv_at hl 2 rfl) ?_
        obtain ⟨j442, hj442⟩ := pG_2 (cy := cy) (N := N) (T := T) (I := I441) (Q := Q410) (J := J410) ha hk
        have hFc := pfree hD hS hA
        refine va_callv (va_runV (As := []) (rest := []) ⟨hx, hb, hml, hown, hts⟩ (c_X2_raiseHw l dC dI cy v L K N T I441 Q410 J410 H.size a  hC ha hk) (cwV 0 hts gX2_lose_X2_raiseHw rfl rfl rfl (by decide +kernel) ⟨Nat.le_of_ble_eq_true rfl, Nat.le_of_ble_eq_true rfl⟩) ⟨pw_blind, va_recv hK hP (ci := 2) (q0 := j442) rfl hj442, fun U hU hW => ⟨rfl, pw_pre hP hK hN hD hU hW⟩⟩ rfl rfl hl.1 rfl (lv_room (Nat.le_of_ble_eq_true rfl)) dX2_lose_53 ⟨Nat.le_of_ble_eq_true rfl, Nat.le_of_ble_eq_true rfl⟩) hS (fun q _ h => hFc q h) hFc (fun d9 t H1 locs ht hvm hw hB hz1 hk1 hS => ?_)
        obtain ⟨I443, Q443, J443⟩ := d9
        obtain ⟨hC, hR1⟩ := hw
        obtain ⟨hP, hK1, hD1⟩ := hB
        rw [ht] at hP
        have hD := hD1.weaken (fun _ _ _ h => hFc _ h)
        have hR := hR.trans hR1
        generalize H1 = H at hP hS ⊢
        have hP : va_P (dC, dI) vwCl (va_pl L (pF cy K N T I443 Q443 J443)) H := hP
        have hD : va_D A (va_pl L (pF cy K N T I443 Q443 J443)) := hD
        have hC : CT v L K N T I443 Q443 := hC
        have hR : RS v I Q J I443 Q443 J443 := hR
        exact W.vret hx hb hr (fun t ht hW => ⟨⟨(I443, Q443, J443), rfl, ⟨hC, hR⟩, by rw [ht]; exact hP, va_K.moved hW.alike hK, hD⟩, hS.F ht⟩) hS.2.2 dX2_lose_56
