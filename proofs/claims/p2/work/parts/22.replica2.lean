theorem xdec {x y : Int32} (h : y ≤ x) (h0 : 0 ≤ y.toInt) : (x - 1).toInt = x.toInt - 1 := by
  rw [xk_le] at h
  have := xr_hi x
  rw [Int32.toInt_sub, xk_1, xb_of (by omega) (by omega)]
theorem xm1 (x : Int32) : x + Int32.ofInt (-1) = x - 1 := by
  rw [xk_eq, Int32.toInt_add, Int32.toInt_sub, show (Int32.ofInt (-1)).toInt = -1 by decide, xk_1]
  rfl
set_option maxHeartbeats 4000000 in
set_option maxRecDepth 100000 in
/-- Replica.nextSeq -/
theorem c_X4_nextSeq (l : Launch) (dC : Nat → ClassId) (dI : Nat → Nat → Nat) (cy : Nat → ClassId) (v : Nat → Nat) (L : List Nat) (K N : Nat → Nat) (T : Nat → Nat → Nat) (I : Nat → Nat → Int32) (Q : Nat → Nat → Option Nat) (J : Nat → Nat → Int32) (a : Nat) (ka : Int32) (kb : Int32) (hC : CT v L K N T I Q) (ha : a ∈ L) (hk : K a = 4) : Met l yX4_nextSeq wsX4_nextSeq ({ frames := 2, cells := 0, slots := 0, locals := 43 }) (va_Pc [.ref a, .int ka, .int kb] (pB dC dI cy L (pF cy K N T I Q J))) (vp_Si (fun r => True)) 0 0 (fun _ => False) := by
  refine Met.ofW (cc := cX4_nextSeq) (maxL := 5) (ret := (some .int)) (by decide) rfl ?_
  intro p e s m args below meth c s₁ B hml hv
  obtain ⟨rfl, hP, hK, hN⟩ := hv
  have hx := B.exec
  have hb := B.bytes
  have hr := B.returns
  have hts := atoms_spec (ws := wsX4_nextSeq) B.pre
  have hown : s.vm.findClass RX4 = some m.cls := findClass_of_methodNamed B.named
  have hlocks := B.notSynchronized
  have hi4 : ∀ w ∈ wsX40, w ∈ wsX4_nextSeq := by decide +kernel
  have hi0 : ∀ w ∈ wsX00, w ∈ wsX4_nextSeq := by decide +kernel
  have hl := lv_entry ([.ref a, .int ka, .int kb]) (n := 5) (Nat.le_of_ble_eq_true rfl)
  rw [lg_entry_eq]
  generalize (lg_sl ([.ref a, .int ka, .int kb]) ++ List.replicate (5 - (lg_sl ([.ref a, .int ka, .int kb])).length) Slot.unset).toArray = ls at hl ⊢
  have hl : lv_has ls 5 [(0, .ref a), (1, .int ka), (2, .int kb)] := hl
  have hn28 := hN.1
  have hn30 := hN.2.1
  have hn37 := hN.2.2.1
  refine lv_aload_n hx hb dX4_nextSeq_0 rfl (lv_at hl 0 rfl) ?_
  obtain ⟨j562, hj562⟩ := pG_4 (cy := cy) (N := N) (T := T) (I := I) (Q := Q) (J := J) ha hk
  refine va_get (D := (dC, dI)) (ci := 4) (v := .int (I a 2)) (C := RX4) (T := TX4) (N := 7) hx hb hts hi4 hown hK hP j562 hj562 rfl 2 (by decide) (hts (.fieldLink RX4 21 "TallyLogs$Replica" "end" "I") (by decide +kernel)) (fun _ h9 => h9) rfl dX4_nextSeq_1 ?_
  refine lv_topi (fun x563 ex563 => ?_)
  refine lv_iconst (v := 1) hx hb dX4_nextSeq_4 (by decide) ?_
  refine lv_isub hx hb dX4_nextSeq_5 ?_
  refine lv_topi (fun v564 ev564 => ?_)
  refine lv_istore_n (lv' := [(3, .int v564), (0, .ref a), (1, .int ka), (2, .int kb)]) hx hb dX4_nextSeq_6 rfl hl (by decide) rfl (fun ls hl => ?_)
  refine wq_gen (fun Qz hQz => ?_)
  have hLP566 : ∀ (n : Nat) (y565 : Int32) (ls : Array Slot), (y565.toInt - (I a 1).toInt + 1).toNat < n → lv_has ls 5 [(3, .int y565), (0, .ref a), (1, .int ka), (2, .int kb)] → W p l e (headSpec wsX4_nextSeq ({ frames := 2, cells := 0, slots := 0, locals := 43 })).room s m ([.ref a, .int ka, .int kb] : List Value).toArray below meth c s.heap [] 0 0 Qz (F0 m 7 ls []) := by
    intro n
    induction n with
    | zero => intro y565 ls hms; exact absurd hms (Nat.not_lt_zero _)
    | succ n ih =>
      intro y565 ls hms hl
      refine lv_iload_n hx hb dX4_nextSeq_7 rfl (lv_at hl 0 rfl) ?_
      refine lv_aload_n hx hb dX4_nextSeq_8 rfl (lv_at hl 1 rfl) ?_
      obtain ⟨j567, hj567⟩ := pG_4 (cy := cy) (N := N) (T := T) (I := I) (Q := Q) (J := J) ha hk
      refine va_get (D := (dC, dI)) (ci := 4) (v := .int (I a 1)) (C := RX4) (T := TX4) (N := 7) hx hb hts hi4 hown hK hP j567 hj567 rfl 1 (by decide) (hts (.fieldLink RX4 17 "TallyLogs$Replica" "start" "I") (by decide +kernel)) (fun _ h9 => h9) rfl dX4_nextSeq_9 ?_
      refine lv_topi (fun x568 ex568 => ?_)
      refine lv_icmp_lt (tgt := 51) hx hb dX4_nextSeq_12 (by decide) (fun c569 => ?_) (fun c569 => ?_)
      · refine lv_iconst (v := 0) hx hb dX4_nextSeq_51 (by decide) ?_
        rw [hQz]
        exact W.iret (v := 0) hx hb hr (fun t ht hW => ⟨0, rfl, trivial, ht⟩) (fun _ h => by cases h) dX4_nextSeq_52
      · refine lv_aload_n hx hb dX4_nextSeq_15 rfl (lv_at hl 1 rfl) ?_
        refine lv_iload_n hx hb dX4_nextSeq_16 rfl (lv_at hl 0 rfl) ?_
        obtain ⟨j571, hj571⟩ := pG_4 (cy := cy) (N := N) (T := T) (I := I) (Q := Q) (J := J) ha hk
        refine va_csq (W.runV (As := [.int y565]) (rest := []) ⟨hx, hb, hml, hown, hts⟩ (c_X4_entryAt l dC dI cy v L K N T I Q J a y565 hC ha hk) (cwV 1 hts gX4_nextSeq_X4_entryAt rfl rfl rfl (by decide +kernel) ⟨Nat.le_of_ble_eq_true rfl, Nat.le_of_ble_eq_true rfl⟩) ⟨pb_blind, va_recv hK hP (ci := 4) (q0 := j571) rfl hj571, fun U hU hW => ⟨rfl, pb_pre hP hK hN hU hW⟩⟩ rfl rfl hl.1 rfl (lv_room (Nat.le_of_ble_eq_true rfl)) dX4_nextSeq_17 ⟨Nat.le_of_ble_eq_true rfl, Nat.le_of_ble_eq_true rfl⟩) (fun r570 hr570 => ?_)
        cases r570 with
        | none =>
          refine W.eq (g2 := F0 m 20 ls [.null]) rfl ?_
          refine lv_astoreN (lv' := [(4, .null), (3, .int y565), (0, .ref a), (1, .int ka), (2, .int kb)]) hx hb dX4_nextSeq_20 hl (by decide) rfl (fun ls hl => ?_)
          refine lv_aloadN hx hb dX4_nextSeq_22 (lv_at hl 0 rfl) ?_
          refine lv_ifnullN (tgt := 45) hx hb dX4_nextSeq_24 (by decide) ?_
          obtain ⟨v573, ev573⟩ : ∃ y : Int32, y = y565 + Int32.ofInt (-1) := ⟨_, rfl⟩
          refine lv_iinc (v := v573) (lv' := [(3, .int v573), (4, .null), (0, .ref a), (1, .int ka), (2, .int kb)]) hx hb dX4_nextSeq_45 hl (k := 1) rfl ev573.symm (by decide) rfl (fun ls hl => ?_)
          refine lv_goto (tgt := 7) hx hb dX4_nextSeq_48 (by decide) ?_
          exact ih _ _ (by have kc := c569; rw [ex568] at kc; simp only [xk_le, xk_lt] at kc; have h9 := xdec (x := y565) (y := I a 1) (by rw [xk_le]; omega) (hC.2.2.2.2.2.2.2.1 a ha hk); rw [ev573, show y565 + Int32.ofInt (-1) = y565 - 1 from xm1 _, h9]; omega) (lv_sub hl [0, 2, 3, 4] rfl)
        | some b572 =>
          have hTb572 := hr570 b572 rfl
          refine W.eq (g2 := F0 m 20 ls [.ref b572]) rfl ?_
          refine lv_astore (lv' := [(4, .ref b572), (3, .int y565), (0, .ref a), (1, .int ka), (2, .int kb)]) hx hb dX4_nextSeq_20 hl (by decide) rfl (fun ls hl => ?_)
          refine lv_aload hx hb dX4_nextSeq_22 (lv_at hl 0 rfl) ?_
          refine lv_ifnull hx hb dX4_nextSeq_24 ?_
          refine lv_aload hx hb dX4_nextSeq_27 (lv_at hl 0 rfl) ?_
          refine lv_iload_n hx hb dX4_nextSeq_29 rfl (lv_at hl 3 rfl) ?_
          refine lv_iload_n hx hb dX4_nextSeq_30 rfl (lv_at hl 4 rfl) ?_
          obtain ⟨j575, hj575⟩ := pG_0 (cy := cy) (N := N) (T := T) (I := I) (Q := Q) (J := J) hTb572.1 hTb572.2
          refine vp_callSi (W.runV (As := [.int ka, .int kb]) (rest := []) ⟨hx, hb, hml, hown, hts⟩ (c_X0_isDataBy l dC dI cy v L K N T I Q J b572 ka kb hC hTb572.1 hTb572.2) (cwV 2 hts gX4_nextSeq_X0_isDataBy rfl rfl rfl (by decide +kernel) ⟨Nat.le_of_ble_eq_true rfl, Nat.le_of_ble_eq_true rfl⟩) ⟨pb_blind, va_recv hK hP (ci := 0) (q0 := j575) rfl hj575, fun U hU hW => ⟨rfl, pb_pre hP hK hN hU hW⟩⟩ rfl rfl hl.1 rfl (lv_room (Nat.le_of_ble_eq_true rfl)) dX4_nextSeq_31 ⟨Nat.le_of_ble_eq_true rfl, Nat.le_of_ble_eq_true rfl⟩) (fun r574 hr574 => ?_)
          refine lv_if_eq (tgt := 45) hx hb dX4_nextSeq_34 (by decide) (fun c576 => ?_) (fun c576 => ?_)
          · obtain ⟨v577, ev577⟩ : ∃ y : Int32, y = y565 + Int32.ofInt (-1) := ⟨_, rfl⟩
            refine lv_iinc (v := v577) (lv' := [(3, .int v577), (4, .ref b572), (0, .ref a), (1, .int ka), (2, .int kb)]) hx hb dX4_nextSeq_45 hl (k := 1) rfl ev577.symm (by decide) rfl (fun ls hl => ?_)
            refine lv_goto (tgt := 7) hx hb dX4_nextSeq_48 (by decide) ?_
            exact ih _ _ (by have kc := c569; rw [ex568] at kc; simp only [xk_le, xk_lt] at kc; have h9 := xdec (x := y565) (y := I a 1) (by rw [xk_le]; omega) (hC.2.2.2.2.2.2.2.1 a ha hk); rw [ev577, show y565 + Int32.ofInt (-1) = y565 - 1 from xm1 _, h9]; omega) (lv_sub hl [0, 2, 3, 4] rfl)
          · refine lv_aload hx hb dX4_nextSeq_37 (lv_at hl 0 rfl) ?_
            obtain ⟨j578, hj578⟩ := pG_0 (cy := cy) (N := N) (T := T) (I := I) (Q := Q) (J := J) hTb572.1 hTb572.2
            refine va_get (D := (dC, dI)) (ci := 0) (v := .int (I b572 4)) (C := RX0) (T := TX0) (N := 8) hx hb hts hi0 hown hK hP j578 hj578 rfl 4 (by decide) (hts (.fieldLink RX4 60 "TallyLogs$Entry" "seq" "I") (by decide +kernel)) (fun _ h9 => h9) rfl dX4_nextSeq_39 ?_
            refine lv_topi (fun x579 ex579 => ?_)
            refine lv_iconst (v := 1) hx hb dX4_nextSeq_42 (by decide) ?_
            refine lv_iadd hx hb dX4_nextSeq_43 ?_
            refine lv_topi (fun v580 ev580 => ?_)
            rw [hQz]
            exact W.iret (v := v580) hx hb hr (fun t ht hW => ⟨v580, rfl, trivial, ht⟩) (fun _ h => by cases h) dX4_nextSeq_44
  exact hLP566 _ _ _ (Nat.lt_succ_self _) (lv_sub hl [0, 1, 2, 3] rfl)
set_option maxHeartbeats 4000000 in
set_option maxRecDepth 100000 in
/-- Replica.firstVisible -/
theorem c_X4_firstVisible (l : Launch) (dC : Nat → ClassId) (dI : Nat → Nat → Nat) (cy : Nat → ClassId) (v : Nat → Nat) (L : List Nat) (K N : Nat → Nat) (T : Nat → Nat → Nat) (I : Nat → Nat → Int32) (Q : Nat → Nat → Option Nat) (J : Nat → Nat → Int32) (a : Nat) (xo : Int32) (cm : Int32) (hC : CT v L K N T I Q) (ha : a ∈ L) (hk : K a = 4) : Met l yX4_firstVisible wsX4_firstVisible ({ frames := 4, cells := 0, slots := 0, locals := 89 }) (va_Pc [.ref a, .int xo, .int cm] (pB dC dI cy L (pF cy K N T I Q J))) (vp_Si (fun r => True)) 0 0 (fun _ => False) := by
  refine Met.ofW (cc := cX4_firstVisible) (maxL := 6) (ret := (some .int)) (by decide) rfl ?_
  intro p e s m args below meth c s₁ B hml hv
  obtain ⟨rfl, hP, hK, hN⟩ := hv
  have hx := B.exec
  have hb := B.bytes
  have hr := B.returns
  have hts := atoms_spec (ws := wsX4_firstVisible) B.pre
  have hown : s.vm.findClass RX4 = some m.cls := findClass_of_methodNamed B.named
  have hlocks := B.notSynchronized
  have hi4 : ∀ w ∈ wsX40, w ∈ wsX4_firstVisible := by decide +kernel
  have hi0 : ∀ w ∈ wsX00, w ∈ wsX4_firstVisible := by decide +kernel
  have hl := lv_entry ([.ref a, .int xo, .int cm]) (n := 6) (Nat.le_of_ble_eq_true rfl)
  rw [lg_entry_eq]
  generalize (lg_sl ([.ref a, .int xo, .int cm]) ++ List.replicate (6 - (lg_sl ([.ref a, .int xo, .int cm])).length) Slot.unset).toArray = ls at hl ⊢
  have hl : lv_has ls 6 [(0, .ref a), (1, .int xo), (2, .int cm)] := hl
  have hn28 := hN.1
  have hn30 := hN.2.1
  have hn37 := hN.2.2.1
  refine lv_iload_n hx hb dX4_firstVisible_0 rfl (lv_at hl 2 rfl) ?_
  refine lv_if_eq (tgt := 18) hx hb dX4_firstVisible_1 (by decide) (fun c581 => ?_) (fun c581 => ?_)
  · refine lv_aload_n hx hb dX4_firstVisible_18 rfl (lv_at hl 0 rfl) ?_
    obtain ⟨j582, hj582⟩ := pG_4 (cy := cy) (N := N) (T := T) (I := I) (Q := Q) (J := J) ha hk
    refine va_get (D := (dC, dI)) (ci := 4) (v := .int (I a 3)) (C := RX4) (T := TX4) (N := 7) hx hb hts hi4 hown hK hP j582 hj582 rfl 3 (by decide) (hts (.fieldLink RX4 24 "TallyLogs$Replica" "hw" "I") (by decide +kernel)) (fun _ h9 => h9) rfl dX4_firstVisible_19 ?_
    refine lv_topi (fun x583 ex583 => ?_)
    refine lv_istore_n (lv' := [(3, .int x583), (0, .ref a), (1, .int xo), (2, .int cm)]) hx hb dX4_firstVisible_22 rfl hl (by decide) rfl (fun ls hl => ?_)
    refine lv_iload_n hx hb dX4_firstVisible_23 rfl (lv_at hl 2 rfl) ?_
    refine lv_istore (lv' := [(4, .int xo), (3, .int x583), (0, .ref a), (1, .int xo), (2, .int cm)]) hx hb dX4_firstVisible_24 hl (by decide) rfl (fun ls hl => ?_)
    refine wq_gen (fun Qz hQz => ?_)
    have hLP585 : ∀ (n : Nat) (y584 : Int32) (ls : Array Slot), ((x583).toInt - y584.toInt).toNat < n → lv_has ls 6 [(4, .int y584), (3, .int x583), (0, .ref a), (1, .int xo), (2, .int cm)] → W p l e (headSpec wsX4_firstVisible ({ frames := 4, cells := 0, slots := 0, locals := 89 })).room s m ([.ref a, .int xo, .int cm] : List Value).toArray below meth c s.heap [] 0 0 Qz (F0 m 26 ls []) := by
      intro n
      induction n with
      | zero => intro y584 ls hms; exact absurd hms (Nat.not_lt_zero _)
      | succ n ih =>
        intro y584 ls hms hl
        refine lv_iload hx hb dX4_firstVisible_26 (lv_at hl 0 rfl) ?_
        refine lv_iload_n hx hb dX4_firstVisible_28 rfl (lv_at hl 1 rfl) ?_
        refine lv_icmp_ge (tgt := 77) hx hb dX4_firstVisible_29 (by decide) (fun c586 => ?_) (fun c586 => ?_)
        · refine lv_iconst (v := (-1)) hx hb dX4_firstVisible_77 (by decide) ?_
          rw [hQz]
          exact W.iret (v := (-1)) hx hb hr (fun t ht hW => ⟨(-1), rfl, trivial, ht⟩) (fun _ h => by cases h) dX4_firstVisible_78
        · refine lv_aload_n hx hb dX4_firstVisible_32 rfl (lv_at hl 2 rfl) ?_
          refine lv_iload hx hb dX4_firstVisible_33 (lv_at hl 0 rfl) ?_
          obtain ⟨j588, hj588⟩ := pG_4 (cy := cy) (N := N) (T := T) (I := I) (Q := Q) (J := J) ha hk
          refine va_csq (W.runV (As := [.int y584]) (rest := []) ⟨hx, hb, hml, hown, hts⟩ (c_X4_entryAt l dC dI cy v L K N T I Q J a y584 hC ha hk) (cwV 1 hts gX4_firstVisible_X4_entryAt rfl rfl rfl (by decide +kernel) ⟨Nat.le_of_ble_eq_true rfl, Nat.le_of_ble_eq_true rfl⟩) ⟨pb_blind, va_recv hK hP (ci := 4) (q0 := j588) rfl hj588, fun U hU hW => ⟨rfl, pb_pre hP hK hN hU hW⟩⟩ rfl rfl hl.1 rfl (lv_room (Nat.le_of_ble_eq_true rfl)) dX4_firstVisible_35 ⟨Nat.le_of_ble_eq_true rfl, Nat.le_of_ble_eq_true rfl⟩) (fun r587 hr587 => ?_)
          cases r587 with
          | none =>
            refine W.eq (g2 := F0 m 38 ls [.null]) rfl ?_
            refine lv_astoreN (lv' := [(5, .null), (4, .int y584), (3, .int x583), (0, .ref a), (1, .int xo), (2, .int cm)]) hx hb dX4_firstVisible_38 hl (by decide) rfl (fun ls hl => ?_)
            refine lv_aloadN hx hb dX4_firstVisible_40 (lv_at hl 0 rfl) ?_
            refine lv_ifnullN (tgt := 71) hx hb dX4_firstVisible_42 (by decide) ?_
            obtain ⟨v590, ev590⟩ : ∃ y : Int32, y = y584 + Int32.ofInt 1 := ⟨_, rfl⟩
            refine lv_iinc (v := v590) (lv' := [(4, .int v590), (5, .null), (3, .int x583), (0, .ref a), (1, .int xo), (2, .int cm)]) hx hb dX4_firstVisible_71 hl (k := 1) rfl ev590.symm (by decide) rfl (fun ls hl => ?_)
            refine lv_goto (tgt := 26) hx hb dX4_firstVisible_74 (by decide) ?_
            exact ih _ _ (by have kc := c586; simp only [xk_le, xk_lt] at kc; have h9 := xinc (x := y584) (y := x583) (by rw [xk_lt]; omega); rw [ev590, show y584 + Int32.ofInt 1 = y584 + 1 from rfl, h9]; omega) (lv_sub hl [0, 2, 3, 4, 5] rfl)
          | some b589 =>
            have hTb589 := hr587 b589 rfl
            refine W.eq (g2 := F0 m 38 ls [.ref b589]) rfl ?_
            refine lv_astore (lv' := [(5, .ref b589), (4, .int y584), (3, .int x583), (0, .ref a), (1, .int xo), (2, .int cm)]) hx hb dX4_firstVisible_38 hl (by decide) rfl (fun ls hl => ?_)
            refine lv_aload hx hb dX4_firstVisible_40 (lv_at hl 0 rfl) ?_
            refine lv_ifnull hx hb dX4_firstVisible_42 ?_
            refine lv_aload hx hb dX4_firstVisible_45 (lv_at hl 0 rfl) ?_
            obtain ⟨j591, hj591⟩ := pG_0 (cy := cy) (N := N) (T := T) (I := I) (Q := Q) (J := J) hTb589.1 hTb589.2
            refine va_get (D := (dC, dI)) (ci := 0) (v := .int (I b589 1)) (C := RX0) (T := TX0) (N := 8) hx hb hts hi0 hown hK hP j591 hj591 rfl 1 (by decide) (hts (.fieldLink RX4 82 "TallyLogs$Entry" "kind" "I") (by decide +kernel)) (fun _ h9 => h9) rfl dX4_firstVisible_47 ?_
            refine lv_topi (fun x592 ex592 => ?_)
            refine lv_if_ne (tgt := 71) hx hb dX4_firstVisible_50 (by decide) (fun c593 => ?_) (fun c593 => ?_)
            · obtain ⟨v594, ev594⟩ : ∃ y : Int32, y = y584 + Int32.ofInt 1 := ⟨_, rfl⟩
              refine lv_iinc (v := v594) (lv' := [(4, .int v594), (5, .ref b589), (3, .int x583), (0, .ref a), (1, .int xo), (2, .int cm)]) hx hb dX4_firstVisible_71 hl (k := 1) rfl ev594.symm (by decide) rfl (fun ls hl => ?_)
              refine lv_goto (tgt := 26) hx hb dX4_firstVisible_74 (by decide) ?_
              exact ih _ _ (by have kc := c586; simp only [xk_le, xk_lt] at kc; have h9 := xinc (x := y584) (y := x583) (by rw [xk_lt]; omega); rw [ev594, show y584 + Int32.ofInt 1 = y584 + 1 from rfl, h9]; omega) (lv_sub hl [0, 2, 3, 4, 5] rfl)
            · refine lv_iload_n hx hb dX4_firstVisible_53 rfl (lv_at hl 5 rfl) ?_
              refine lv_if_eq (tgt := 68) hx hb dX4_firstVisible_54 (by decide) (fun c595 => ?_) (fun c595 => ?_)
              · refine lv_iload hx hb dX4_firstVisible_68 (lv_at hl 1 rfl) ?_
                rw [hQz]
                exact W.iret (v := y584) hx hb hr (fun t ht hW => ⟨y584, rfl, trivial, ht⟩) (fun _ h => by cases h) dX4_firstVisible_70
              · refine lv_aload_n hx hb dX4_firstVisible_57 rfl (lv_at hl 3 rfl) ?_
                refine lv_aload hx hb dX4_firstVisible_58 (lv_at hl 0 rfl) ?_
                refine lv_iload hx hb dX4_firstVisible_60 (lv_at hl 1 rfl) ?_
                obtain ⟨j597, hj597⟩ := pG_4 (cy := cy) (N := N) (T := T) (I := I) (Q := Q) (J := J) ha hk
                refine vp_callSi (W.runV (As := [.ref b589, .int y584]) (rest := []) ⟨hx, hb, hml, hown, hts⟩ (c_X4_isAborted l dC dI cy v L K N T I Q J a b589 y584 hC ha hk hTb589.1 hTb589.2) (cwV 2 hts gX4_firstVisible_X4_isAborted rfl rfl rfl (by decide +kernel) ⟨Nat.le_of_ble_eq_true rfl, Nat.le_of_ble_eq_true rfl⟩) ⟨pb_blind, va_recv hK hP (ci := 4) (q0 := j597) rfl hj597, fun U hU hW => ⟨rfl, pb_pre hP hK hN hU hW⟩⟩ rfl rfl hl.1 rfl (lv_room (Nat.le_of_ble_eq_true rfl)) dX4_firstVisible_62 ⟨Nat.le_of_ble_eq_true rfl, Nat.le_of_ble_eq_true rfl⟩) (fun r596 hr596 => ?_)
                refine lv_if_ne (tgt := 71) hx hb dX4_firstVisible_65 (by decide) (fun c598 => ?_) (fun c598 => ?_)
                · obtain ⟨v599, ev599⟩ : ∃ y : Int32, y = y584 + Int32.ofInt 1 := ⟨_, rfl⟩
                  refine lv_iinc (v := v599) (lv' := [(4, .int v599), (5, .ref b589), (3, .int x583), (0, .ref a), (1, .int xo), (2, .int cm)]) hx hb dX4_firstVisible_71 hl (k := 1) rfl ev599.symm (by decide) rfl (fun ls hl => ?_)
                  refine lv_goto (tgt := 26) hx hb dX4_firstVisible_74 (by decide) ?_
                  exact ih _ _ (by have kc := c586; simp only [xk_le, xk_lt] at kc; have h9 := xinc (x := y584) (y := x583) (by rw [xk_lt]; omega); rw [ev599, show y584 + Int32.ofInt 1 = y584 + 1 from rfl, h9]; omega) (lv_sub hl [0, 2, 3, 4, 5] rfl)
                · refine lv_iload hx hb dX4_firstVisible_68 (lv_at hl 1 rfl) ?_
                  rw [hQz]
                  exact W.iret (v := y584) hx hb hr (fun t ht hW => ⟨y584, rfl, trivial, ht⟩) (fun _ h => by cases h) dX4_firstVisible_70
    exact hLP585 _ _ _ (Nat.lt_succ_self _) (lv_sub hl [0, 1, 2, 3, 4] rfl)
  · refine lv_aload_n hx hb dX4_firstVisible_4 rfl (lv_at hl 0 rfl) ?_
    obtain ⟨j600, hj600⟩ := pG_4 (cy := cy) (N := N) (T := T) (I := I) (Q := Q) (J := J) ha hk
    refine va_get (D := (dC, dI)) (ci := 4) (v := .int (I a 3)) (C := RX4) (T := TX4) (N := 7) hx hb hts hi4 hown hK hP j600 hj600 rfl 3 (by decide) (hts (.fieldLink RX4 24 "TallyLogs$Replica" "hw" "I") (by decide +kernel)) (fun _ h9 => h9) rfl dX4_firstVisible_5 ?_
    refine lv_topi (fun x601 ex601 => ?_)
    refine lv_aload_n hx hb dX4_firstVisible_8 rfl (lv_at hl 0 rfl) ?_
    obtain ⟨j603, hj603⟩ := pG_4 (cy := cy) (N := N) (T := T) (I := I) (Q := Q) (J := J) ha hk
    refine vp_callSi (W.runV (As := []) (rest := [.int x601]) ⟨hx, hb, hml, hown, hts⟩ (c_X4_firstOpen l dC dI cy v L K N T I Q J a  hC ha hk) (cwV 0 hts gX4_firstVisible_X4_firstOpen rfl rfl rfl (by decide +kernel) ⟨Nat.le_of_ble_eq_true rfl, Nat.le_of_ble_eq_true rfl⟩) ⟨pb_blind, va_recv hK hP (ci := 4) (q0 := j603) rfl hj603, fun U hU hW => ⟨rfl, pb_pre hP hK hN hU hW⟩⟩ rfl rfl hl.1 rfl (lv_room (Nat.le_of_ble_eq_true rfl)) dX4_firstVisible_9 ⟨Nat.le_of_ble_eq_true rfl, Nat.le_of_ble_eq_true rfl⟩) (fun r602 hr602 => ?_)
    refine va_mmin hx hb (by rw [hml]; exact hl.1.symm) hown (hts (.methodLink RX4 49 Lib.Math.min.name) (by decide +kernel)) (hts (.static Lib.Math.min.name) (by decide +kernel)) (hts (.initialized "java/lang/Math") (by decide +kernel)) (hts _ (List.mem_of_getElem? (i := 5) rfl)) (Nat.le_of_ble_eq_true rfl) (Nat.le_of_ble_eq_true rfl) (Nat.le_of_ble_eq_true rfl) (Nat.le_of_ble_eq_true rfl) dX4_firstVisible_12 ?_
    refine lv_topi (fun z604 ez604 => ?_)
    refine lv_goto (tgt := 22) hx hb dX4_firstVisible_15 (by decide) ?_
    refine lv_istore_n (lv' := [(3, .int z604), (0, .ref a), (1, .int xo), (2, .int cm)]) hx hb dX4_firstVisible_22 rfl hl (by decide) rfl (fun ls hl => ?_)
    refine lv_iload_n hx hb dX4_firstVisible_23 rfl (lv_at hl 2 rfl) ?_
    refine lv_istore (lv' := [(4, .int xo), (3, .int z604), (0, .ref a), (1, .int xo), (2, .int cm)]) hx hb dX4_firstVisible_24 hl (by decide) rfl (fun ls hl => ?_)
    refine wq_gen (fun Qz hQz => ?_)
    have hLP606 : ∀ (n : Nat) (y605 : Int32) (ls : Array Slot), ((z604).toInt - y605.toInt).toNat < n → lv_has ls 6 [(4, .int y605), (3, .int z604), (0, .ref a), (1, .int xo), (2, .int cm)] → W p l e (headSpec wsX4_firstVisible ({ frames := 4, cells := 0, slots := 0, locals := 89 })).room s m ([.ref a, .int xo, .int cm] : List Value).toArray below meth c s.heap [] 0 0 Qz (F0 m 26 ls []) := by
      intro n
      induction n with
      | zero => intro y605 ls hms; exact absurd hms (Nat.not_lt_zero _)
      | succ n ih =>
        intro y605 ls hms hl
        refine lv_iload hx hb dX4_firstVisible_26 (lv_at hl 0 rfl) ?_
        refine lv_iload_n hx hb dX4_firstVisible_28 rfl (lv_at hl 1 rfl) ?_
        refine lv_icmp_ge (tgt := 77) hx hb dX4_firstVisible_29 (by decide) (fun c607 => ?_) (fun c607 => ?_)
        · refine lv_iconst (v := (-1)) hx hb dX4_firstVisible_77 (by decide) ?_
          rw [hQz]
          exact W.iret (v := (-1)) hx hb hr (fun t ht hW => ⟨(-1), rfl, trivial, ht⟩) (fun _ h => by cases h) dX4_firstVisible_78
        · refine lv_aload_n hx hb dX4_firstVisible_32 rfl (lv_at hl 2 rfl) ?_
          refine lv_iload hx hb dX4_firstVisible_33 (lv_at hl 0 rfl) ?_
          obtain ⟨j609, hj609⟩ := pG_4 (cy := cy) (N := N) (T := T) (I := I) (Q := Q) (J := J) ha hk
          refine va_csq (W.runV (As := [.int y605]) (rest := []) ⟨hx, hb, hml, hown, hts⟩ (c_X4_entryAt l dC dI cy v L K N T I Q J a y605 hC ha hk) (cwV 1 hts gX4_firstVisible_X4_entryAt rfl rfl rfl (by decide +kernel) ⟨Nat.le_of_ble_eq_true rfl, Nat.le_of_ble_eq_true rfl⟩) ⟨pb_blind, va_recv hK hP (ci := 4) (q0 := j609) rfl hj609, fun U hU hW => ⟨rfl, pb_pre hP hK hN hU hW⟩⟩ rfl rfl hl.1 rfl (lv_room (Nat.le_of_ble_eq_true rfl)) dX4_firstVisible_35 ⟨Nat.le_of_ble_eq_true rfl, Nat.le_of_ble_eq_true rfl⟩) (fun r608 hr608 => ?_)
          cases r608 with
          | none =>
            refine W.eq (g2 := F0 m 38 ls [.null]) rfl ?_
            refine lv_astoreN (lv' := [(5, .null), (4, .int y605), (3, .int z604), (0, .ref a), (1, .int xo), (2, .int cm)]) hx hb dX4_firstVisible_38 hl (by decide) rfl (fun ls hl => ?_)
            refine lv_aloadN hx hb dX4_firstVisible_40 (lv_at hl 0 rfl) ?_
            refine lv_ifnullN (tgt := 71) hx hb dX4_firstVisible_42 (by decide) ?_
            obtain ⟨v611, ev611⟩ : ∃ y : Int32, y = y605 + Int32.ofInt 1 := ⟨_, rfl⟩
            refine lv_iinc (v := v611) (lv' := [(4, .int v611), (5, .null), (3, .int z604), (0, .ref a), (1, .int xo), (2, .int cm)]) hx hb dX4_firstVisible_71 hl (k := 1) rfl ev611.symm (by decide) rfl (fun ls hl => ?_)
            refine lv_goto (tgt := 26) hx hb dX4_firstVisible_74 (by decide) ?_
            exact ih _ _ (by have kc := c607; simp only [xk_le, xk_lt] at kc; have h9 := xinc (x := y605) (y := z604) (by rw [xk_lt]; omega); rw [ev611, show y605 + Int32.ofInt 1 = y605 + 1 from rfl, h9]; omega) (lv_sub hl [0, 2, 3, 4, 5] rfl)
          | some b610 =>
            have hTb610 := hr608 b610 rfl
            refine W.eq (g2 := F0 m 38 ls [.ref b610]) rfl ?_
            refine lv_astore (lv' := [(5, .ref b610), (4, .int y605), (3, .int z604), (0, .ref a), (1, .int xo), (2, .int cm)]) hx hb dX4_firstVisible_38 hl (by decide) rfl (fun ls hl => ?_)
            refine lv_aload hx hb dX4_firstVisible_40 (lv_at hl 0 rfl) ?_
            refine lv_ifnull hx hb dX4_firstVisible_42 ?_
            refine lv_aload hx hb dX4_firstVisible_45 (lv_at hl 0 rfl) ?_
            obtain ⟨j612, hj612⟩ := pG_0 (cy := cy) (N := N) (T := T) (I := I) (Q := Q) (J := J) hTb610.1 hTb610.2
            refine va_get (D := (dC, dI)) (ci := 0) (v := .int (I b610 1)) (C := RX0) (T := TX0) (N := 8) hx hb hts hi0 hown hK hP j612 hj612 rfl 1 (by decide) (hts (.fieldLink RX4 82 "TallyLogs$Entry" "kind" "I") (by decide +kernel)) (fun _ h9 => h9) rfl dX4_firstVisible_47 ?_
            refine lv_topi (fun x613 ex613 => ?_)
            refine lv_if_ne (tgt := 71) hx hb dX4_firstVisible_50 (by decide) (fun c614 => ?_) (fun c614 => ?_)
            · obtain ⟨v615, ev615⟩ : ∃ y : Int32, y = y605 + Int32.ofInt 1 := ⟨_, rfl⟩
              refine lv_iinc (v := v615) (lv' := [(4, .int v615), (5, .ref b610), (3, .int z604), (0, .ref a), (1, .int xo), (2, .int cm)]) hx hb dX4_firstVisible_71 hl (k := 1) rfl ev615.symm (by decide) rfl (fun ls hl => ?_)
              refine lv_goto (tgt := 26) hx hb dX4_firstVisible_74 (by decide) ?_
              exact ih _ _ (by have kc := c607; simp only [xk_le, xk_lt] at kc; have h9 := xinc (x := y605) (y := z604) (by rw [xk_lt]; omega); rw [ev615, show y605 + Int32.ofInt 1 = y605 + 1 from rfl, h9]; omega) (lv_sub hl [0, 2, 3, 4, 5] rfl)
            · refine lv_iload_n hx hb dX4_firstVisible_53 rfl (lv_at hl 5 rfl) ?_
              refine lv_if_eq (tgt := 68) hx hb dX4_firstVisible_54 (by decide) (fun c616 => ?_) (fun c616 => ?_)
              · refine lv_iload hx hb dX4_firstVisible_68 (lv_at hl 1 rfl) ?_
                rw [hQz]
                exact W.iret (v := y605) hx hb hr (fun t ht hW => ⟨y605, rfl, trivial, ht⟩) (fun _ h => by cases h) dX4_firstVisible_70
              · refine lv_aload_n hx hb dX4_firstVisible_57 rfl (lv_at hl 3 rfl) ?_
                refine lv_aload hx hb dX4_firstVisible_58 (lv_at hl 0 rfl) ?_
                refine lv_iload hx hb dX4_firstVisible_60 (lv_at hl 1 rfl) ?_
                obtain ⟨j618, hj618⟩ := pG_4 (cy := cy) (N := N) (T := T) (I := I) (Q := Q) (J := J) ha hk
                refine vp_callSi (W.runV (As := [.ref b610, .int y605]) (rest := []) ⟨hx, hb, hml, hown, hts⟩ (c_X4_isAborted l dC dI cy v L K N T I Q J a b610 y605 hC ha hk hTb610.1 hTb610.2) (cwV 2 hts gX4_firstVisible_X4_isAborted rfl rfl rfl (by decide +kernel) ⟨Nat.le_of_ble_eq_true rfl, Nat.le_of_ble_eq_true rfl⟩) ⟨pb_blind, va_recv hK hP (ci := 4) (q0 := j618) rfl hj618, fun U hU hW => ⟨rfl, pb_pre hP hK hN hU hW⟩⟩ rfl rfl hl.1 rfl (lv_room (Nat.le_of_ble_eq_true rfl)) dX4_firstVisible_62 ⟨Nat.le_of_ble_eq_true rfl, Nat.le_of_ble_eq_true rfl⟩) (fun r617 hr617 => ?_)
                refine lv_if_ne (tgt := 71) hx hb dX4_firstVisible_65 (by decide) (fun c619 => ?_) (fun c619 => ?_)
                · obtain ⟨v620, ev620⟩ : ∃ y : Int32, y = y605 + Int32.ofInt 1 := ⟨_, rfl⟩
                  refine lv_iinc (v := v620) (lv' := [(4, .int v620), (5, .ref b610), (3, .int z604), (0, .ref a), (1, .int xo), (2, .int cm)]) hx hb dX4_firstVisible_71 hl (k := 1) rfl ev620.symm (by decide) rfl (fun ls hl => ?_)
                  refine lv_goto (tgt := 26) hx hb dX4_firstVisible_74 (by decide) ?_
                  exact ih _ _ (by have kc := c607; simp only [xk_le, xk_lt] at kc; have h9 := xinc (x := y605) (y := z604) (by rw [xk_lt]; omega); rw [ev620, show y605 + Int32.ofInt 1 = y605 + 1 from rfl, h9]; omega) (lv_sub hl [0, 2, 3, 4, 5] rfl)
                · refine lv_iload hx hb dX4_firstVisible_68 (lv_at hl 1 rfl) ?_
                  rw [hQz]
                  exact W.iret (v := y605) hx hb hr (fun t ht hW => ⟨y605, rfl, trivial, ht⟩) (fun _ h => by cases h) dX4_firstVisible_70
    exact hLP606 _ _ _ (Nat.lt_succ_self _) (lv_sub hl [0, 1, 2, 3, 4] rfl)
