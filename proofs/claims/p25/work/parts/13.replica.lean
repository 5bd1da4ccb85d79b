set_option maxHeartbeats 4000000 in
set_option maxRecDepth 100000 in
/-- Replica.isFull -/
theorem c_X4_isFull (l : Launch) (dC : Nat → ClassId) (dI : Nat → Nat → Nat) (cy : Nat → ClassId) (v : Nat → Nat) (L : List Nat) (K N : Nat → Nat) (T : Nat → Nat → Nat) (I : Nat → Nat → Int32) (Q : Nat → Nat → Option Nat) (J : Nat → Nat → Int32) (a : Nat)  (hC : CT v L K N T I Q) (ha : a ∈ L) (hk : K a = 4) : Met l yX4_isFull wsX4_isFull ({ frames := 1, cells := 0, slots := 0, locals := 20 }) (va_Pc [.ref a] (pB dC dI cy L (pF cy K N T I Q J))) (vp_Si (fun r => True)) 0 0 (fun _ => False) := by
  refine Met.ofW (cc := cX4_isFull) (maxL := 1) (ret := (some .boolean)) (by decide) rfl ?_
  intro p e s m args below meth c s₁ B hml hv
  obtain ⟨rfl, hP, hK, hN⟩ := hv
  have hx := B.exec
  have hb := B.bytes
  have hr := B.returns
  have hts := atoms_spec (ws := wsX4_isFull) B.pre
  have hown : s.vm.findClass RX4 = some m.cls := findClass_of_methodNamed B.named
  have hlocks := B.notSynchronized
  have hi4 : ∀ w ∈ wsX40, w ∈ wsX4_isFull := by decide +kernel
  have hl := lv_entry ([.ref a]) (n := 1) (Nat.le_of_ble_eq_true rfl)
  rw [lg_entry_eq]
  generalize (lg_sl ([.ref a]) ++ List.replicate (1 - (lg_sl ([.ref a])).length) Slot.unset).toArray = ls at hl ⊢
  have hl : lv_has ls 1 [(0, .ref a)] := hl
  have hn28 := hN.1
  have hn30 := hN.2.1
  have hn37 := hN.2.2.1
  refine lv_aload_n hx hb dX4_isFull_0 rfl (lv_at hl 0 rfl) ?_
  obtain ⟨j46, hj46⟩ := pG_4 (cy := cy) (N := N) (T := T) (I := I) (Q := Q) (J := J) ha hk
  refine vp_callSi (W.runV (As := []) (rest := []) ⟨hx, hb, hml, hown, hts⟩ (c_X4_held l dC dI cy v L K N T I Q J a  hC ha hk) (cwV 0 hts gX4_isFull_X4_held rfl rfl rfl (by decide +kernel) ⟨Nat.le_of_ble_eq_true rfl, Nat.le_of_ble_eq_true rfl⟩) ⟨pb_blind, va_recv hK hP (ci := 4) (q0 := j46) rfl hj46, fun U hU hW => ⟨rfl, pb_pre hP hK hN hU hW⟩⟩ rfl rfl hl.1 rfl (lv_room (Nat.le_of_ble_eq_true rfl)) dX4_isFull_1 ⟨Nat.le_of_ble_eq_true rfl, Nat.le_of_ble_eq_true rfl⟩) (fun r45 hr45 => ?_)
  refine lv_bipush (v := 60) hx hb dX4_isFull_4 (by decide) ?_
  refine lv_icmp_lt (tgt := 13) hx hb dX4_isFull_6 (by decide) (fun c47 => ?_) (fun c47 => ?_)
  · refine lv_iconst (v := 0) hx hb dX4_isFull_13 (by decide) ?_
    exact W.zret (v := 0) hx hb hr (by decide) (fun t ht hW => ⟨0, rfl, trivial, ht⟩) (fun _ h => by cases h) dX4_isFull_14
  · refine lv_iconst (v := 1) hx hb dX4_isFull_9 (by decide) ?_
    refine lv_goto (tgt := 14) hx hb dX4_isFull_10 (by decide) ?_
    exact W.zret (v := 1) hx hb hr (by decide) (fun t ht hW => ⟨1, rfl, trivial, ht⟩) (fun _ h => by cases h) dX4_isFull_14
set_option maxHeartbeats 4000000 in
set_option maxRecDepth 100000 in
/-- Replica.endKindOf -/
theorem c_X4_endKindOf (l : Launch) (dC : Nat → ClassId) (dI : Nat → Nat → Nat) (cy : Nat → ClassId) (v : Nat → Nat) (L : List Nat) (K N : Nat → Nat) (T : Nat → Nat → Nat) (I : Nat → Nat → Int32) (Q : Nat → Nat → Option Nat) (J : Nat → Nat → Int32) (a : Nat) (eb : Nat) (xo : Int32) (hC : CT v L K N T I Q) (ha : a ∈ L) (hk : K a = 4) (hb0 : eb ∈ L) (hkb : K eb = 0) : Met l yX4_endKindOf wsX4_endKindOf ({ frames := 2, cells := 0, slots := 0, locals := 43 }) (va_Pc [.ref a, .ref eb, .int xo] (pB dC dI cy L (pF cy K N T I Q J))) (vp_Si (fun r => True)) 0 0 (fun _ => False) := by
  refine Met.ofW (cc := cX4_endKindOf) (maxL := 5) (ret := (some .int)) (by decide) rfl ?_
  intro p e s m args below meth c s₁ B hml hv
  obtain ⟨rfl, hP, hK, hN⟩ := hv
  have hx := B.exec
  have hb := B.bytes
  have hr := B.returns
  have hts := atoms_spec (ws := wsX4_endKindOf) B.pre
  have hown : s.vm.findClass RX4 = some m.cls := findClass_of_methodNamed B.named
  have hlocks := B.notSynchronized
  have hi4 : ∀ w ∈ wsX40, w ∈ wsX4_endKindOf := by decide +kernel
  have hi0 : ∀ w ∈ wsX00, w ∈ wsX4_endKindOf := by decide +kernel
  have hl := lv_entry ([.ref a, .ref eb, .int xo]) (n := 5) (Nat.le_of_ble_eq_true rfl)
  rw [lg_entry_eq]
  generalize (lg_sl ([.ref a, .ref eb, .int xo]) ++ List.replicate (5 - (lg_sl ([.ref a, .ref eb, .int xo])).length) Slot.unset).toArray = ls at hl ⊢
  have hl : lv_has ls 5 [(0, .ref a), (1, .ref eb), (2, .int xo)] := hl
  have hn28 := hN.1
  have hn30 := hN.2.1
  have hn37 := hN.2.2.1
  refine lv_iload_n hx hb dX4_endKindOf_0 rfl (lv_at hl 2 rfl) ?_
  refine lv_iconst (v := 1) hx hb dX4_endKindOf_1 (by decide) ?_
  refine lv_iadd hx hb dX4_endKindOf_2 ?_
  refine lv_topi (fun v81 ev81 => ?_)
  refine lv_istore_n (lv' := [(3, .int v81), (0, .ref a), (1, .ref eb), (2, .int xo)]) hx hb dX4_endKindOf_3 rfl hl (by decide) rfl (fun ls hl => ?_)
  refine wq_gen (fun Qz hQz => ?_)
  have hLP83 : ∀ (n : Nat) (y82 : Int32) (ls : Array Slot), ((I a 2).toInt - y82.toInt).toNat < n → lv_has ls 5 [(3, .int y82), (0, .ref a), (1, .ref eb), (2, .int xo)] → W p l e (headSpec wsX4_endKindOf ({ frames := 2, cells := 0, slots := 0, locals := 43 })).room s m ([.ref a, .ref eb, .int xo] : List Value).toArray below meth c s.heap [] 0 0 Qz (F0 m 4 ls []) := by
    intro n
    induction n with
    | zero => intro y82 ls hms; exact absurd hms (Nat.not_lt_zero _)
    | succ n ih =>
      intro y82 ls hms hl
      refine lv_iload_n hx hb dX4_endKindOf_4 rfl (lv_at hl 0 rfl) ?_
      refine lv_aload_n hx hb dX4_endKindOf_5 rfl (lv_at hl 1 rfl) ?_
      obtain ⟨j84, hj84⟩ := pG_4 (cy := cy) (N := N) (T := T) (I := I) (Q := Q) (J := J) ha hk
      refine va_get (D := (dC, dI)) (ci := 4) (v := .int (I a 2)) (C := RX4) (T := TX4) (N := 7) hx hb hts hi4 hown hK hP j84 hj84 rfl 2 (by decide) (hts (.fieldLink RX4 21 "TallyLogs$Replica" "end" "I") (by decide +kernel)) (fun _ h9 => h9) rfl dX4_endKindOf_6 ?_
      refine lv_topi (fun x85 ex85 => ?_)
      refine lv_icmp_ge (tgt := 45) hx hb dX4_endKindOf_9 (by decide) (fun c86 => ?_) (fun c86 => ?_)
      · refine lv_iconst (v := 0) hx hb dX4_endKindOf_45 (by decide) ?_
        rw [hQz]
        exact W.iret (v := 0) hx hb hr (fun t ht hW => ⟨0, rfl, trivial, ht⟩) (fun _ h => by cases h) dX4_endKindOf_46
      · refine lv_aload_n hx hb dX4_endKindOf_12 rfl (lv_at hl 1 rfl) ?_
        refine lv_iload_n hx hb dX4_endKindOf_13 rfl (lv_at hl 0 rfl) ?_
        obtain ⟨j88, hj88⟩ := pG_4 (cy := cy) (N := N) (T := T) (I := I) (Q := Q) (J := J) ha hk
        refine va_csq (W.runV (As := [.int y82]) (rest := []) ⟨hx, hb, hml, hown, hts⟩ (c_X4_entryAt l dC dI cy v L K N T I Q J a y82 hC ha hk) (cwV 1 hts gX4_endKindOf_X4_entryAt rfl rfl rfl (by decide +kernel) ⟨Nat.le_of_ble_eq_true rfl, Nat.le_of_ble_eq_true rfl⟩) ⟨pb_blind, va_recv hK hP (ci := 4) (q0 := j88) rfl hj88, fun U hU hW => ⟨rfl, pb_pre hP hK hN hU hW⟩⟩ rfl rfl hl.1 rfl (lv_room (Nat.le_of_ble_eq_true rfl)) dX4_endKindOf_14 ⟨Nat.le_of_ble_eq_true rfl, Nat.le_of_ble_eq_true rfl⟩) (fun r87 hr87 => ?_)
        cases r87 with
        | none =>
          refine W.eq (g2 := F0 m 17 ls [.null]) rfl ?_
          refine lv_astoreN (lv' := [(4, .null), (3, .int y82), (0, .ref a), (1, .ref eb), (2, .int xo)]) hx hb dX4_endKindOf_17 hl (by decide) rfl (fun ls hl => ?_)
          refine lv_aloadN hx hb dX4_endKindOf_19 (lv_at hl 0 rfl) ?_
          refine lv_ifnullN (tgt := 39) hx hb dX4_endKindOf_21 (by decide) ?_
          obtain ⟨v90, ev90⟩ : ∃ y : Int32, y = y82 + Int32.ofInt 1 := ⟨_, rfl⟩
          refine lv_iinc (v := v90) (lv' := [(3, .int v90), (4, .null), (0, .ref a), (1, .ref eb), (2, .int xo)]) hx hb dX4_endKindOf_39 hl (k := 1) rfl ev90.symm (by decide) rfl (fun ls hl => ?_)
          refine lv_goto (tgt := 4) hx hb dX4_endKindOf_42 (by decide) ?_
          exact ih _ _ (by have kc := c86; rw [ex85] at kc; simp only [xk_le, xk_lt] at kc; have h9 := xinc (x := y82) (y := I a 2) (by rw [xk_lt]; omega); rw [ev90, show y82 + Int32.ofInt 1 = y82 + 1 from rfl, h9]; omega) (lv_sub hl [0, 2, 3, 4] rfl)
        | some b89 =>
          have hTb89 := hr87 b89 rfl
          refine W.eq (g2 := F0 m 17 ls [.ref b89]) rfl ?_
          refine lv_astore (lv' := [(4, .ref b89), (3, .int y82), (0, .ref a), (1, .ref eb), (2, .int xo)]) hx hb dX4_endKindOf_17 hl (by decide) rfl (fun ls hl => ?_)
          refine lv_aload hx hb dX4_endKindOf_19 (lv_at hl 0 rfl) ?_
          refine lv_ifnull hx hb dX4_endKindOf_21 ?_
          refine lv_aload hx hb dX4_endKindOf_24 (lv_at hl 0 rfl) ?_
          refine lv_aload_n hx hb dX4_endKindOf_26 rfl (lv_at hl 3 rfl) ?_
          obtain ⟨j92, hj92⟩ := pG_0 (cy := cy) (N := N) (T := T) (I := I) (Q := Q) (J := J) hTb89.1 hTb89.2
          refine vp_callSi (W.runV (As := [.ref eb]) (rest := []) ⟨hx, hb, hml, hown, hts⟩ (c_X0_isEndOf l dC dI cy v L K N T I Q J b89 eb hC hTb89.1 hTb89.2 hb0 hkb) (cwV 1 hts gX4_endKindOf_X0_isEndOf rfl rfl rfl (by decide +kernel) ⟨Nat.le_of_ble_eq_true rfl, Nat.le_of_ble_eq_true rfl⟩) ⟨pb_blind, va_recv hK hP (ci := 0) (q0 := j92) rfl hj92, fun U hU hW => ⟨rfl, pb_pre hP hK hN hU hW⟩⟩ rfl rfl hl.1 rfl (lv_room (Nat.le_of_ble_eq_true rfl)) dX4_endKindOf_27 ⟨Nat.le_of_ble_eq_true rfl, Nat.le_of_ble_eq_true rfl⟩) (fun r91 hr91 => ?_)
          refine lv_if_eq (tgt := 39) hx hb dX4_endKindOf_30 (by decide) (fun c93 => ?_) (fun c93 => ?_)
          · obtain ⟨v94, ev94⟩ : ∃ y : Int32, y = y82 + Int32.ofInt 1 := ⟨_, rfl⟩
            refine lv_iinc (v := v94) (lv' := [(3, .int v94), (4, .ref b89), (0, .ref a), (1, .ref eb), (2, .int xo)]) hx hb dX4_endKindOf_39 hl (k := 1) rfl ev94.symm (by decide) rfl (fun ls hl => ?_)
            refine lv_goto (tgt := 4) hx hb dX4_endKindOf_42 (by decide) ?_
            exact ih _ _ (by have kc := c86; rw [ex85] at kc; simp only [xk_le, xk_lt] at kc; have h9 := xinc (x := y82) (y := I a 2) (by rw [xk_lt]; omega); rw [ev94, show y82 + Int32.ofInt 1 = y82 + 1 from rfl, h9]; omega) (lv_sub hl [0, 2, 3, 4] rfl)
          · refine lv_aload hx hb dX4_endKindOf_33 (lv_at hl 0 rfl) ?_
            obtain ⟨j95, hj95⟩ := pG_0 (cy := cy) (N := N) (T := T) (I := I) (Q := Q) (J := J) hTb89.1 hTb89.2
            refine va_get (D := (dC, dI)) (ci := 0) (v := .int (I b89 1)) (C := RX0) (T := TX0) (N := 8) hx hb hts hi0 hown hK hP j95 hj95 rfl 1 (by decide) (hts (.fieldLink RX4 82 "TallyLogs$Entry" "kind" "I") (by decide +kernel)) (fun _ h9 => h9) rfl dX4_endKindOf_35 ?_
            refine lv_topi (fun x96 ex96 => ?_)
            rw [hQz]
            exact W.iret (v := x96) hx hb hr (fun t ht hW => ⟨x96, rfl, trivial, ht⟩) (fun _ h => by cases h) dX4_endKindOf_38
  exact hLP83 _ _ _ (Nat.lt_succ_self _) (lv_sub hl [0, 1, 2, 3] rfl)
set_option maxHeartbeats 4000000 in
set_option maxRecDepth 100000 in
/-- Replica.firstOpen -/
theorem c_X4_firstOpen (l : Launch) (dC : Nat → ClassId) (dI : Nat → Nat → Nat) (cy : Nat → ClassId) (v : Nat → Nat) (L : List Nat) (K N : Nat → Nat) (T : Nat → Nat → Nat) (I : Nat → Nat → Int32) (Q : Nat → Nat → Option Nat) (J : Nat → Nat → Int32) (a : Nat)  (hC : CT v L K N T I Q) (ha : a ∈ L) (hk : K a = 4) : Met l yX4_firstOpen wsX4_firstOpen ({ frames := 3, cells := 0, slots := 0, locals := 67 }) (va_Pc [.ref a] (pB dC dI cy L (pF cy K N T I Q J))) (vp_Si (fun r => True)) 0 0 (fun _ => False) := by
  refine Met.ofW (cc := cX4_firstOpen) (maxL := 3) (ret := (some .int)) (by decide) rfl ?_
  intro p e s m args below meth c s₁ B hml hv
  obtain ⟨rfl, hP, hK, hN⟩ := hv
  have hx := B.exec
  have hb := B.bytes
  have hr := B.returns
  have hts := atoms_spec (ws := wsX4_firstOpen) B.pre
  have hown : s.vm.findClass RX4 = some m.cls := findClass_of_methodNamed B.named
  have hlocks := B.notSynchronized
  have hi4 : ∀ w ∈ wsX40, w ∈ wsX4_firstOpen := by decide +kernel
  have hi0 : ∀ w ∈ wsX00, w ∈ wsX4_firstOpen := by decide +kernel
  have hl := lv_entry ([.ref a]) (n := 3) (Nat.le_of_ble_eq_true rfl)
  rw [lg_entry_eq]
  generalize (lg_sl ([.ref a]) ++ List.replicate (3 - (lg_sl ([.ref a])).length) Slot.unset).toArray = ls at hl ⊢
  have hl : lv_has ls 3 [(0, .ref a)] := hl
  have hn28 := hN.1
  have hn30 := hN.2.1
  have hn37 := hN.2.2.1
  refine lv_aload_n hx hb dX4_firstOpen_0 rfl (lv_at hl 0 rfl) ?_
  obtain ⟨j97, hj97⟩ := pG_4 (cy := cy) (N := N) (T := T) (I := I) (Q := Q) (J := J) ha hk
  refine va_get (D := (dC, dI)) (ci := 4) (v := .int (I a 1)) (C := RX4) (T := TX4) (N := 7) hx hb hts hi4 hown hK hP j97 hj97 rfl 1 (by decide) (hts (.fieldLink RX4 17 "TallyLogs$Replica" "start" "I") (by decide +kernel)) (fun _ h9 => h9) rfl dX4_firstOpen_1 ?_
  refine lv_topi (fun x98 ex98 => ?_)
  refine lv_istore_n (lv' := [(1, .int x98), (0, .ref a)]) hx hb dX4_firstOpen_4 rfl hl (by decide) rfl (fun ls hl => ?_)
  refine wq_gen (fun Qz hQz => ?_)
  have hLP100 : ∀ (n : Nat) (y99 : Int32) (ls : Array Slot), ((I a 2).toInt - y99.toInt).toNat < n → lv_has ls 3 [(1, .int y99), (0, .ref a)] → W p l e (headSpec wsX4_firstOpen ({ frames := 3, cells := 0, slots := 0, locals := 67 })).room s m ([.ref a] : List Value).toArray below meth c s.heap [] 0 0 Qz (F0 m 5 ls []) := by
    intro n
    induction n with
    | zero => intro y99 ls hms; exact absurd hms (Nat.not_lt_zero _)
    | succ n ih =>
      intro y99 ls hms hl
      refine lv_iload_n hx hb dX4_firstOpen_5 rfl (lv_at hl 0 rfl) ?_
      refine lv_aload_n hx hb dX4_firstOpen_6 rfl (lv_at hl 1 rfl) ?_
      obtain ⟨j101, hj101⟩ := pG_4 (cy := cy) (N := N) (T := T) (I := I) (Q := Q) (J := J) ha hk
      refine va_get (D := (dC, dI)) (ci := 4) (v := .int (I a 2)) (C := RX4) (T := TX4) (N := 7) hx hb hts hi4 hown hK hP j101 hj101 rfl 2 (by decide) (hts (.fieldLink RX4 21 "TallyLogs$Replica" "end" "I") (by decide +kernel)) (fun _ h9 => h9) rfl dX4_firstOpen_7 ?_
      refine lv_topi (fun x102 ex102 => ?_)
      refine lv_icmp_ge (tgt := 47) hx hb dX4_firstOpen_10 (by decide) (fun c103 => ?_) (fun c103 => ?_)
      · refine lv_aload_n hx hb dX4_firstOpen_47 rfl (lv_at hl 1 rfl) ?_
        obtain ⟨j104, hj104⟩ := pG_4 (cy := cy) (N := N) (T := T) (I := I) (Q := Q) (J := J) ha hk
        refine va_get (D := (dC, dI)) (ci := 4) (v := .int (I a 2)) (C := RX4) (T := TX4) (N := 7) hx hb hts hi4 hown hK hP j104 hj104 rfl 2 (by decide) (hts (.fieldLink RX4 21 "TallyLogs$Replica" "end" "I") (by decide +kernel)) (fun _ h9 => h9) rfl dX4_firstOpen_48 ?_
        refine lv_topi (fun x105 ex105 => ?_)
        rw [hQz]
        exact W.iret (v := x105) hx hb hr (fun t ht hW => ⟨x105, rfl, trivial, ht⟩) (fun _ h => by cases h) dX4_firstOpen_51
      · refine lv_aload_n hx hb dX4_firstOpen_13 rfl (lv_at hl 1 rfl) ?_
        refine lv_iload_n hx hb dX4_firstOpen_14 rfl (lv_at hl 0 rfl) ?_
        obtain ⟨j107, hj107⟩ := pG_4 (cy := cy) (N := N) (T := T) (I := I) (Q := Q) (J := J) ha hk
        refine va_csq (W.runV (As := [.int y99]) (rest := []) ⟨hx, hb, hml, hown, hts⟩ (c_X4_entryAt l dC dI cy v L K N T I Q J a y99 hC ha hk) (cwV 1 hts gX4_firstOpen_X4_entryAt rfl rfl rfl (by decide +kernel) ⟨Nat.le_of_ble_eq_true rfl, Nat.le_of_ble_eq_true rfl⟩) ⟨pb_blind, va_recv hK hP (ci := 4) (q0 := j107) rfl hj107, fun U hU hW => ⟨rfl, pb_pre hP hK hN hU hW⟩⟩ rfl rfl hl.1 rfl (lv_room (Nat.le_of_ble_eq_true rfl)) dX4_firstOpen_15 ⟨Nat.le_of_ble_eq_true rfl, Nat.le_of_ble_eq_true rfl⟩) (fun r106 hr106 => ?_)
        cases r106 with
        | none =>
          refine W.eq (g2 := F0 m 18 ls [.null]) rfl ?_
          refine lv_astore_nN (lv' := [(2, .null), (1, .int y99), (0, .ref a)]) hx hb dX4_firstOpen_18 rfl hl (by decide) rfl (fun ls hl => ?_)
          refine lv_aload_nN hx hb dX4_firstOpen_19 rfl (lv_at hl 0 rfl) ?_
          refine lv_ifnullN (tgt := 41) hx hb dX4_firstOpen_20 (by decide) ?_
          obtain ⟨v109, ev109⟩ : ∃ y : Int32, y = y99 + Int32.ofInt 1 := ⟨_, rfl⟩
          refine lv_iinc (v := v109) (lv' := [(1, .int v109), (2, .null), (0, .ref a)]) hx hb dX4_firstOpen_41 hl (k := 1) rfl ev109.symm (by decide) rfl (fun ls hl => ?_)
          refine lv_goto (tgt := 5) hx hb dX4_firstOpen_44 (by decide) ?_
          exact ih _ _ (by have kc := c103; rw [ex102] at kc; simp only [xk_le, xk_lt] at kc; have h9 := xinc (x := y99) (y := I a 2) (by rw [xk_lt]; omega); rw [ev109, show y99 + Int32.ofInt 1 = y99 + 1 from rfl, h9]; omega) (lv_sub hl [0, 2] rfl)
        | some b108 =>
          have hTb108 := hr106 b108 rfl
          refine W.eq (g2 := F0 m 18 ls [.ref b108]) rfl ?_
          refine lv_astore_n (lv' := [(2, .ref b108), (1, .int y99), (0, .ref a)]) hx hb dX4_firstOpen_18 rfl hl (by decide) rfl (fun ls hl => ?_)
          refine lv_aload_n hx hb dX4_firstOpen_19 rfl (lv_at hl 0 rfl) ?_
          refine lv_ifnull hx hb dX4_firstOpen_20 ?_
          refine lv_aload_n hx hb dX4_firstOpen_23 rfl (lv_at hl 0 rfl) ?_
          obtain ⟨j110, hj110⟩ := pG_0 (cy := cy) (N := N) (T := T) (I := I) (Q := Q) (J := J) hTb108.1 hTb108.2
          refine va_get (D := (dC, dI)) (ci := 0) (v := .int (I b108 7)) (C := RX0) (T := TX0) (N := 8) hx hb hts hi0 hown hK hP j110 hj110 rfl 7 (by decide) (hts (.fieldLink RX4 85 "TallyLogs$Entry" "bound" "Z") (by decide +kernel)) (fun _ h9 => h9) rfl dX4_firstOpen_24 ?_
          refine lv_topi (fun x111 ex111 => ?_)
          refine lv_if_eq (tgt := 41) hx hb dX4_firstOpen_27 (by decide) (fun c112 => ?_) (fun c112 => ?_)
          · obtain ⟨v113, ev113⟩ : ∃ y : Int32, y = y99 + Int32.ofInt 1 := ⟨_, rfl⟩
            refine lv_iinc (v := v113) (lv' := [(1, .int v113), (2, .ref b108), (0, .ref a)]) hx hb dX4_firstOpen_41 hl (k := 1) rfl ev113.symm (by decide) rfl (fun ls hl => ?_)
            refine lv_goto (tgt := 5) hx hb dX4_firstOpen_44 (by decide) ?_
            exact ih _ _ (by have kc := c103; rw [ex102] at kc; simp only [xk_le, xk_lt] at kc; have h9 := xinc (x := y99) (y := I a 2) (by rw [xk_lt]; omega); rw [ev113, show y99 + Int32.ofInt 1 = y99 + 1 from rfl, h9]; omega) (lv_sub hl [0, 2] rfl)
          · refine lv_aload_n hx hb dX4_firstOpen_30 rfl (lv_at hl 2 rfl) ?_
            refine lv_aload_n hx hb dX4_firstOpen_31 rfl (lv_at hl 0 rfl) ?_
            refine lv_iload_n hx hb dX4_firstOpen_32 rfl (lv_at hl 1 rfl) ?_
            obtain ⟨j115, hj115⟩ := pG_4 (cy := cy) (N := N) (T := T) (I := I) (Q := Q) (J := J) ha hk
            refine vp_callSi (W.runV (As := [.ref b108, .int y99]) (rest := []) ⟨hx, hb, hml, hown, hts⟩ (c_X4_endKindOf l dC dI cy v L K N T I Q J a b108 y99 hC ha hk hTb108.1 hTb108.2) (cwV 2 hts gX4_firstOpen_X4_endKindOf rfl rfl rfl (by decide +kernel) ⟨Nat.le_of_ble_eq_true rfl, Nat.le_of_ble_eq_true rfl⟩) ⟨pb_blind, va_recv hK hP (ci := 4) (q0 := j115) rfl hj115, fun U hU hW => ⟨rfl, pb_pre hP hK hN hU hW⟩⟩ rfl rfl hl.1 rfl (lv_room (Nat.le_of_ble_eq_true rfl)) dX4_firstOpen_33 ⟨Nat.le_of_ble_eq_true rfl, Nat.le_of_ble_eq_true rfl⟩) (fun r114 hr114 => ?_)
            refine lv_if_ne (tgt := 41) hx hb dX4_firstOpen_36 (by decide) (fun c116 => ?_) (fun c116 => ?_)
            · obtain ⟨v117, ev117⟩ : ∃ y : Int32, y = y99 + Int32.ofInt 1 := ⟨_, rfl⟩
              refine lv_iinc (v := v117) (lv' := [(1, .int v117), (2, .ref b108), (0, .ref a)]) hx hb dX4_firstOpen_41 hl (k := 1) rfl ev117.symm (by decide) rfl (fun ls hl => ?_)
              refine lv_goto (tgt := 5) hx hb dX4_firstOpen_44 (by decide) ?_
              exact ih _ _ (by have kc := c103; rw [ex102] at kc; simp only [xk_le, xk_lt] at kc; have h9 := xinc (x := y99) (y := I a 2) (by rw [xk_lt]; omega); rw [ev117, show y99 + Int32.ofInt 1 = y99 + 1 from rfl, h9]; omega) (lv_sub hl [0, 2] rfl)
            · refine lv_iload_n hx hb dX4_firstOpen_39 rfl (lv_at hl 1 rfl) ?_
              rw [hQz]
              exact W.iret (v := y99) hx hb hr (fun t ht hW => ⟨y99, rfl, trivial, ht⟩) (fun _ h => by cases h) dX4_firstOpen_40
  exact hLP100 _ _ _ (Nat.lt_succ_self _) (lv_sub hl [0, 1] rfl)
