set_option maxHeartbeats 4000000 in
set_option maxRecDepth 100000 in
/-- flush -/
theorem c_X7_flush (l : Launch) (dC : Nat → ClassId) (dI : Nat → Nat → Nat) (cy : Nat → ClassId) (w : Nat → Nat) (L : List Nat) (K N : Nat → Nat) (T : Nat → Nat → Nat) (Q : Nat → Nat → Option Nat) (I J : Nat → Nat → Int32) (sz : Nat) (E : Int) (xn : Int32) (xp : Int32) (hM : MS w L K N T Q) (hI : MI w E I J) (hE : E ≤ 1000) : Met l yX7_flush wsX7_flush ({ frames := 3, cells := 0, slots := 0, locals := 74 }) (va_Pc [.ref (w 0), .int xn, .int xp] (mW dC dI cy L (wF cy K N T I Q J) sz)) (va_Qi (fun (r : Int32) (d : (Nat → Nat → Int32) × (Nat → Nat → Int32)) => MI w (E + 5) d.1 d.2 ∧ RM w [] I J d.1 d.2) (fun (d : (Nat → Nat → Int32) × (Nat → Nat → Int32)) t => va_P (dC, dI) vwCl (va_pl L (wF cy K N T d.1 Q d.2)) t.heap ∧ va_K (dC, dI) vwCl (mTy cy) t ∧ va_D (va_A (va_pl L (wF cy K N T I Q J)) sz) (va_pl L (wF cy K N T d.1 Q d.2))) (va_A (va_pl L (wF cy K N T I Q J)) sz)) 0 0 (va_A (va_pl L (wF cy K N T I Q J)) sz) := by
  refine Met.ofW (cc := cX7_flush) (maxL := 5) (ret := (some .int)) (by decide) rfl ?_
  intro p e s m args below meth c s₁ B hml hv
  obtain ⟨rfl, hsz, ⟨hP, hK⟩, hD0⟩ := hv
  have hx := B.exec
  have hb := B.bytes
  have hr := B.returns
  have hts := atoms_spec (ws := wsX7_flush) B.pre
  have hown : s.vm.findClass RX7 = some m.cls := findClass_of_methodNamed B.named
  have hlocks := B.notSynchronized
  have hi7 : ∀ w ∈ wsX70, w ∈ wsX7_flush := by decide +kernel
  have hi6 : ∀ w ∈ wsX60, w ∈ wsX7_flush := by decide +kernel
  have hl := lv_entry ([.ref (w 0), .int xn, .int xp]) (n := 5) (Nat.le_of_ble_eq_true rfl)
  rw [lg_entry_eq]
  generalize (lg_sl ([.ref (w 0), .int xn, .int xp]) ++ List.replicate (5 - (lg_sl ([.ref (w 0), .int xn, .int xp])).length) Slot.unset).toArray = ls at hl ⊢
  have hl : lv_has ls 5 [(0, .ref (w 0)), (1, .int xn), (2, .int xp)] := hl
  subst hsz
  have hD := hD0.self (sz := s.heap.size)
  generalize hAe : va_A (va_pl L (wF cy K N T I Q J)) s.heap.size = A at hD ⊢
  have hA : ∀ q : Nat, s.heap.size ≤ q → A q := fun q h => by rw [← hAe]; exact Or.inr h
  have hS : va_S A s.heap s.heap [] := va_S.rf
  have hR : RM w [] I J I J := RM.rf
  obtain ⟨hML, hMD, hMU⟩ := hI
  refine lv_aload_n hx hb dX7_flush_0 rfl (lv_at hl 0 rfl) ?_
  refine lv_iload_n hx hb dX7_flush_1 rfl (lv_at hl 1 rfl) ?_
  refine lv_iload_n hx hb dX7_flush_2 rfl (lv_at hl 2 rfl) ?_
  obtain ⟨j557, hj557⟩ := wG_7 (cy := cy) (N := N) (T := T) (I := I) (Q := Q) (J := J) (hM.at 0 (by decide)) (hM.k 0 (by decide) rfl)
  refine vp_callSi (W.runV (As := [.int xn, .int xp]) (rest := []) ⟨hx, hb, hml, hown, hts⟩ (c_X7_isReplica l dC dI cy w L K N T Q I J xn xp hM) (cwV 2 hts gX7_flush_X7_isReplica rfl rfl rfl (by decide +kernel) ⟨Nat.le_of_ble_eq_true rfl, Nat.le_of_ble_eq_true rfl⟩) ⟨mb_blind, va_recv hK hP (ci := 7) (q0 := j557) rfl hj557, fun U hU hW => ⟨rfl, mb_pre hP hK hU hW⟩⟩ rfl rfl hl.1 rfl (lv_room (Nat.le_of_ble_eq_true rfl)) dX7_flush_3 ⟨Nat.le_of_ble_eq_true rfl, Nat.le_of_ble_eq_true rfl⟩) (fun r556 hr556 => ?_)
  refine lv_if_eq (tgt := 17) hx hb dX7_flush_6 (by decide) (fun c558 => ?_) (fun c558 => ?_)
  · have kc558 : r556.toInt = 0 := by have h9 := c558; rw [xk_eq, xk_0] at h9; exact h9
    refine lv_iconst (v := (-1)) hx hb dX7_flush_17 (by decide) ?_
    exact W.iret (v := (-1)) hx hb hr (fun t ht hW => ⟨⟨(-1), (I, J), rfl, ⟨⟨hML.mono (by omega), hMD, hMU⟩, hR⟩, by rw [ht]; exact hP, va_K.moved hW.alike hK, hD⟩, hS.F ht⟩) hS.2.2 dX7_flush_18
  · have hrp559 := hr556.resolve_left c558
    have kc558 : ¬ (r556.toInt = 0) := by have h9 := c558; rw [xk_eq, xk_0] at h9; exact h9
    refine lv_aload_n hx hb dX7_flush_9 rfl (lv_at hl 0 rfl) ?_
    refine lv_iload_n hx hb dX7_flush_10 rfl (lv_at hl 1 rfl) ?_
    obtain ⟨j561, hj561⟩ := wG_7 (cy := cy) (N := N) (T := T) (I := I) (Q := Q) (J := J) (hM.at 0 (by decide)) (hM.k 0 (by decide) rfl)
    refine vp_callSi (W.runV (As := [.int xn]) (rest := []) ⟨hx, hb, hml, hown, hts⟩ (c_X7_isUp l dC dI cy w L K N T Q I J xn hM) (cwV 1 hts gX7_flush_X7_isUp rfl rfl rfl (by decide +kernel) ⟨Nat.le_of_ble_eq_true rfl, Nat.le_of_ble_eq_true rfl⟩) ⟨mb_blind, va_recv hK hP (ci := 7) (q0 := j561) rfl hj561, fun U hU hW => ⟨rfl, mb_pre hP hK hU hW⟩⟩ rfl rfl hl.1 rfl (lv_room (Nat.le_of_ble_eq_true rfl)) dX7_flush_11 ⟨Nat.le_of_ble_eq_true rfl, Nat.le_of_ble_eq_true rfl⟩) (fun r560 hr560 => ?_)
    refine lv_if_ne (tgt := 19) hx hb dX7_flush_14 (by decide) (fun c562 => ?_) (fun c562 => ?_)
    · have hup563 := sp_iu1 (by rw [← hr560]; exact c562)
      have kc562 : ¬ (r560.toInt = 0) := by have h9 := c562; rw [xk_eq, xk_0] at h9; exact h9
      refine lv_aload_n hx hb dX7_flush_19 rfl (lv_at hl 0 rfl) ?_
      obtain ⟨j564, hj564⟩ := wG_7 (cy := cy) (N := N) (T := T) (I := I) (Q := Q) (J := J) (hM.at 0 (by decide)) (hM.k 0 (by decide) rfl)
      refine va_get (D := (dC, dI)) (ci := 7) (v := .ref (T (w 0) 0)) (C := RX7) (T := TX7) (N := 18) hx hb hts hi7 hown hK hP j564 hj564 rfl 0 (by decide) (hts (.fieldLink RX7 11 "TallyLogsModel" "log" "[[LTallyLogsModel$Log;") (by decide +kernel)) (fun _ h9 => h9) rfl dX7_flush_20 ?_
      refine W.eq (g2 := F0 m 23 ls [.ref (w 1)]) (by rw [hM.t 0 (by decide)]) ?_
      refine lv_iload_n hx hb dX7_flush_23 rfl (lv_at hl 2 rfl) ?_
      obtain ⟨j565, hj565⟩ := wG_22 (cy := cy) (N := N) (T := T) (I := I) (Q := Q) (J := J) (hM.at 1 (by decide)) (hM.k 1 (by decide) rfl)
      refine xg_aldg hx hb hK hP j565 2 hj565 rfl hrp559.1 dX7_flush_24 ?_
      refine W.eq (g2 := F0 m 25 ls [.ref (w (17 + xp.toNatClampNeg))]) (by rw [hM.qo (vp_lt (n := 4) hrp559.1)]; rfl) ?_
      refine lv_iload_n hx hb dX7_flush_25 rfl (lv_at hl 1 rfl) ?_
      obtain ⟨j566, hj566⟩ := wG_23 (cy := cy) (N := N) (T := T) (I := I) (Q := Q) (J := J) (hM.row (vp_lt (n := 4) hrp559.1)).1 (hM.row (vp_lt (n := 4) hrp559.1)).2
      refine va_aldq hx hb hK hP j566 3 hj566 rfl hup563.1 dX7_flush_26 ?_
      have hjl567 : (5 * xp.toNatClampNeg + xn.toNatClampNeg) < 20 := by have h1 := (vp_lt (n := 4) hrp559.1); have h2 := (vp_lt (n := 5) hup563.1); omega
      refine W.eq (g2 := F0 m 27 ls [.ref (w (21 + (5 * xp.toNatClampNeg + xn.toNatClampNeg)))]) (by rw [hM.qr (vp_lt (n := 4) hrp559.1) (vp_lt (n := 5) hup563.1)]; rfl) ?_
      obtain ⟨ha568, hb568, hc568, hd568, he568, hf568⟩ := hML (5 * xp.toNatClampNeg + xn.toNatClampNeg) hjl567
      refine lv_astore_n (lv' := [(3, .ref (w (21 + (5 * xp.toNatClampNeg + xn.toNatClampNeg)))), (0, .ref (w 0)), (1, .int xn), (2, .int xp)]) hx hb dX7_flush_27 rfl hl (by decide) rfl (fun ls hl => ?_)
      refine lv_aload_n hx hb dX7_flush_28 rfl (lv_at hl 0 rfl) ?_
      obtain ⟨j569, hj569⟩ := wG_6 (cy := cy) (N := N) (T := T) (I := I) (Q := Q) (J := J) (hM.lg hjl567).1 (hM.lg hjl567).2
      refine va_get (D := (dC, dI)) (ci := 6) (v := .int (I (w (21 + (5 * xp.toNatClampNeg + xn.toNatClampNeg))) 2)) (C := RX6) (T := TX6) (N := 7) hx hb hts hi6 hown hK hP j569 hj569 rfl 2 (by decide) (hts (.fieldLink RX7 89 "TallyLogsModel$Log" "end" "I") (by decide +kernel)) (fun _ h9 => h9) rfl dX7_flush_29 ?_
      refine lv_topi (fun x570 ex570 => ?_)
      have tx570 : x570.toInt = (I (w (21 + (5 * xp.toNatClampNeg + xn.toNatClampNeg))) 2).toInt := congrArg Int32.toInt ex570
      refine lv_aload_n hx hb dX7_flush_32 rfl (lv_at hl 0 rfl) ?_
      obtain ⟨j571, hj571⟩ := wG_6 (cy := cy) (N := N) (T := T) (I := I) (Q := Q) (J := J) (hM.lg hjl567).1 (hM.lg hjl567).2
      refine va_get (D := (dC, dI)) (ci := 6) (v := .int (I (w (21 + (5 * xp.toNatClampNeg + xn.toNatClampNeg))) 4)) (C := RX6) (T := TX6) (N := 7) hx hb hts hi6 hown hK hP j571 hj571 rfl 4 (by decide) (hts (.fieldLink RX7 158 "TallyLogsModel$Log" "flushed" "I") (by decide +kernel)) (fun _ h9 => h9) rfl dX7_flush_33 ?_
      refine lv_topi (fun x572 ex572 => ?_)
      have tx572 : x572.toInt = (I (w (21 + (5 * xp.toNatClampNeg + xn.toNatClampNeg))) 4).toInt := congrArg Int32.toInt ex572
      refine lv_isub hx hb dX7_flush_36 ?_
      refine lv_topi (fun v573 ev573 => ?_)
      refine lv_istore (lv' := [(4, .int v573), (3, .ref (w (21 + (5 * xp.toNatClampNeg + xn.toNatClampNeg)))), (0, .ref (w 0)), (1, .int xn), (2, .int xp)]) hx hb dX7_flush_37 hl (by decide) rfl (fun ls hl => ?_)
      refine lv_aload_n hx hb dX7_flush_39 rfl (lv_at hl 1 rfl) ?_
      refine lv_aload_n hx hb dX7_flush_40 rfl (lv_at hl 1 rfl) ?_
      obtain ⟨j574, hj574⟩ := wG_6 (cy := cy) (N := N) (T := T) (I := I) (Q := Q) (J := J) (hM.lg hjl567).1 (hM.lg hjl567).2
      refine va_get (D := (dC, dI)) (ci := 6) (v := .int (I (w (21 + (5 * xp.toNatClampNeg + xn.toNatClampNeg))) 2)) (C := RX6) (T := TX6) (N := 7) hx hb hts hi6 hown hK hP j574 hj574 rfl 2 (by decide) (hts (.fieldLink RX7 89 "TallyLogsModel$Log" "end" "I") (by decide +kernel)) (fun _ h9 => h9) rfl dX7_flush_41 ?_
      refine lv_topi (fun x575 ex575 => ?_)
      have tx575 : x575.toInt = (I (w (21 + (5 * xp.toNatClampNeg + xn.toNatClampNeg))) 2).toInt := congrArg Int32.toInt ex575
      obtain ⟨j576, hj576⟩ := wG_6 (cy := cy) (N := N) (T := T) (I := I) (Q := Q) (J := J) (hM.lg hjl567).1 (hM.lg hjl567).2
      have hDo := hD
      refine va_put (D := (dC, dI)) (ci := 6) (v := .int x575) (ty := .int) (C := RX6) (T := TX6) (N := 7) hx hb hts hi6 tyX6 tyX6_ok nmX6 hown hK hP hD hS j576 hj576 rfl 4 (by decide) (hts (.fieldLink RX7 158 "TallyLogsModel$Log" "flushed" "I") (by decide +kernel)) (fun _ h9 => h9) rfl (by decide +kernel) rfl rfl (Nat.le_of_ble_eq_true rfl) dX7_flush_44 (fun H locs hP hD hS => ?_)
      have hP := Eq.mp (congrArg (fun w => va_P (dC, dI) vwCl w H) (wP_6_4 (x := x575) hDo (hM.lg hjl567).1 (hM.lg hjl567).2 hj576)) hP
      obtain ⟨I577, eI577⟩ : ∃ z, z = p2 I (w (21 + (5 * xp.toNatClampNeg + xn.toNatClampNeg))) 4 x575 := ⟨_, rfl⟩
      rw [← eI577] at hP
      have hD : va_D A (va_pl L (wF cy K N T I577 Q J)) := pD hDo
      have hR : RM w [] I J I577 J := by rw [eI577]; exact hR.pl hM hjl567
      have hMU : MU w I577 := by rw [eI577]; exact hMU.pl hM hjl567
      have q578_1 : (I577 (w (21 + (5 * xp.toNatClampNeg + xn.toNatClampNeg))) 1).toInt = (I (w (21 + (5 * xp.toNatClampNeg + xn.toNatClampNeg))) 1).toInt := by rw [eI577, p2_ne _ _ (fun q => absurd q.2 (by decide))]
      have q578_2 : (I577 (w (21 + (5 * xp.toNatClampNeg + xn.toNatClampNeg))) 2).toInt = (I (w (21 + (5 * xp.toNatClampNeg + xn.toNatClampNeg))) 2).toInt := by rw [eI577, p2_ne _ _ (fun q => absurd q.2 (by decide))]
      have q578_3 : (I577 (w (21 + (5 * xp.toNatClampNeg + xn.toNatClampNeg))) 3).toInt = (I (w (21 + (5 * xp.toNatClampNeg + xn.toNatClampNeg))) 3).toInt := by rw [eI577, p2_ne _ _ (fun q => absurd q.2 (by decide))]
      have q578_4 : (I577 (w (21 + (5 * xp.toNatClampNeg + xn.toNatClampNeg))) 4).toInt = x575.toInt := by rw [eI577, p2_at]
      have hML : ML w E I577 := hML.of (j := (5 * xp.toNatClampNeg + xn.toNatClampNeg)) (fun i hi q => by have hj9 := hjl567; rw [eI577, p2_na _ _ (hM.ne (by omega) (by omega) (by omega))]) ⟨by omega, by omega, by omega, by omega, by omega, by omega⟩ (by omega)
      refine lv_iload hx hb dX7_flush_47 (lv_at hl 0 rfl) ?_
      exact W.iret (v := v573) hx hb hr (fun t ht hW => ⟨⟨v573, (I577, J), rfl, ⟨⟨hML.mono (by omega), hMD, hMU⟩, hR⟩, by rw [ht]; exact hP, va_K.moved hW.alike hK, hD⟩, hS.F ht⟩) hS.2.2 dX7_flush_49
    · have kc562 : r560.toInt = 0 := by have h9 := c562; rw [xk_eq, xk_0] at h9; exact h9
      refine lv_iconst (v := (-1)) hx hb dX7_flush_17 (by decide) ?_
      exact W.iret (v := (-1)) hx hb hr (fun t ht hW => ⟨⟨(-1), (I, J), rfl, ⟨⟨hML.mono (by omega), hMD, hMU⟩, hR⟩, by rw [ht]; exact hP, va_K.moved hW.alike hK, hD⟩, hS.F ht⟩) hS.2.2 dX7_flush_18
set_option maxHeartbeats 4000000 in
set_option maxRecDepth 100000 in
/-- trim -/
theorem c_X7_trim (l : Launch) (dC : Nat → ClassId) (dI : Nat → Nat → Nat) (cy : Nat → ClassId) (w : Nat → Nat) (L : List Nat) (K N : Nat → Nat) (T : Nat → Nat → Nat) (Q : Nat → Nat → Option Nat) (I J : Nat → Nat → Int32) (sz : Nat) (E : Int) (xp : Int32) (xo : Int32) (hM : MS w L K N T Q) (hI : MI w E I J) (hE : E ≤ 1000) : Met l yX7_trim wsX7_trim ({ frames := 3, cells := 0, slots := 0, locals := 73 }) (va_Pc [.ref (w 0), .int xp, .int xo] (mW dC dI cy L (wF cy K N T I Q J) sz)) (va_Qi (fun (r : Int32) (d : (Nat → Nat → Int32) × (Nat → Nat → Int32)) => MI w (E + 5) d.1 d.2 ∧ RM w [] I J d.1 d.2) (fun (d : (Nat → Nat → Int32) × (Nat → Nat → Int32)) t => va_P (dC, dI) vwCl (va_pl L (wF cy K N T d.1 Q d.2)) t.heap ∧ va_K (dC, dI) vwCl (mTy cy) t ∧ va_D (va_A (va_pl L (wF cy K N T I Q J)) sz) (va_pl L (wF cy K N T d.1 Q d.2))) (va_A (va_pl L (wF cy K N T I Q J)) sz)) 0 0 (va_A (va_pl L (wF cy K N T I Q J)) sz) := by
  refine Met.ofW (cc := cX7_trim) (maxL := 4) (ret := (some .int)) (by decide) rfl ?_
  intro p e s m args below meth c s₁ B hml hv
  obtain ⟨rfl, hsz, ⟨hP, hK⟩, hD0⟩ := hv
  have hx := B.exec
  have hb := B.bytes
  have hr := B.returns
  have hts := atoms_spec (ws := wsX7_trim) B.pre
  have hown : s.vm.findClass RX7 = some m.cls := findClass_of_methodNamed B.named
  have hlocks := B.notSynchronized
  have hi7 : ∀ w ∈ wsX70, w ∈ wsX7_trim := by decide +kernel
  have hi6 : ∀ w ∈ wsX60, w ∈ wsX7_trim := by decide +kernel
  have hl := lv_entry ([.ref (w 0), .int xp, .int xo]) (n := 4) (Nat.le_of_ble_eq_true rfl)
  rw [lg_entry_eq]
  generalize (lg_sl ([.ref (w 0), .int xp, .int xo]) ++ List.replicate (4 - (lg_sl ([.ref (w 0), .int xp, .int xo])).length) Slot.unset).toArray = ls at hl ⊢
  have hl : lv_has ls 4 [(0, .ref (w 0)), (1, .int xp), (2, .int xo)] := hl
  subst hsz
  have hD := hD0.self (sz := s.heap.size)
  generalize hAe : va_A (va_pl L (wF cy K N T I Q J)) s.heap.size = A at hD ⊢
  have hA : ∀ q : Nat, s.heap.size ≤ q → A q := fun q h => by rw [← hAe]; exact Or.inr h
  have hS : va_S A s.heap s.heap [] := va_S.rf
  have hR : RM w [] I J I J := RM.rf
  obtain ⟨hML, hMD, hMU⟩ := hI
  refine lv_aload_n hx hb dX7_trim_0 rfl (lv_at hl 0 rfl) ?_
  refine lv_iload_n hx hb dX7_trim_1 rfl (lv_at hl 1 rfl) ?_
  obtain ⟨j580, hj580⟩ := wG_7 (cy := cy) (N := N) (T := T) (I := I) (Q := Q) (J := J) (hM.at 0 (by decide)) (hM.k 0 (by decide) rfl)
  refine vp_callSi (W.runV (As := [.int xp]) (rest := []) ⟨hx, hb, hml, hown, hts⟩ (c_X7_isThere l dC dI cy w L K N T Q I J xp hM) (cwV 1 hts gX7_trim_X7_isThere rfl rfl rfl (by decide +kernel) ⟨Nat.le_of_ble_eq_true rfl, Nat.le_of_ble_eq_true rfl⟩) ⟨mb_blind, va_recv hK hP (ci := 7) (q0 := j580) rfl hj580, fun U hU hW => ⟨rfl, mb_pre hP hK hU hW⟩⟩ rfl rfl hl.1 rfl (lv_room (Nat.le_of_ble_eq_true rfl)) dX7_trim_2 ⟨Nat.le_of_ble_eq_true rfl, Nat.le_of_ble_eq_true rfl⟩) (fun r579 hr579 => ?_)
  refine lv_if_ne (tgt := 10) hx hb dX7_trim_5 (by decide) (fun c581 => ?_) (fun c581 => ?_)
  · have hth582 := sp_it1 (by rw [← hr579]; exact c581)
    have kc581 : ¬ (r579.toInt = 0) := by have h9 := c581; rw [xk_eq, xk_0] at h9; exact h9
    refine lv_aload_n hx hb dX7_trim_10 rfl (lv_at hl 0 rfl) ?_
    refine lv_iload_n hx hb dX7_trim_11 rfl (lv_at hl 1 rfl) ?_
    obtain ⟨j584, hj584⟩ := wG_7 (cy := cy) (N := N) (T := T) (I := I) (Q := Q) (J := J) (hM.at 0 (by decide)) (hM.k 0 (by decide) rfl)
    refine va_csq (W.runV (As := [.int xp]) (rest := []) ⟨hx, hb, hml, hown, hts⟩ (c_X7_own l dC dI cy w L K N T Q I J xp hM hth582.1) (cwV 1 hts gX7_trim_X7_own rfl rfl rfl (by decide +kernel) ⟨Nat.le_of_ble_eq_true rfl, Nat.le_of_ble_eq_true rfl⟩) ⟨mb_blind, va_recv hK hP (ci := 7) (q0 := j584) rfl hj584, fun U hU hW => ⟨rfl, mb_pre hP hK hU hW⟩⟩ rfl rfl hl.1 rfl (lv_room (Nat.le_of_ble_eq_true rfl)) dX7_trim_12 ⟨Nat.le_of_ble_eq_true rfl, Nat.le_of_ble_eq_true rfl⟩) (fun r583 hr583 => ?_)
    subst hr583
    rcases sp_ow_cs w (I (w 0) 16) (J (w 4) xp.toNatClampNeg) xp.toNatClampNeg with hon585 | ⟨n585, hnn585, eln585, hubn585, hon585⟩
    · refine W.eq (g2 := F0 m 15 ls [.null]) (by rw [hon585]; rfl) ?_
      refine lv_astore_nN (lv' := [(3, .null), (0, .ref (w 0)), (1, .int xp), (2, .int xo)]) hx hb dX7_trim_15 rfl hl (by decide) rfl (fun ls hl => ?_)
      refine lv_aload_nN hx hb dX7_trim_16 rfl (lv_at hl 0 rfl) ?_
      refine lv_ifnonnullN hx hb dX7_trim_17 ?_
      refine lv_bipush (v := (-2)) hx hb dX7_trim_20 (by decide) ?_
      exact W.iret (v := (-2)) hx hb hr (fun t ht hW => ⟨⟨(-2), (I, J), rfl, ⟨⟨hML.mono (by omega), hMD, hMU⟩, hR⟩, by rw [ht]; exact hP, va_K.moved hW.alike hK, hD⟩, hS.F ht⟩) hS.2.2 dX7_trim_22
    · have hjn585 : (5 * xp.toNatClampNeg + n585) < 20 := by have h1 := vp_lt (n := 4) hth582.1; omega
      refine W.eq (g2 := F0 m 15 ls [.ref (w (21 + (5 * xp.toNatClampNeg + n585)))]) (by rw [hon585]; rfl) ?_
      refine lv_astore_n (lv' := [(3, .ref (w (21 + (5 * xp.toNatClampNeg + n585)))), (0, .ref (w 0)), (1, .int xp), (2, .int xo)]) hx hb dX7_trim_15 rfl hl (by decide) rfl (fun ls hl => ?_)
      refine lv_aload_n hx hb dX7_trim_16 rfl (lv_at hl 0 rfl) ?_
      refine lv_ifnonnull (tgt := 23) hx hb dX7_trim_17 (by decide) ?_
      obtain ⟨ha586, hb586, hc586, hd586, he586, hf586⟩ := hML (5 * xp.toNatClampNeg + n585) hjn585
      refine lv_iload_n hx hb dX7_trim_23 rfl (lv_at hl 3 rfl) ?_
      refine lv_i2l (v := xo.toInt64) hx hb dX7_trim_24 rfl ?_
      refine lv_aload_n hx hb dX7_trim_25 rfl (lv_at hl 0 rfl) ?_
      obtain ⟨j587, hj587⟩ := wG_6 (cy := cy) (N := N) (T := T) (I := I) (Q := Q) (J := J) (hM.lg hjn585).1 (hM.lg hjn585).2
      refine va_get (D := (dC, dI)) (ci := 6) (v := .int (I (w (21 + (5 * xp.toNatClampNeg + n585))) 1)) (C := RX6) (T := TX6) (N := 7) hx hb hts hi6 hown hK hP j587 hj587 rfl 1 (by decide) (hts (.fieldLink RX7 134 "TallyLogsModel$Log" "start" "I") (by decide +kernel)) (fun _ h9 => h9) rfl dX7_trim_26 ?_
      refine lv_topi (fun x588 ex588 => ?_)
      have tx588 : x588.toInt = (I (w (21 + (5 * xp.toNatClampNeg + n585))) 1).toInt := congrArg Int32.toInt ex588
      refine lv_i2l (v := x588.toInt64) hx hb dX7_trim_29 rfl ?_
      refine lv_aload_n hx hb dX7_trim_30 rfl (lv_at hl 0 rfl) ?_
      obtain ⟨j589, hj589⟩ := wG_6 (cy := cy) (N := N) (T := T) (I := I) (Q := Q) (J := J) (hM.lg hjn585).1 (hM.lg hjn585).2
      refine va_get (D := (dC, dI)) (ci := 6) (v := .int (I (w (21 + (5 * xp.toNatClampNeg + n585))) 3)) (C := RX6) (T := TX6) (N := 7) hx hb hts hi6 hown hK hP j589 hj589 rfl 3 (by decide) (hts (.fieldLink RX7 109 "TallyLogsModel$Log" "high" "I") (by decide +kernel)) (fun _ h9 => h9) rfl dX7_trim_31 ?_
      refine lv_topi (fun x590 ex590 => ?_)
      have tx590 : x590.toInt = (I (w (21 + (5 * xp.toNatClampNeg + n585))) 3).toInt := congrArg Int32.toInt ex590
      refine lv_i2l (v := x590.toInt64) hx hb dX7_trim_34 rfl ?_
      refine vp_callSi (W.runS (As := [.long xo.toInt64, .long x588.toInt64, .long x590.toInt64]) (rest := []) ⟨hx, hb, hml, hown, hts⟩ (c_X7_in l xo.toInt64 x588.toInt64 x590.toInt64) (va_cwS 3 hts gX7_trim_X7_in rfl rfl rfl (by decide +kernel) ⟨Nat.le_of_ble_eq_true rfl, Nat.le_of_ble_eq_true rfl⟩) preEq rfl rfl hl.1 rfl (lv_room (Nat.le_of_ble_eq_true rfl)) dX7_trim_35 ⟨Nat.le_of_ble_eq_true rfl, Nat.le_of_ble_eq_true rfl⟩) (fun r591 hr591 => ?_)
      subst hr591
      refine lv_if_ne (tgt := 43) hx hb dX7_trim_38 (by decide) (fun c592 => ?_) (fun c592 => ?_)
      · have hbt593 := xin_s2 c592
        refine lv_aload_n hx hb dX7_trim_43 rfl (lv_at hl 0 rfl) ?_
        refine lv_iload_n hx hb dX7_trim_44 rfl (lv_at hl 3 rfl) ?_
        obtain ⟨j594, hj594⟩ := wG_6 (cy := cy) (N := N) (T := T) (I := I) (Q := Q) (J := J) (hM.lg hjn585).1 (hM.lg hjn585).2
        have hFc := pfree hD hS hA
        refine va_callv (va_runV (As := [.int xo]) (rest := []) ⟨hx, hb, hml, hown, hts⟩ (c_X6_from l dC dI cy w L K N T Q I J s.heap.size (5 * xp.toNatClampNeg + n585) xo hM hjn585 (by omega) (by omega) (by omega)) (cwV 1 hts gX7_trim_X6_from rfl rfl rfl (by decide +kernel) ⟨Nat.le_of_ble_eq_true rfl, Nat.le_of_ble_eq_true rfl⟩) ⟨mw_blind, va_recv hK hP (ci := 6) (q0 := j594) rfl hj594, fun U hU hW => ⟨rfl, mw_pre hP hK hD hU hW⟩⟩ rfl rfl hl.1 rfl (lv_room (Nat.le_of_ble_eq_true rfl)) dX7_trim_45 ⟨Nat.le_of_ble_eq_true rfl, Nat.le_of_ble_eq_true rfl⟩) hS (fun q _ h => hFc q h) hFc (fun d9 t H1 locs ht hvm hw hB hz1 hk1 hS => ?_)
        obtain ⟨I595, J595⟩ := d9
        obtain ⟨hP, hK1, hD1⟩ := hB
        rw [ht] at hP
        have hD := hD1.weaken (fun _ _ _ h => hFc _ h)
        generalize H1 = H at hP hS ⊢
        have hP : va_P (dC, dI) vwCl (va_pl L (wF cy K N T I595 Q J595)) H := hP
        have hD : va_D A (va_pl L (wF cy K N T I595 Q J595)) := hD
        have hw597 : LW w I J I595 J595 (5 * xp.toNatClampNeg + n585) _ _ := hw
        have hR : RM w [] I J I595 J595 := hR.lw hM hjn585 hw597
        have hMD : MD w J595 := hMD.lw hM hjn585 hw597
        have hMU : MU w I595 := hMU.lw hM hjn585 hw597
        have q1hw597 : (I595 (w (21 + (5 * xp.toNatClampNeg + n585))) 1).toInt = _ := hw597.2.2.1
        have q2hw597 : (I595 (w (21 + (5 * xp.toNatClampNeg + n585))) 2).toInt = _ := hw597.2.2.2
        have q3hw597 : (I595 (w (21 + (5 * xp.toNatClampNeg + n585))) 3).toInt = _ := congrArg Int32.toInt hw597.f3
        have q4hw597 : (I595 (w (21 + (5 * xp.toNatClampNeg + n585))) 4).toInt = _ := congrArg Int32.toInt hw597.f4
        refine lv_aload_n hx hb dX7_trim_48 rfl (lv_at hl 0 rfl) ?_
        refine lv_aload_n hx hb dX7_trim_49 rfl (lv_at hl 0 rfl) ?_
        obtain ⟨j598, hj598⟩ := wG_6 (cy := cy) (N := N) (T := T) (I := I595) (Q := Q) (J := J595) (hM.lg hjn585).1 (hM.lg hjn585).2
        refine va_get (D := (dC, dI)) (ci := 6) (v := .int (I595 (w (21 + (5 * xp.toNatClampNeg + n585))) 4)) (C := RX6) (T := TX6) (N := 7) hx hb hts hi6 hown hK hP j598 hj598 rfl 4 (by decide) (hts (.fieldLink RX7 158 "TallyLogsModel$Log" "flushed" "I") (by decide +kernel)) (fun _ h9 => h9) rfl dX7_trim_50 ?_
        refine lv_topi (fun x599 ex599 => ?_)
        have tx599 : x599.toInt = (I595 (w (21 + (5 * xp.toNatClampNeg + n585))) 4).toInt := congrArg Int32.toInt ex599
        refine lv_aload_n hx hb dX7_trim_53 rfl (lv_at hl 0 rfl) ?_
        obtain ⟨j600, hj600⟩ := wG_6 (cy := cy) (N := N) (T := T) (I := I595) (Q := Q) (J := J595) (hM.lg hjn585).1 (hM.lg hjn585).2
        refine va_get (D := (dC, dI)) (ci := 6) (v := .int (I595 (w (21 + (5 * xp.toNatClampNeg + n585))) 1)) (C := RX6) (T := TX6) (N := 7) hx hb hts hi6 hown hK hP j600 hj600 rfl 1 (by decide) (hts (.fieldLink RX7 134 "TallyLogsModel$Log" "start" "I") (by decide +kernel)) (fun _ h9 => h9) rfl dX7_trim_54 ?_
        refine lv_topi (fun x601 ex601 => ?_)
        have tx601 : x601.toInt = (I595 (w (21 + (5 * xp.toNatClampNeg + n585))) 1).toInt := congrArg Int32.toInt ex601
        refine va_mmax hx hb (by rw [hml]; exact hl.1.symm) hown (hts (.methodLink RX7 155 Lib.Math.max.name) (by decide +kernel)) (hts (.static Lib.Math.max.name) (by decide +kernel)) (hts (.initialized "java/lang/Math") (by decide +kernel)) (hts _ (List.mem_of_getElem? (i := 7) rfl)) (Nat.le_of_ble_eq_true rfl) (Nat.le_of_ble_eq_true rfl) (Nat.le_of_ble_eq_true rfl) (Nat.le_of_ble_eq_true rfl) dX7_trim_57 ?_
        refine lv_topi (fun z602 ez602 => ?_)
        have tz602 : z602.toInt = max x599.toInt x601.toInt := (xmax_t ez602)
        obtain ⟨j603, hj603⟩ := wG_6 (cy := cy) (N := N) (T := T) (I := I595) (Q := Q) (J := J595) (hM.lg hjn585).1 (hM.lg hjn585).2
        have hDo := hD
        refine va_put (D := (dC, dI)) (ci := 6) (v := .int z602) (ty := .int) (C := RX6) (T := TX6) (N := 7) hx hb hts hi6 tyX6 tyX6_ok nmX6 hown hK hP hD hS j603 hj603 rfl 4 (by decide) (hts (.fieldLink RX7 158 "TallyLogsModel$Log" "flushed" "I") (by decide +kernel)) (fun _ h9 => h9) rfl (by decide +kernel) rfl rfl (Nat.le_of_ble_eq_true rfl) dX7_trim_60 (fun H locs hP hD hS => ?_)
        have hP := Eq.mp (congrArg (fun w => va_P (dC, dI) vwCl w H) (wP_6_4 (x := z602) hDo (hM.lg hjn585).1 (hM.lg hjn585).2 hj603)) hP
        obtain ⟨I604, eI604⟩ : ∃ z, z = p2 I595 (w (21 + (5 * xp.toNatClampNeg + n585))) 4 z602 := ⟨_, rfl⟩
        rw [← eI604] at hP
        have hD : va_D A (va_pl L (wF cy K N T I604 Q J595)) := pD hDo
        have hR : RM w [] I J I604 J595 := by rw [eI604]; exact hR.pl hM hjn585
        have hMU : MU w I604 := by rw [eI604]; exact hMU.pl hM hjn585
        have q605_1 : (I604 (w (21 + (5 * xp.toNatClampNeg + n585))) 1).toInt = (I595 (w (21 + (5 * xp.toNatClampNeg + n585))) 1).toInt := by rw [eI604, p2_ne _ _ (fun q => absurd q.2 (by decide))]
        have q605_2 : (I604 (w (21 + (5 * xp.toNatClampNeg + n585))) 2).toInt = (I595 (w (21 + (5 * xp.toNatClampNeg + n585))) 2).toInt := by rw [eI604, p2_ne _ _ (fun q => absurd q.2 (by decide))]
        have q605_3 : (I604 (w (21 + (5 * xp.toNatClampNeg + n585))) 3).toInt = (I595 (w (21 + (5 * xp.toNatClampNeg + n585))) 3).toInt := by rw [eI604, p2_ne _ _ (fun q => absurd q.2 (by decide))]
        have q605_4 : (I604 (w (21 + (5 * xp.toNatClampNeg + n585))) 4).toInt = z602.toInt := by rw [eI604, p2_at]
        have hML : ML w E I604 := hML.of (j := (5 * xp.toNatClampNeg + n585)) (fun i hi q => by have hj9 := hjn585; rw [eI604, p2_na _ _ (hM.ne (by omega) (by omega) (by omega))]; exact funext fun f => hw597.other hM hjn585 hi q) ⟨by omega, by omega, by omega, by omega, by omega, by omega⟩ (by omega)
        refine lv_aload_n hx hb dX7_trim_63 rfl (lv_at hl 0 rfl) ?_
        obtain ⟨j607, hj607⟩ := wG_6 (cy := cy) (N := N) (T := T) (I := I604) (Q := Q) (J := J595) (hM.lg hjn585).1 (hM.lg hjn585).2
        refine vp_callSi (W.runV (As := []) (rest := []) ⟨hx, hb, hml, hown, hts⟩ (c_X6_many l dC dI cy w L K N T Q I604 J595 (5 * xp.toNatClampNeg + n585) hM hjn585) (cwV 0 hts gX7_trim_X6_many rfl rfl rfl (by decide +kernel) ⟨Nat.le_of_ble_eq_true rfl, Nat.le_of_ble_eq_true rfl⟩) ⟨mb_blind, va_recv hK hP (ci := 6) (q0 := j607) rfl hj607, fun U hU hW => ⟨rfl, mb_pre hP hK hU hW⟩⟩ rfl rfl hl.1 rfl (lv_room (Nat.le_of_ble_eq_true rfl)) dX7_trim_64 ⟨Nat.le_of_ble_eq_true rfl, Nat.le_of_ble_eq_true rfl⟩) (fun r606 hr606 => ?_)
        exact W.iret (v := r606) hx hb hr (fun t ht hW => ⟨⟨r606, (I604, J595), rfl, ⟨⟨hML.mono (by omega), hMD, hMU⟩, hR⟩, by rw [ht]; exact hP, va_K.moved hW.alike hK, hD⟩, hS.F ht⟩) hS.2.2 dX7_trim_67
      · refine lv_iconst (v := (-1)) hx hb dX7_trim_41 (by decide) ?_
        exact W.iret (v := (-1)) hx hb hr (fun t ht hW => ⟨⟨(-1), (I, J), rfl, ⟨⟨hML.mono (by omega), hMD, hMU⟩, hR⟩, by rw [ht]; exact hP, va_K.moved hW.alike hK, hD⟩, hS.F ht⟩) hS.2.2 dX7_trim_42
  · have kc581 : r579.toInt = 0 := by have h9 := c581; rw [xk_eq, xk_0] at h9; exact h9
    refine lv_iconst (v := (-1)) hx hb dX7_trim_8 (by decide) ?_
    exact W.iret (v := (-1)) hx hb hr (fun t ht hW => ⟨⟨(-1), (I, J), rfl, ⟨⟨hML.mono (by omega), hMD, hMU⟩, hR⟩, by rw [ht]; exact hP, va_K.moved hW.alike hK, hD⟩, hS.F ht⟩) hS.2.2 dX7_trim_9
set_option maxHeartbeats 4000000 in
set_option maxRecDepth 100000 in
/-- restart -/
theorem c_X7_restart (l : Launch) (dC : Nat → ClassId) (dI : Nat → Nat → Nat) (cy : Nat → ClassId) (w : Nat → Nat) (L : List Nat) (K N : Nat → Nat) (T : Nat → Nat → Nat) (Q : Nat → Nat → Option Nat) (I J : Nat → Nat → Int32) (sz : Nat) (E : Int) (xn : Int32) (hM : MS w L K N T Q) (hI : MI w E I J) (hE : E ≤ 1000) : Met l yX7_restart wsX7_restart ({ frames := 2, cells := 0, slots := 0, locals := 50 }) (va_Pc [.ref (w 0), .int xn] (mW dC dI cy L (wF cy K N T I Q J) sz)) (va_Qi (fun (r : Int32) (d : (Nat → Nat → Int32) × (Nat → Nat → Int32)) => MI w (E + 5) d.1 d.2 ∧ (∀ k, (k = 2 ∨ k = 8 ∨ k = 13 ∨ k = 14 ∨ k = 15) → d.2 (w k) = J (w k)) ∧ d.1 (w 0) 16 = sp_ru (I (w 0) 16) xn ∧ r = sp_rr (I (w 0) 16) xn) (fun (d : (Nat → Nat → Int32) × (Nat → Nat → Int32)) t => va_P (dC, dI) vwCl (va_pl L (wF cy K N T d.1 Q d.2)) t.heap ∧ va_K (dC, dI) vwCl (mTy cy) t ∧ va_D (va_A (va_pl L (wF cy K N T I Q J)) sz) (va_pl L (wF cy K N T d.1 Q d.2))) (va_A (va_pl L (wF cy K N T I Q J)) sz)) 0 0 (va_A (va_pl L (wF cy K N T I Q J)) sz) := by
  refine Met.ofW (cc := cX7_restart) (maxL := 3) (ret := (some .int)) (by decide) rfl ?_
  intro p e s m args below meth c s₁ B hml hv
  obtain ⟨rfl, hsz, ⟨hP, hK⟩, hD0⟩ := hv
  have hx := B.exec
  have hb := B.bytes
  have hr := B.returns
  have hts := atoms_spec (ws := wsX7_restart) B.pre
  have hown : s.vm.findClass RX7 = some m.cls := findClass_of_methodNamed B.named
  have hlocks := B.notSynchronized
  have hi7 : ∀ w ∈ wsX70, w ∈ wsX7_restart := by decide +kernel
  have hi6 : ∀ w ∈ wsX60, w ∈ wsX7_restart := by decide +kernel
  have hl := lv_entry ([.ref (w 0), .int xn]) (n := 3) (Nat.le_of_ble_eq_true rfl)
  rw [lg_entry_eq]
  generalize (lg_sl ([.ref (w 0), .int xn]) ++ List.replicate (3 - (lg_sl ([.ref (w 0), .int xn])).length) Slot.unset).toArray = ls at hl ⊢
  have hl : lv_has ls 3 [(0, .ref (w 0)), (1, .int xn)] := hl
  subst hsz
  have hD := hD0.self (sz := s.heap.size)
  generalize hAe : va_A (va_pl L (wF cy K N T I Q J)) s.heap.size = A at hD ⊢
  have hA : ∀ q : Nat, s.heap.size ≤ q → A q := fun q h => by rw [← hAe]; exact Or.inr h
  have hS : va_S A s.heap s.heap [] := va_S.rf
  have hR : RM w [] I J I J := RM.rf
  obtain ⟨hML, hMD, hMU⟩ := hI
  refine lv_iload_n hx hb dX7_restart_0 rfl (lv_at hl 1 rfl) ?_
  refine lv_i2l (v := xn.toInt64) hx hb dX7_restart_1 rfl ?_
  refine lv_lconst (v := 0) hx hb dX7_restart_2 (by decide) ?_
  refine lv_ldc2 hx hb hown (hts (.constantLong RX7 74 4) (by decide +kernel)) dX7_restart_3 ?_
  refine vp_callSi (W.runS (As := [.long xn.toInt64, .long 0, .long 4]) (rest := []) ⟨hx, hb, hml, hown, hts⟩ (c_X7_in l xn.toInt64 0 4) (va_cwS 3 hts gX7_restart_X7_in rfl rfl rfl (by decide +kernel) ⟨Nat.le_of_ble_eq_true rfl, Nat.le_of_ble_eq_true rfl⟩) preEq rfl rfl hl.1 rfl (lv_room (Nat.le_of_ble_eq_true rfl)) dX7_restart_6 ⟨Nat.le_of_ble_eq_true rfl, Nat.le_of_ble_eq_true rfl⟩) (fun r608 hr608 => ?_)
  subst hr608
  refine lv_if_eq (tgt := 20) hx hb dX7_restart_9 (by decide) (fun c609 => ?_) (fun c609 => ?_)
  · refine lv_iconst (v := (-1)) hx hb dX7_restart_20 (by decide) ?_
    exact W.iret (v := (-1)) hx hb hr (fun t ht hW => ⟨⟨(-1), (I, J), rfl, ⟨⟨hML.mono (by omega), hMD, hMU⟩, fun k hk => rfl, (by show _ = _; have kc609 := (sp_in_0 xn 0 4).mp c609; simp only [xk_eq, Int32.toInt_toInt64, xk_lt, xk_le, xk_0, xk_1, xk_2, xk_3, xk_4, xk_5, xk_6, xk_7, xk_8, xk_50, xl_0, xl_1, xl_3, xl_4, xl_5, xl_6, xl_7, xl_50] at kc609; unfold sp_ru; rw [if_neg (fun q => by omega)]), (by show _ = _; have kc609 := (sp_in_0 xn 0 4).mp c609; simp only [xk_eq, Int32.toInt_toInt64, xk_lt, xk_le, xk_0, xk_1, xk_2, xk_3, xk_4, xk_5, xk_6, xk_7, xk_8, xk_50, xl_0, xl_1, xl_3, xl_4, xl_5, xl_6, xl_7, xl_50] at kc609; unfold sp_rr; rw [if_neg (fun q => by omega)])⟩, by rw [ht]; exact hP, va_K.moved hW.alike hK, hD⟩, hS.F ht⟩) hS.2.2 dX7_restart_21
  · have hin610 : vp_in xn 5 := xin_sp c609 (by decide)
    refine lv_aload_n hx hb dX7_restart_12 rfl (lv_at hl 0 rfl) ?_
    refine lv_iload_n hx hb dX7_restart_13 rfl (lv_at hl 1 rfl) ?_
    obtain ⟨j612, hj612⟩ := wG_7 (cy := cy) (N := N) (T := T) (I := I) (Q := Q) (J := J) (hM.at 0 (by decide)) (hM.k 0 (by decide) rfl)
    refine vp_callSi (W.runV (As := [.int xn]) (rest := []) ⟨hx, hb, hml, hown, hts⟩ (c_X7_isUp l dC dI cy w L K N T Q I J xn hM) (cwV 1 hts gX7_restart_X7_isUp rfl rfl rfl (by decide +kernel) ⟨Nat.le_of_ble_eq_true rfl, Nat.le_of_ble_eq_true rfl⟩) ⟨mb_blind, va_recv hK hP (ci := 7) (q0 := j612) rfl hj612, fun U hU hW => ⟨rfl, mb_pre hP hK hU hW⟩⟩ rfl rfl hl.1 rfl (lv_room (Nat.le_of_ble_eq_true rfl)) dX7_restart_14 ⟨Nat.le_of_ble_eq_true rfl, Nat.le_of_ble_eq_true rfl⟩) (fun r611 hr611 => ?_)
    refine lv_if_eq (tgt := 22) hx hb dX7_restart_17 (by decide) (fun c613 => ?_) (fun c613 => ?_)
    · have kc613 : r611.toInt = 0 := by have h9 := c613; rw [xk_eq, xk_0] at h9; exact h9
      refine lv_aload_n hx hb dX7_restart_22 rfl (lv_at hl 0 rfl) ?_
      refine lv_dup hx hb dX7_restart_23 rfl ?_
      obtain ⟨j614, hj614⟩ := wG_7 (cy := cy) (N := N) (T := T) (I := I) (Q := Q) (J := J) (hM.at 0 (by decide)) (hM.k 0 (by decide) rfl)
      refine va_get (D := (dC, dI)) (ci := 7) (v := .int (I (w 0) 16)) (C := RX7) (T := TX7) (N := 18) hx hb hts hi7 hown hK hP j614 hj614 rfl 16 (by decide) (hts (.fieldLink RX7 61 "TallyLogsModel" "up" "I") (by decide +kernel)) (fun _ h9 => h9) rfl dX7_restart_24 ?_
      refine lv_topi (fun x615 ex615 => ?_)
      have tx615 : x615.toInt = (I (w 0) 16).toInt := congrArg Int32.toInt ex615
      refine lv_iconst (v := 1) hx hb dX7_restart_27 (by decide) ?_
      refine lv_iload_n hx hb dX7_restart_28 rfl (lv_at hl 1 rfl) ?_
      refine lv_ishl hx hb dX7_restart_29 ?_
      refine lv_topi (fun v616 ev616 => ?_)
      refine lv_ior hx hb dX7_restart_30 ?_
      refine lv_topi (fun v617 ev617 => ?_)
      obtain ⟨j618, hj618⟩ := wG_7 (cy := cy) (N := N) (T := T) (I := I) (Q := Q) (J := J) (hM.at 0 (by decide)) (hM.k 0 (by decide) rfl)
      have hDo := hD
      refine va_put (D := (dC, dI)) (ci := 7) (v := .int v617) (ty := .int) (C := RX7) (T := TX7) (N := 18) hx hb hts hi7 tyX7 tyX7_ok nmX7 hown hK hP hD hS j618 hj618 rfl 16 (by decide) (hts (.fieldLink RX7 61 "TallyLogsModel" "up" "I") (by decide +kernel)) (fun _ h9 => h9) rfl (by decide +kernel) rfl rfl (Nat.le_of_ble_eq_true rfl) dX7_restart_31 (fun H locs hP hD hS => ?_)
      have hP := Eq.mp (congrArg (fun w => va_P (dC, dI) vwCl w H) (wP_7_16 (x := v617) hDo (hM.at 0 (by decide)) (hM.k 0 (by decide) rfl) hj618)) hP
      obtain ⟨I619, eI619⟩ : ∃ z, z = p2 I (w 0) 16 v617 := ⟨_, rfl⟩
      rw [← eI619] at hP
      have hD : va_D A (va_pl L (wF cy K N T I619 Q J)) := pD hDo
      have hMU : MU w I619 := by
        obtain ⟨u9, hu9, eu9⟩ := (show ∃ u : Nat, u < 32 ∧ v617 = nI u by rw [ev617, ex615, ev616]; exact xu_or hMU hin610)
        exact ⟨u9, hu9, by rw [eI619, p2_at]; exact eu9⟩
      have hR : RM w [] I619 J I619 J := RM.rf
      have hML : ML w E I619 := by rw [eI619]; exact hML.pm hM
      refine lv_iconst (v := 0) hx hb dX7_restart_34 (by decide) ?_
      refine lv_istore_n (lv' := [(2, .int 0), (0, .ref (w 0)), (1, .int xn)]) hx hb dX7_restart_35 rfl hl (by decide) rfl (fun ls hl => ?_)
      refine wq_gen (fun Qz hQz => ?_)
      have hLP620 : ∀ (n : Nat) (y621 : Int32) (Ia620 Ja620 : Nat → Nat → Int32) (H : Heap) (locs : List Loc) (ls : Array Slot), (4 - y621.toInt).toNat < n → 0 ≤ y621.toInt → (True) → RM w [] I619 J Ia620 Ja620 → ML w E Ia620 → MD w Ja620 → MU w Ia620 →  va_P (dC, dI) vwCl (va_pl L (wF cy K N T Ia620 Q Ja620)) H → va_D A (va_pl L (wF cy K N T Ia620 Q Ja620)) → va_S A s.heap H locs → lv_has ls 3 [(2, .int y621), (0, .ref (w 0)), (1, .int xn)] → W p l e (headSpec wsX7_restart ({ frames := 2, cells := 0, slots := 0, locals := 50 })).room s m ([.ref (w 0), .int xn] : List Value).toArray below meth c H locs 0 0 Qz (F0 m 36 ls []) := by
        intro n
        induction n with
        | zero => intro y621 Ia620 Ja620 H locs ls hms; exact absurd hms (Nat.not_lt_zero _)
        | succ n ih620 =>
          intro y621 Ia620 Ja620 H locs ls hms hnn620 hiv620 hR hML hMD hMU hP hD hS hl
          refine lv_iload_n hx hb dX7_restart_36 rfl (lv_at hl 0 rfl) ?_
          refine lv_iconst (v := 4) hx hb dX7_restart_37 (by decide) ?_
          refine lv_icmp_ge (tgt := 59) hx hb dX7_restart_38 (by decide) (fun c622 => ?_) (fun c622 => ?_)
          · have kc622 : 4 ≤ y621.toInt := by have h9 := c622; rw [xk_le, xk_4] at h9; exact h9
            refine lv_iconst (v := 0) hx hb dX7_restart_59 (by decide) ?_
            rw [hQz]
            exact W.iret (v := 0) hx hb hr (fun t ht hW => ⟨⟨0, (Ia620, Ja620), rfl, ⟨⟨hML.mono (by omega), hMD, hMU⟩, fun k hk => hR.2 k hk (by simp), (by show Ia620 (w 0) 16 = _; have kc609 := (not_congr (sp_in_0 xn 0 4)).mp c609; simp only [xk_eq, Int32.toInt_toInt64, xk_lt, xk_le, xk_0, xk_1, xk_2, xk_3, xk_4, xk_5, xk_6, xk_7, xk_8, xk_50, xl_0, xl_1, xl_3, xl_4, xl_5, xl_6, xl_7, xl_50] at kc609; rw [hR.1, eI619, p2_at, ev617, ex615, ev616]; unfold sp_ru; rw [if_pos ⟨by omega, by omega⟩, if_pos (hr611.symm.trans c613)]), (by show _ = _; have kc609 := (not_congr (sp_in_0 xn 0 4)).mp c609; simp only [xk_eq, Int32.toInt_toInt64, xk_lt, xk_le, xk_0, xk_1, xk_2, xk_3, xk_4, xk_5, xk_6, xk_7, xk_8, xk_50, xl_0, xl_1, xl_3, xl_4, xl_5, xl_6, xl_7, xl_50] at kc609; unfold sp_rr; rw [if_pos ⟨by omega, by omega⟩, if_pos (hr611.symm.trans c613)])⟩, by rw [ht]; exact hP, va_K.moved hW.alike hK, hD⟩, hS.F ht⟩) hS.2.2 dX7_restart_60
          · have kc622 : ¬ (4 ≤ y621.toInt) := by have h9 := c622; rw [xk_le, xk_4] at h9; exact h9
            refine lv_aload_n hx hb dX7_restart_41 rfl (lv_at hl 1 rfl) ?_
            obtain ⟨j623, hj623⟩ := wG_7 (cy := cy) (N := N) (T := T) (I := Ia620) (Q := Q) (J := Ja620) (hM.at 0 (by decide)) (hM.k 0 (by decide) rfl)
            refine va_get (D := (dC, dI)) (ci := 7) (v := .ref (T (w 0) 0)) (C := RX7) (T := TX7) (N := 18) hx hb hts hi7 hown hK hP j623 hj623 rfl 0 (by decide) (hts (.fieldLink RX7 11 "TallyLogsModel" "log" "[[LTallyLogsModel$Log;") (by decide +kernel)) (fun _ h9 => h9) rfl dX7_restart_42 ?_
            refine W.eq (g2 := F0 m 45 ls [.ref (w 1)]) (by rw [hM.t 0 (by decide)]) ?_
            refine lv_iload_n hx hb dX7_restart_45 rfl (lv_at hl 0 rfl) ?_
            obtain ⟨j624, hj624⟩ := wG_22 (cy := cy) (N := N) (T := T) (I := Ia620) (Q := Q) (J := Ja620) (hM.at 1 (by decide)) (hM.k 1 (by decide) rfl)
            refine xg_aldg hx hb hK hP j624 2 hj624 rfl (xin_of hnn620 (by have kc := c622; simp only [xk_lt, xk_le, xk_0, xk_1, xk_2, xk_3, xk_4, xk_5, xk_6, xk_7, xk_8, xk_50] at kc; omega)) dX7_restart_46 ?_
            refine W.eq (g2 := F0 m 47 ls [.ref (w (17 + y621.toNatClampNeg))]) (by rw [hM.qo (vp_lt (n := 4) (xin_of hnn620 (by have kc := c622; simp only [xk_lt, xk_le, xk_0, xk_1, xk_2, xk_3, xk_4, xk_5, xk_6, xk_7, xk_8, xk_50] at kc; omega)))]; rfl) ?_
            refine lv_iload_n hx hb dX7_restart_47 rfl (lv_at hl 2 rfl) ?_
            obtain ⟨j625, hj625⟩ := wG_23 (cy := cy) (N := N) (T := T) (I := Ia620) (Q := Q) (J := Ja620) (hM.row (vp_lt (n := 4) (xin_of hnn620 (by have kc := c622; simp only [xk_lt, xk_le, xk_0, xk_1, xk_2, xk_3, xk_4, xk_5, xk_6, xk_7, xk_8, xk_50] at kc; omega)))).1 (hM.row (vp_lt (n := 4) (xin_of hnn620 (by have kc := c622; simp only [xk_lt, xk_le, xk_0, xk_1, xk_2, xk_3, xk_4, xk_5, xk_6, xk_7, xk_8, xk_50] at kc; omega)))).2
            refine va_aldq hx hb hK hP j625 3 hj625 rfl hin610 dX7_restart_48 ?_
            have hjl626 : (5 * y621.toNatClampNeg + xn.toNatClampNeg) < 20 := by have h1 := (vp_lt (n := 4) (xin_of hnn620 (by have kc := c622; simp only [xk_lt, xk_le, xk_0, xk_1, xk_2, xk_3, xk_4, xk_5, xk_6, xk_7, xk_8, xk_50] at kc; omega))); have h2 := (vp_lt (n := 5) hin610); omega
            refine W.eq (g2 := F0 m 49 ls [.ref (w (21 + (5 * y621.toNatClampNeg + xn.toNatClampNeg)))]) (by rw [hM.qr (vp_lt (n := 4) (xin_of hnn620 (by have kc := c622; simp only [xk_lt, xk_le, xk_0, xk_1, xk_2, xk_3, xk_4, xk_5, xk_6, xk_7, xk_8, xk_50] at kc; omega))) (vp_lt (n := 5) hin610)]; rfl) ?_
            refine lv_iconst (v := (-1)) hx hb dX7_restart_49 (by decide) ?_
            obtain ⟨j627, hj627⟩ := wG_6 (cy := cy) (N := N) (T := T) (I := Ia620) (Q := Q) (J := Ja620) (hM.lg hjl626).1 (hM.lg hjl626).2
            have hDo := hD
            refine va_put (D := (dC, dI)) (ci := 6) (v := .int (-1)) (ty := .int) (C := RX6) (T := TX6) (N := 7) hx hb hts hi6 tyX6 tyX6_ok nmX6 hown hK hP hD hS j627 hj627 rfl 5 (by decide) (hts (.fieldLink RX7 92 "TallyLogsModel$Log" "known" "I") (by decide +kernel)) (fun _ h9 => h9) rfl (by decide +kernel) rfl rfl (Nat.le_of_ble_eq_true rfl) dX7_restart_50 (fun H locs hP hD hS => ?_)
            have hP := Eq.mp (congrArg (fun w => va_P (dC, dI) vwCl w H) (wP_6_5 (x := (-1)) hDo (hM.lg hjl626).1 (hM.lg hjl626).2 hj627)) hP
            obtain ⟨I628, eI628⟩ : ∃ z, z = p2 Ia620 (w (21 + (5 * y621.toNatClampNeg + xn.toNatClampNeg))) 5 (-1) := ⟨_, rfl⟩
            rw [← eI628] at hP
            have hD : va_D A (va_pl L (wF cy K N T I628 Q Ja620)) := pD hDo
            have hR : RM w [] I619 J I628 Ja620 := by rw [eI628]; exact hR.pl hM hjl626
            have hMU : MU w I628 := by rw [eI628]; exact hMU.pl hM hjl626
            have hML : ML w E I628 := by rw [eI628]; exact hML.p56 hM hjl626 (by decide)
            obtain ⟨v629, ev629⟩ : ∃ y : Int32, y = y621 + Int32.ofInt 1 := ⟨_, rfl⟩
            refine lv_iinc (v := v629) (lv' := [(2, .int v629), (0, .ref (w 0)), (1, .int xn)]) hx hb dX7_restart_53 hl (k := 0) rfl ev629.symm (by decide) rfl (fun ls hl => ?_)
            refine lv_goto (tgt := 36) hx hb dX7_restart_56 (by decide) ?_
            have tv629 : v629.toInt = y621.toInt + 1 := by rw [ev629, show y621 + Int32.ofInt 1 = y621 + 1 from rfl]; exact xinc (y := (4 : Int32)) (by rw [xk_lt, xk_4]; omega)
            exact ih620 _ _ _ _ _ _ (by omega) (by omega) (trivial) hR (hML.mono (by omega)) hMD hMU hP hD hS (lv_sub hl [0, 1, 2] rfl)
      exact hLP620 _ _ _ _ _ _ _ (Nat.lt_succ_self _) (by decide) (trivial) hR (hML.mono (by omega)) hMD hMU hP hD hS (lv_sub hl [0, 1, 2] rfl)
    · have hup630 := sp_iu1 (by rw [← hr611]; exact c613)
      have kc613 : ¬ (r611.toInt = 0) := by have h9 := c613; rw [xk_eq, xk_0] at h9; exact h9
      refine lv_iconst (v := (-1)) hx hb dX7_restart_20 (by decide) ?_
      exact W.iret (v := (-1)) hx hb hr (fun t ht hW => ⟨⟨(-1), (I, J), rfl, ⟨⟨hML.mono (by omega), hMD, hMU⟩, fun k hk => rfl, (by show _ = _; have kc609 := (not_congr (sp_in_0 xn 0 4)).mp c609; simp only [xk_eq, Int32.toInt_toInt64, xk_lt, xk_le, xk_0, xk_1, xk_2, xk_3, xk_4, xk_5, xk_6, xk_7, xk_8, xk_50, xl_0, xl_1, xl_3, xl_4, xl_5, xl_6, xl_7, xl_50] at kc609; unfold sp_ru; rw [if_pos ⟨by omega, by omega⟩, if_neg (fun q => c613 (hr611.trans q))]), (by show _ = _; have kc609 := (not_congr (sp_in_0 xn 0 4)).mp c609; simp only [xk_eq, Int32.toInt_toInt64, xk_lt, xk_le, xk_0, xk_1, xk_2, xk_3, xk_4, xk_5, xk_6, xk_7, xk_8, xk_50, xl_0, xl_1, xl_3, xl_4, xl_5, xl_6, xl_7, xl_50] at kc609; unfold sp_rr; rw [if_pos ⟨by omega, by omega⟩, if_neg (fun q => c613 (hr611.trans q))])⟩, by rw [ht]; exact hP, va_K.moved hW.alike hK, hD⟩, hS.F ht⟩) hS.2.2 dX7_restart_21
