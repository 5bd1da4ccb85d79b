set_option maxHeartbeats 4000000 in
set_option maxRecDepth 100000 in
/-- flush, exactly -/
theorem f_X7_flush (l : Launch) (dC : Nat → ClassId) (dI : Nat → Nat → Nat) (cy : Nat → ClassId) (w : Nat → Nat) (L : List Nat) (K N : Nat → Nat) (T : Nat → Nat → Nat) (Q : Nat → Nat → Option Nat) (I J : Nat → Nat → Int32) (sz : Nat) (E : Int) (xn : Int32) (xp : Int32) (σ : SG) (hM : MS w L K N T Q) (hI : MI w E I J) (hE : E ≤ 1000) (hMR : MR w I J σ) : Met l yX7_flush wsX7_flush ({ frames := 3, cells := 0, slots := 0, locals := 74 }) (va_Pc [.ref (w 0), .int xn, .int xp] (mW dC dI cy L (wF cy K N T I Q J) sz)) (va_Qi (fun (r : Int32) (d : (Nat → Nat → Int32) × (Nat → Nat → Int32)) => MI w (E + 5) d.1 d.2 ∧ MR w d.1 d.2 (qFl σ xn xp).1 ∧ r = (qFl σ xn xp).2) (fun (d : (Nat → Nat → Int32) × (Nat → Nat → Int32)) t => va_P (dC, dI) vwCl (va_pl L (wF cy K N T d.1 Q d.2)) t.heap ∧ va_K (dC, dI) vwCl (mTy cy) t ∧ va_D (va_A (va_pl L (wF cy K N T I Q J)) sz) (va_pl L (wF cy K N T d.1 Q d.2))) (va_A (va_pl L (wF cy K N T I Q J)) sz)) 0 0 (va_A (va_pl L (wF cy K N T I Q J)) sz) := by
  refine Met.ofW (cc := cX7_flush) (maxL := 5) (ret := (some .int)) (by decide) rfl ?_
  intro p e s m args below meth c s₁ B hml hv
  obtain ⟨rfl, hsz, ⟨hP, hK⟩, hD0⟩ := hv
  have hx := B.exec
  have hb := B.bytes
  have hr := B.returns
  have hts := atoms_spec (ws := wsX7_flush) B.pre
  have hown : s.vm.findClass RX7 = some m.cls := findClass_of_methodNamed B.named
  have hlocks := B.notSynchronized
  have hi7 : ∀ w ∈ wsX70, w ∈ wsX7_flush := by decide +kernel
  have hi6 : ∀ w ∈ wsX60, w ∈ wsX7_flush := by decide +kernel
  have hl := lv_entry ([.ref (w 0), .int xn, .int xp]) (n := 5) (Nat.le_of_ble_eq_true rfl)
  rw [lg_entry_eq]
  generalize (lg_sl ([.ref (w 0), .int xn, .int xp]) ++ List.replicate (5 - (lg_sl ([.ref (w 0), .int xn, .int xp])).length) Slot.unset).toArray = ls at hl ⊢
  have hl : lv_has ls 5 [(0, .ref (w 0)), (1, .int xn), (2, .int xp)] := hl
  subst hsz
  have hD := hD0.self (sz := s.heap.size)
  generalize hAe : va_A (va_pl L (wF cy K N T I Q J)) s.heap.size = A at hD ⊢
  have hA : ∀ q : Nat, s.heap.size ≤ q → A q := fun q h => by rw [← hAe]; exact Or.inr h
  have hS : va_S A s.heap s.heap [] := va_S.rf
  have hR : RM w [] I J I J := RM.rf
  obtain ⟨hML, hMD, hMU⟩ := hI
  refine lv_aload_n hx hb dX7_flush_0 rfl (lv_at hl 0 rfl) ?_
  refine lv_iload_n hx hb dX7_flush_1 rfl (lv_at hl 1 rfl) ?_
  refine lv_iload_n hx hb dX7_flush_2 rfl (lv_at hl 2 rfl) ?_
  obtain ⟨j330002, hj330002⟩ := wG_7 (cy := cy) (N := N) (T := T) (I := I) (Q := Q) (J := J) (hM.at 0 (by decide)) (hM.k 0 (by decide) rfl)
  refine vp_callSi (W.runV (As := [.int xn, .int xp]) (rest := []) ⟨hx, hb, hml, hown, hts⟩ (f_X7_isReplica l dC dI cy w L K N T Q I J xn xp hM) (cwV 2 hts gX7_flush_X7_isReplica rfl rfl rfl (by decide +kernel) ⟨Nat.le_of_ble_eq_true rfl, Nat.le_of_ble_eq_true rfl⟩) ⟨mb_blind, va_recv hK hP (ci := 7) (q0 := j330002) rfl hj330002, fun U hU hW => ⟨rfl, mb_pre hP hK hU hW⟩⟩ rfl rfl hl.1 rfl (lv_room (Nat.le_of_ble_eq_true rfl)) dX7_flush_3 ⟨Nat.le_of_ble_eq_true rfl, Nat.le_of_ble_eq_true rfl⟩) (fun r330001 hr330001 => ?_)
  have hir330001 : r330001 = sp_ir (σ.1 2) (σ.1 3) xn xp := hr330001.trans (hMR.ir _ _)
  refine lv_if_eq (tgt := 17) hx hb dX7_flush_6 (by decide) (fun c330003 => ?_) (fun c330003 => ?_)
  · have kc330003 : r330001.toInt = 0 := by have h9 := c330003; rw [xk_eq, xk_0] at h9; exact h9
    refine lv_iconst (v := (-1)) hx hb dX7_flush_17 (by decide) ?_
    exact W.iret (v := (-1)) hx hb hr (fun t ht hW => ⟨⟨(-1), (I, J), rfl, ⟨⟨hML.mono (by omega), hMD, hMU⟩, by have e9 : qFl σ xn xp = (σ, (-1)) := (by rw [qFl, if_pos (by have k9 := c330003; simp only [hir330001] at k9; exact k9)]); show MR w I J _; rw [e9]; exact hMR, by have e9 : qFl σ xn xp = (σ, (-1)) := (by rw [qFl, if_pos (by have k9 := c330003; simp only [hir330001] at k9; exact k9)]); show _ = _; rw [e9]⟩, by rw [ht]; exact hP, va_K.moved hW.alike hK, hD⟩, hS.F ht⟩) hS.2.2 dX7_flush_18
  · have hrp330004 := sp_ir1 (by rw [← hir330001]; exact c330003)
    have kc330003 : ¬ (r330001.toInt = 0) := by have h9 := c330003; rw [xk_eq, xk_0] at h9; exact h9
    refine lv_aload_n hx hb dX7_flush_9 rfl (lv_at hl 0 rfl) ?_
    refine lv_iload_n hx hb dX7_flush_10 rfl (lv_at hl 1 rfl) ?_
    obtain ⟨j330006, hj330006⟩ := wG_7 (cy := cy) (N := N) (T := T) (I := I) (Q := Q) (J := J) (hM.at 0 (by decide)) (hM.k 0 (by decide) rfl)
    refine vp_callSi (W.runV (As := [.int xn]) (rest := []) ⟨hx, hb, hml, hown, hts⟩ (c_X7_isUp l dC dI cy w L K N T Q I J xn hM) (cwV 1 hts gX7_flush_X7_isUp rfl rfl rfl (by decide +kernel) ⟨Nat.le_of_ble_eq_true rfl, Nat.le_of_ble_eq_true rfl⟩) ⟨mb_blind, va_recv hK hP (ci := 7) (q0 := j330006) rfl hj330006, fun U hU hW => ⟨rfl, mb_pre hP hK hU hW⟩⟩ rfl rfl hl.1 rfl (lv_room (Nat.le_of_ble_eq_true rfl)) dX7_flush_11 ⟨Nat.le_of_ble_eq_true rfl, Nat.le_of_ble_eq_true rfl⟩) (fun r330005 hr330005 => ?_)
    have hir330005 : r330005 = sp_iu (σ.1 0 0) xn := hr330005.trans (hMR.iu _)
    refine lv_if_ne (tgt := 19) hx hb dX7_flush_14 (by decide) (fun c330007 => ?_) (fun c330007 => ?_)
    · have hup330008 := sp_iu1 (by rw [← hr330005]; exact c330007)
      have kc330007 : ¬ (r330005.toInt = 0) := by have h9 := c330007; rw [xk_eq, xk_0] at h9; exact h9
      refine lv_aload_n hx hb dX7_flush_19 rfl (lv_at hl 0 rfl) ?_
      obtain ⟨j330009, hj330009⟩ := wG_7 (cy := cy) (N := N) (T := T) (I := I) (Q := Q) (J := J) (hM.at 0 (by decide)) (hM.k 0 (by decide) rfl)
      refine va_get (D := (dC, dI)) (ci := 7) (v := .ref (T (w 0) 0)) (C := RX7) (T := TX7) (N := 18) hx hb hts hi7 hown hK hP j330009 hj330009 rfl 0 (by decide) (hts (.fieldLink RX7 11 "TallyLogsModel" "log" "[[LTallyLogsModel$Log;") (by decide +kernel)) (fun _ h9 => h9) rfl dX7_flush_20 ?_
      refine W.eq (g2 := F0 m 23 ls [.ref (w 1)]) (by rw [hM.t 0 (by decide)]) ?_
      refine lv_iload_n hx hb dX7_flush_23 rfl (lv_at hl 2 rfl) ?_
      obtain ⟨j330010, hj330010⟩ := wG_22 (cy := cy) (N := N) (T := T) (I := I) (Q := Q) (J := J) (hM.at 1 (by decide)) (hM.k 1 (by decide) rfl)
      refine xg_aldg hx hb hK hP j330010 2 hj330010 rfl hrp330004.1.1 dX7_flush_24 ?_
      refine W.eq (g2 := F0 m 25 ls [.ref (w (17 + xp.toNatClampNeg))]) (by rw [hM.qo (vp_lt (n := 4) hrp330004.1.1)]; rfl) ?_
      refine lv_iload_n hx hb dX7_flush_25 rfl (lv_at hl 1 rfl) ?_
      obtain ⟨j330011, hj330011⟩ := wG_23 (cy := cy) (N := N) (T := T) (I := I) (Q := Q) (J := J) (hM.row (vp_lt (n := 4) hrp330004.1.1)).1 (hM.row (vp_lt (n := 4) hrp330004.1.1)).2
      refine va_aldq hx hb hK hP j330011 3 hj330011 rfl hup330008.1 dX7_flush_26 ?_
      have hjl330012 : (5 * xp.toNatClampNeg + xn.toNatClampNeg) < 20 := by have h1 := (vp_lt (n := 4) hrp330004.1.1); have h2 := (vp_lt (n := 5) hup330008.1); omega
      refine W.eq (g2 := F0 m 27 ls [.ref (w (21 + (5 * xp.toNatClampNeg + xn.toNatClampNeg)))]) (by rw [hM.qr (vp_lt (n := 4) hrp330004.1.1) (vp_lt (n := 5) hup330008.1)]; rfl) ?_
      obtain ⟨ha330013, hb330013, hc330013, hd330013, he330013, hf330013⟩ := hML (5 * xp.toNatClampNeg + xn.toNatClampNeg) hjl330012
      refine lv_astore_n (lv' := [(3, .ref (w (21 + (5 * xp.toNatClampNeg + xn.toNatClampNeg)))), (0, .ref (w 0)), (1, .int xn), (2, .int xp)]) hx hb dX7_flush_27 rfl hl (by decide) rfl (fun ls hl => ?_)
      refine lv_aload_n hx hb dX7_flush_28 rfl (lv_at hl 0 rfl) ?_
      obtain ⟨j330014, hj330014⟩ := wG_6 (cy := cy) (N := N) (T := T) (I := I) (Q := Q) (J := J) (hM.lg hjl330012).1 (hM.lg hjl330012).2
      refine va_get (D := (dC, dI)) (ci := 6) (v := .int (I (w (21 + (5 * xp.toNatClampNeg + xn.toNatClampNeg))) 2)) (C := RX6) (T := TX6) (N := 7) hx hb hts hi6 hown hK hP j330014 hj330014 rfl 2 (by decide) (hts (.fieldLink RX7 89 "TallyLogsModel$Log" "end" "I") (by decide +kernel)) (fun _ h9 => h9) rfl dX7_flush_29 ?_
      refine lv_topi (fun x330015 ex330015 => ?_)
      have sx330015 : x330015 = σ.2.1 (5 * xp.toNatClampNeg + xn.toNatClampNeg) 2 := ex330015.trans (hMR.g hjl330012 (by decide) (by decide))
      have tx330015 : x330015.toInt = (I (w (21 + (5 * xp.toNatClampNeg + xn.toNatClampNeg))) 2).toInt := congrArg Int32.toInt ex330015
      refine lv_aload_n hx hb dX7_flush_32 rfl (lv_at hl 0 rfl) ?_
      obtain ⟨j330016, hj330016⟩ := wG_6 (cy := cy) (N := N) (T := T) (I := I) (Q := Q) (J := J) (hM.lg hjl330012).1 (hM.lg hjl330012).2
      refine va_get (D := (dC, dI)) (ci := 6) (v := .int (I (w (21 + (5 * xp.toNatClampNeg + xn.toNatClampNeg))) 4)) (C := RX6) (T := TX6) (N := 7) hx hb hts hi6 hown hK hP j330016 hj330016 rfl 4 (by decide) (hts (.fieldLink RX7 158 "TallyLogsModel$Log" "flushed" "I") (by decide +kernel)) (fun _ h9 => h9) rfl dX7_flush_33 ?_
      refine lv_topi (fun x330017 ex330017 => ?_)
      have sx330017 : x330017 = σ.2.1 (5 * xp.toNatClampNeg + xn.toNatClampNeg) 4 := ex330017.trans (hMR.g hjl330012 (by decide) (by decide))
      have tx330017 : x330017.toInt = (I (w (21 + (5 * xp.toNatClampNeg + xn.toNatClampNeg))) 4).toInt := congrArg Int32.toInt ex330017
      refine lv_isub hx hb dX7_flush_36 ?_
      refine lv_topi (fun v330018 ev330018 => ?_)
      refine lv_istore (lv' := [(4, .int v330018), (3, .ref (w (21 + (5 * xp.toNatClampNeg + xn.toNatClampNeg)))), (0, .ref (w 0)), (1, .int xn), (2, .int xp)]) hx hb dX7_flush_37 hl (by decide) rfl (fun ls hl => ?_)
      refine lv_aload_n hx hb dX7_flush_39 rfl (lv_at hl 1 rfl) ?_
      refine lv_aload_n hx hb dX7_flush_40 rfl (lv_at hl 1 rfl) ?_
      obtain ⟨j330019, hj330019⟩ := wG_6 (cy := cy) (N := N) (T := T) (I := I) (Q := Q) (J := J) (hM.lg hjl330012).1 (hM.lg hjl330012).2
      refine va_get (D := (dC, dI)) (ci := 6) (v := .int (I (w (21 + (5 * xp.toNatClampNeg + xn.toNatClampNeg))) 2)) (C := RX6) (T := TX6) (N := 7) hx hb hts hi6 hown hK hP j330019 hj330019 rfl 2 (by decide) (hts (.fieldLink RX7 89 "TallyLogsModel$Log" "end" "I") (by decide +kernel)) (fun _ h9 => h9) rfl dX7_flush_41 ?_
      refine lv_topi (fun x330020 ex330020 => ?_)
      have sx330020 : x330020 = σ.2.1 (5 * xp.toNatClampNeg + xn.toNatClampNeg) 2 := ex330020.trans (hMR.g hjl330012 (by decide) (by decide))
      have tx330020 : x330020.toInt = (I (w (21 + (5 * xp.toNatClampNeg + xn.toNatClampNeg))) 2).toInt := congrArg Int32.toInt ex330020
      obtain ⟨j330021, hj330021⟩ := wG_6 (cy := cy) (N := N) (T := T) (I := I) (Q := Q) (J := J) (hM.lg hjl330012).1 (hM.lg hjl330012).2
      have hDo := hD
      refine va_put (D := (dC, dI)) (ci := 6) (v := .int x330020) (ty := .int) (C := RX6) (T := TX6) (N := 7) hx hb hts hi6 tyX6 tyX6_ok nmX6 hown hK hP hD hS j330021 hj330021 rfl 4 (by decide) (hts (.fieldLink RX7 158 "TallyLogsModel$Log" "flushed" "I") (by decide +kernel)) (fun _ h9 => h9) rfl (by decide +kernel) rfl rfl (Nat.le_of_ble_eq_true rfl) dX7_flush_44 (fun H locs hP hD hS => ?_)
      have hP := Eq.mp (congrArg (fun w => va_P (dC, dI) vwCl w H) (wP_6_4 (x := x330020) hDo (hM.lg hjl330012).1 (hM.lg hjl330012).2 hj330021)) hP
      obtain ⟨I330022, eI330022⟩ : ∃ z, z = p2 I (w (21 + (5 * xp.toNatClampNeg + xn.toNatClampNeg))) 4 x330020 := ⟨_, rfl⟩
      rw [← eI330022] at hP
      have hD : va_D A (va_pl L (wF cy K N T I330022 Q J)) := pD hDo
      obtain ⟨sg330023, esg330023⟩ : ∃ z, z = sG σ (5 * xp.toNatClampNeg + xn.toNatClampNeg) 4 x330020 := ⟨_, rfl⟩
      have hMR : MR w I330022 J sg330023 := by rw [eI330022, esg330023]; exact hMR.wg hM hjl330012 (by decide) (by decide)
      have hR : RM w [] I J I330022 J := by rw [eI330022]; exact hR.pl hM hjl330012
      have hMU : MU w I330022 := by rw [eI330022]; exact hMU.pl hM hjl330012
      have q330024_1 : (I330022 (w (21 + (5 * xp.toNatClampNeg + xn.toNatClampNeg))) 1).toInt = (I (w (21 + (5 * xp.toNatClampNeg + xn.toNatClampNeg))) 1).toInt := by rw [eI330022, p2_ne _ _ (fun q => absurd q.2 (by decide))]
      have q330024_2 : (I330022 (w (21 + (5 * xp.toNatClampNeg + xn.toNatClampNeg))) 2).toInt = (I (w (21 + (5 * xp.toNatClampNeg + xn.toNatClampNeg))) 2).toInt := by rw [eI330022, p2_ne _ _ (fun q => absurd q.2 (by decide))]
      have q330024_3 : (I330022 (w (21 + (5 * xp.toNatClampNeg + xn.toNatClampNeg))) 3).toInt = (I (w (21 + (5 * xp.toNatClampNeg + xn.toNatClampNeg))) 3).toInt := by rw [eI330022, p2_ne _ _ (fun q => absurd q.2 (by decide))]
      have q330024_4 : (I330022 (w (21 + (5 * xp.toNatClampNeg + xn.toNatClampNeg))) 4).toInt = x330020.toInt := by rw [eI330022, p2_at]
      have hML : ML w E I330022 := hML.of (j := (5 * xp.toNatClampNeg + xn.toNatClampNeg)) (fun i hi q => by have hj9 := hjl330012; rw [eI330022, p2_na _ _ (hM.ne (by omega) (by omega) (by omega))]) ⟨by omega, by omega, by omega, by omega, by omega, by omega⟩ (by omega)
      refine lv_iload hx hb dX7_flush_47 (lv_at hl 0 rfl) ?_
      exact W.iret (v := v330018) hx hb hr (fun t ht hW => ⟨⟨v330018, (I330022, J), rfl, ⟨⟨hML.mono (by omega), hMD, hMU⟩, by have e9 : qFl σ xn xp = (sg330023, v330018) := (by rw [qFl, if_neg (by have k9 := c330003; simp only [hir330001] at k9; exact k9), if_neg (by have k9 := c330007; simp only [hir330005] at k9; exact k9)]; simp only [esg330023, sx330020, ev330018, sx330015, sx330017, sA_s, sA_n, sA_2, sG_1, gTwo_1, nar1, not_false_eq_true] <;> rfl); show MR w I330022 J _; rw [e9]; exact hMR, by have e9 : qFl σ xn xp = (sg330023, v330018) := (by rw [qFl, if_neg (by have k9 := c330003; simp only [hir330001] at k9; exact k9), if_neg (by have k9 := c330007; simp only [hir330005] at k9; exact k9)]; simp only [esg330023, sx330020, ev330018, sx330015, sx330017, sA_s, sA_n, sA_2, sG_1, gTwo_1, nar1, not_false_eq_true] <;> rfl); show _ = _; rw [e9]⟩, by rw [ht]; exact hP, va_K.moved hW.alike hK, hD⟩, hS.F ht⟩) hS.2.2 dX7_flush_49
    · have kc330007 : r330005.toInt = 0 := by have h9 := c330007; rw [xk_eq, xk_0] at h9; exact h9
      refine lv_iconst (v := (-1)) hx hb dX7_flush_17 (by decide) ?_
      exact W.iret (v := (-1)) hx hb hr (fun t ht hW => ⟨⟨(-1), (I, J), rfl, ⟨⟨hML.mono (by omega), hMD, hMU⟩, by have e9 : qFl σ xn xp = (σ, (-1)) := (by rw [qFl, if_neg (by have k9 := c330003; simp only [hir330001] at k9; exact k9), if_pos (by have k9 := c330007; simp only [hir330005] at k9; exact k9)]); show MR w I J _; rw [e9]; exact hMR, by have e9 : qFl σ xn xp = (σ, (-1)) := (by rw [qFl, if_neg (by have k9 := c330003; simp only [hir330001] at k9; exact k9), if_pos (by have k9 := c330007; simp only [hir330005] at k9; exact k9)]); show _ = _; rw [e9]⟩, by rw [ht]; exact hP, va_K.moved hW.alike hK, hD⟩, hS.F ht⟩) hS.2.2 dX7_flush_18
set_option maxHeartbeats 4000000 in
set_option maxRecDepth 100000 in
/-- trim, exactly -/
theorem f_X7_trim (l : Launch) (dC : Nat → ClassId) (dI : Nat → Nat → Nat) (cy : Nat → ClassId) (w : Nat → Nat) (L : List Nat) (K N : Nat → Nat) (T : Nat → Nat → Nat) (Q : Nat → Nat → Option Nat) (I J : Nat → Nat → Int32) (sz : Nat) (E : Int) (xp : Int32) (xo : Int32) (σ : SG) (hM : MS w L K N T Q) (hI : MI w E I J) (hE : E ≤ 1000) (hMR : MR w I J σ) : Met l yX7_trim wsX7_trim ({ frames := 3, cells := 0, slots := 0, locals := 73 }) (va_Pc [.ref (w 0), .int xp, .int xo] (mW dC dI cy L (wF cy K N T I Q J) sz)) (va_Qi (fun (r : Int32) (d : (Nat → Nat → Int32) × (Nat → Nat → Int32)) => MI w (E + 5) d.1 d.2 ∧ MR w d.1 d.2 (qTr σ xp xo).1 ∧ r = (qTr σ xp xo).2) (fun (d : (Nat → Nat → Int32) × (Nat → Nat → Int32)) t => va_P (dC, dI) vwCl (va_pl L (wF cy K N T d.1 Q d.2)) t.heap ∧ va_K (dC, dI) vwCl (mTy cy) t ∧ va_D (va_A (va_pl L (wF cy K N T I Q J)) sz) (va_pl L (wF cy K N T d.1 Q d.2))) (va_A (va_pl L (wF cy K N T I Q J)) sz)) 0 0 (va_A (va_pl L (wF cy K N T I Q J)) sz) := by
  refine Met.ofW (cc := cX7_trim) (maxL := 4) (ret := (some .int)) (by decide) rfl ?_
  intro p e s m args below meth c s₁ B hml hv
  obtain ⟨rfl, hsz, ⟨hP, hK⟩, hD0⟩ := hv
  have hx := B.exec
  have hb := B.bytes
  have hr := B.returns
  have hts := atoms_spec (ws := wsX7_trim) B.pre
  have hown : s.vm.findClass RX7 = some m.cls := findClass_of_methodNamed B.named
  have hlocks := B.notSynchronized
  have hi7 : ∀ w ∈ wsX70, w ∈ wsX7_trim := by decide +kernel
  have hi6 : ∀ w ∈ wsX60, w ∈ wsX7_trim := by decide +kernel
  have hl := lv_entry ([.ref (w 0), .int xp, .int xo]) (n := 4) (Nat.le_of_ble_eq_true rfl)
  rw [lg_entry_eq]
  generalize (lg_sl ([.ref (w 0), .int xp, .int xo]) ++ List.replicate (4 - (lg_sl ([.ref (w 0), .int xp, .int xo])).length) Slot.unset).toArray = ls at hl ⊢
  have hl : lv_has ls 4 [(0, .ref (w 0)), (1, .int xp), (2, .int xo)] := hl
  subst hsz
  have hD := hD0.self (sz := s.heap.size)
  generalize hAe : va_A (va_pl L (wF cy K N T I Q J)) s.heap.size = A at hD ⊢
  have hA : ∀ q : Nat, s.heap.size ≤ q → A q := fun q h => by rw [← hAe]; exact Or.inr h
  have hS : va_S A s.heap s.heap [] := va_S.rf
  have hR : RM w [] I J I J := RM.rf
  obtain ⟨hML, hMD, hMU⟩ := hI
  refine lv_aload_n hx hb dX7_trim_0 rfl (lv_at hl 0 rfl) ?_
  refine lv_iload_n hx hb dX7_trim_1 rfl (lv_at hl 1 rfl) ?_
  obtain ⟨j330026, hj330026⟩ := wG_7 (cy := cy) (N := N) (T := T) (I := I) (Q := Q) (J := J) (hM.at 0 (by decide)) (hM.k 0 (by decide) rfl)
  refine vp_callSi (W.runV (As := [.int xp]) (rest := []) ⟨hx, hb, hml, hown, hts⟩ (c_X7_isThere l dC dI cy w L K N T Q I J xp hM) (cwV 1 hts gX7_trim_X7_isThere rfl rfl rfl (by decide +kernel) ⟨Nat.le_of_ble_eq_true rfl, Nat.le_of_ble_eq_true rfl⟩) ⟨mb_blind, va_recv hK hP (ci := 7) (q0 := j330026) rfl hj330026, fun U hU hW => ⟨rfl, mb_pre hP hK hU hW⟩⟩ rfl rfl hl.1 rfl (lv_room (Nat.le_of_ble_eq_true rfl)) dX7_trim_2 ⟨Nat.le_of_ble_eq_true rfl, Nat.le_of_ble_eq_true rfl⟩) (fun r330025 hr330025 => ?_)
  have hir330025 : r330025 = sp_it (σ.1 2) xp := hr330025.trans (hMR.it _)
  refine lv_if_ne (tgt := 10) hx hb dX7_trim_5 (by decide) (fun c330027 => ?_) (fun c330027 => ?_)
  · have hth330028 := sp_it1 (by rw [← hr330025]; exact c330027)
    have kc330027 : ¬ (r330025.toInt = 0) := by have h9 := c330027; rw [xk_eq, xk_0] at h9; exact h9
    refine lv_aload_n hx hb dX7_trim_10 rfl (lv_at hl 0 rfl) ?_
    refine lv_iload_n hx hb dX7_trim_11 rfl (lv_at hl 1 rfl) ?_
    obtain ⟨j330030, hj330030⟩ := wG_7 (cy := cy) (N := N) (T := T) (I := I) (Q := Q) (J := J) (hM.at 0 (by decide)) (hM.k 0 (by decide) rfl)
    refine va_csq (W.runV (As := [.int xp]) (rest := []) ⟨hx, hb, hml, hown, hts⟩ (c_X7_own l dC dI cy w L K N T Q I J xp hM hth330028.1) (cwV 1 hts gX7_trim_X7_own rfl rfl rfl (by decide +kernel) ⟨Nat.le_of_ble_eq_true rfl, Nat.le_of_ble_eq_true rfl⟩) ⟨mb_blind, va_recv hK hP (ci := 7) (q0 := j330030) rfl hj330030, fun U hU hW => ⟨rfl, mb_pre hP hK hU hW⟩⟩ rfl rfl hl.1 rfl (lv_room (Nat.le_of_ble_eq_true rfl)) dX7_trim_12 ⟨Nat.le_of_ble_eq_true rfl, Nat.le_of_ble_eq_true rfl⟩) (fun r330029 hr330029 => ?_)
    subst hr330029
    rcases sp_ow_cs w (I (w 0) 16) (J (w 4) xp.toNatClampNeg) xp.toNatClampNeg with hon330031 | ⟨n330031, hnn330031, eln330031, hubn330031, hon330031⟩
    · refine W.eq (g2 := F0 m 15 ls [.null]) (by rw [hon330031]; rfl) ?_
      have oqn330031 := oOw_no hMR (vp_lt (n := 4) hth330028.1) hon330031
      refine lv_astore_nN (lv' := [(3, .null), (0, .ref (w 0)), (1, .int xp), (2, .int xo)]) hx hb dX7_trim_15 rfl hl (by decide) rfl (fun ls hl => ?_)
      refine lv_aload_nN hx hb dX7_trim_16 rfl (lv_at hl 0 rfl) ?_
      refine lv_ifnonnullN hx hb dX7_trim_17 ?_
      refine lv_bipush (v := (-2)) hx hb dX7_trim_20 (by decide) ?_
      exact W.iret (v := (-2)) hx hb hr (fun t ht hW => ⟨⟨(-2), (I, J), rfl, ⟨⟨hML.mono (by omega), hMD, hMU⟩, by have e9 : qTr σ xp xo = (σ, (-2)) := (by rw [qTr, if_neg (by have k9 := c330027; simp only [hir330025] at k9; exact k9), oqn330031]); show MR w I J _; rw [e9]; exact hMR, by have e9 : qTr σ xp xo = (σ, (-2)) := (by rw [qTr, if_neg (by have k9 := c330027; simp only [hir330025] at k9; exact k9), oqn330031]); show _ = _; rw [e9]⟩, by rw [ht]; exact hP, va_K.moved hW.alike hK, hD⟩, hS.F ht⟩) hS.2.2 dX7_trim_22
    · have hjn330031 : (5 * xp.toNatClampNeg + n330031) < 20 := by have h1 := vp_lt (n := 4) hth330028.1; omega
      refine W.eq (g2 := F0 m 15 ls [.ref (w (21 + (5 * xp.toNatClampNeg + n330031)))]) (by rw [hon330031]; rfl) ?_
      have oqn330031 := oOw_of hM hMR (vp_lt (n := 4) hth330028.1) hnn330031 eln330031 hubn330031
      refine lv_astore_n (lv' := [(3, .ref (w (21 + (5 * xp.toNatClampNeg + n330031)))), (0, .ref (w 0)), (1, .int xp), (2, .int xo)]) hx hb dX7_trim_15 rfl hl (by decide) rfl (fun ls hl => ?_)
      refine lv_aload_n hx hb dX7_trim_16 rfl (lv_at hl 0 rfl) ?_
      refine lv_ifnonnull (tgt := 23) hx hb dX7_trim_17 (by decide) ?_
      obtain ⟨ha330032, hb330032, hc330032, hd330032, he330032, hf330032⟩ := hML (5 * xp.toNatClampNeg + n330031) hjn330031
      refine lv_iload_n hx hb dX7_trim_23 rfl (lv_at hl 3 rfl) ?_
      refine lv_i2l (v := xo.toInt64) hx hb dX7_trim_24 rfl ?_
      refine lv_aload_n hx hb dX7_trim_25 rfl (lv_at hl 0 rfl) ?_
      obtain ⟨j330033, hj330033⟩ := wG_6 (cy := cy) (N := N) (T := T) (I := I) (Q := Q) (J := J) (hM.lg hjn330031).1 (hM.lg hjn330031).2
      refine va_get (D := (dC, dI)) (ci := 6) (v := .int (I (w (21 + (5 * xp.toNatClampNeg + n330031))) 1)) (C := RX6) (T := TX6) (N := 7) hx hb hts hi6 hown hK hP j330033 hj330033 rfl 1 (by decide) (hts (.fieldLink RX7 134 "TallyLogsModel$Log" "start" "I") (by decide +kernel)) (fun _ h9 => h9) rfl dX7_trim_26 ?_
      refine lv_topi (fun x330034 ex330034 => ?_)
      have sx330034 : x330034 = σ.2.1 (5 * xp.toNatClampNeg + n330031) 1 := ex330034.trans (hMR.g hjn330031 (by decide) (by decide))
      have tx330034 : x330034.toInt = (I (w (21 + (5 * xp.toNatClampNeg + n330031))) 1).toInt := congrArg Int32.toInt ex330034
      refine lv_i2l (v := x330034.toInt64) hx hb dX7_trim_29 rfl ?_
      refine lv_aload_n hx hb dX7_trim_30 rfl (lv_at hl 0 rfl) ?_
      obtain ⟨j330035, hj330035⟩ := wG_6 (cy := cy) (N := N) (T := T) (I := I) (Q := Q) (J := J) (hM.lg hjn330031).1 (hM.lg hjn330031).2
      refine va_get (D := (dC, dI)) (ci := 6) (v := .int (I (w (21 + (5 * xp.toNatClampNeg + n330031))) 3)) (C := RX6) (T := TX6) (N := 7) hx hb hts hi6 hown hK hP j330035 hj330035 rfl 3 (by decide) (hts (.fieldLink RX7 109 "TallyLogsModel$Log" "high" "I") (by decide +kernel)) (fun _ h9 => h9) rfl dX7_trim_31 ?_
      refine lv_topi (fun x330036 ex330036 => ?_)
      have sx330036 : x330036 = σ.2.1 (5 * xp.toNatClampNeg + n330031) 3 := ex330036.trans (hMR.g hjn330031 (by decide) (by decide))
      have tx330036 : x330036.toInt = (I (w (21 + (5 * xp.toNatClampNeg + n330031))) 3).toInt := congrArg Int32.toInt ex330036
      refine lv_i2l (v := x330036.toInt64) hx hb dX7_trim_34 rfl ?_
      refine vp_callSi (W.runS (As := [.long xo.toInt64, .long x330034.toInt64, .long x330036.toInt64]) (rest := []) ⟨hx, hb, hml, hown, hts⟩ (c_X7_in l xo.toInt64 x330034.toInt64 x330036.toInt64) (va_cwS 3 hts gX7_trim_X7_in rfl rfl rfl (by decide +kernel) ⟨Nat.le_of_ble_eq_true rfl, Nat.le_of_ble_eq_true rfl⟩) preEq rfl rfl hl.1 rfl (lv_room (Nat.le_of_ble_eq_true rfl)) dX7_trim_35 ⟨Nat.le_of_ble_eq_true rfl, Nat.le_of_ble_eq_true rfl⟩) (fun r330037 hr330037 => ?_)
      subst hr330037
      refine lv_if_ne (tgt := 43) hx hb dX7_trim_38 (by decide) (fun c330038 => ?_) (fun c330038 => ?_)
      · have hbt330039 := xin_s2 c330038
        refine lv_aload_n hx hb dX7_trim_43 rfl (lv_at hl 0 rfl) ?_
        refine lv_iload_n hx hb dX7_trim_44 rfl (lv_at hl 3 rfl) ?_
        obtain ⟨j330040, hj330040⟩ := wG_6 (cy := cy) (N := N) (T := T) (I := I) (Q := Q) (J := J) (hM.lg hjn330031).1 (hM.lg hjn330031).2
        have hFc := pfree hD hS hA
        refine va_callv (va_runV (As := [.int xo]) (rest := []) ⟨hx, hb, hml, hown, hts⟩ (f_X6_from l dC dI cy w L K N T Q I J s.heap.size (5 * xp.toNatClampNeg + n330031) xo σ hM hjn330031 (by omega) (by omega) (by omega) hMR) (cwV 1 hts gX7_trim_X6_from rfl rfl rfl (by decide +kernel) ⟨Nat.le_of_ble_eq_true rfl, Nat.le_of_ble_eq_true rfl⟩) ⟨mw_blind, va_recv hK hP (ci := 6) (q0 := j330040) rfl hj330040, fun U hU hW => ⟨rfl, mw_pre hP hK hD hU hW⟩⟩ rfl rfl hl.1 rfl (lv_room (Nat.le_of_ble_eq_true rfl)) dX7_trim_45 ⟨Nat.le_of_ble_eq_true rfl, Nat.le_of_ble_eq_true rfl⟩) hS (fun q _ h => hFc q h) hFc (fun d9 t H1 locs ht hvm hw hB hz1 hk1 hS => ?_)
        obtain ⟨I330041, J330041⟩ := d9
        obtain ⟨hP, hK1, hD1⟩ := hB
        rw [ht] at hP
        have hD := hD1.weaken (fun _ _ _ h => hFc _ h)
        generalize H1 = H at hP hS ⊢
        have hP : va_P (dC, dI) vwCl (va_pl L (wF cy K N T I330041 Q J330041)) H := hP
        have hD : va_D A (va_pl L (wF cy K N T I330041 Q J330041)) := hD
        have hMRn := hw.1
        have hw := hw.2
        have hw330043 : LW w I J I330041 J330041 (5 * xp.toNatClampNeg + n330031) _ _ := hw
        have hR : RM w [] I J I330041 J330041 := hR.lw hM hjn330031 hw330043
        have hMD : MD w J330041 := hMD.lw hM hjn330031 hw330043
        have hMU : MU w I330041 := hMU.lw hM hjn330031 hw330043
        have q1hw330043 : (I330041 (w (21 + (5 * xp.toNatClampNeg + n330031))) 1).toInt = _ := hw330043.2.2.1
        have q2hw330043 : (I330041 (w (21 + (5 * xp.toNatClampNeg + n330031))) 2).toInt = _ := hw330043.2.2.2
        have q3hw330043 : (I330041 (w (21 + (5 * xp.toNatClampNeg + n330031))) 3).toInt = _ := congrArg Int32.toInt hw330043.f3
        have q4hw330043 : (I330041 (w (21 + (5 * xp.toNatClampNeg + n330031))) 4).toInt = _ := congrArg Int32.toInt hw330043.f4
        obtain ⟨sg330044, esg330044⟩ : ∃ z, z = oFr σ (5 * xp.toNatClampNeg + n330031) xo := ⟨_, rfl⟩
        have hMR : MR w I330041 J330041 sg330044 := by rw [esg330044]; exact hMRn
        refine lv_aload_n hx hb dX7_trim_48 rfl (lv_at hl 0 rfl) ?_
        refine lv_aload_n hx hb dX7_trim_49 rfl (lv_at hl 0 rfl) ?_
        obtain ⟨j330045, hj330045⟩ := wG_6 (cy := cy) (N := N) (T := T) (I := I330041) (Q := Q) (J := J330041) (hM.lg hjn330031).1 (hM.lg hjn330031).2
        refine va_get (D := (dC, dI)) (ci := 6) (v := .int (I330041 (w (21 + (5 * xp.toNatClampNeg + n330031))) 4)) (C := RX6) (T := TX6) (N := 7) hx hb hts hi6 hown hK hP j330045 hj330045 rfl 4 (by decide) (hts (.fieldLink RX7 158 "TallyLogsModel$Log" "flushed" "I") (by decide +kernel)) (fun _ h9 => h9) rfl dX7_trim_50 ?_
        refine lv_topi (fun x330046 ex330046 => ?_)
        have sx330046 : x330046 = sg330044.2.1 (5 * xp.toNatClampNeg + n330031) 4 := ex330046.trans (hMR.g hjn330031 (by decide) (by decide))
        have tx330046 : x330046.toInt = (I330041 (w (21 + (5 * xp.toNatClampNeg + n330031))) 4).toInt := congrArg Int32.toInt ex330046
        refine lv_aload_n hx hb dX7_trim_53 rfl (lv_at hl 0 rfl) ?_
        obtain ⟨j330047, hj330047⟩ := wG_6 (cy := cy) (N := N) (T := T) (I := I330041) (Q := Q) (J := J330041) (hM.lg hjn330031).1 (hM.lg hjn330031).2
        refine va_get (D := (dC, dI)) (ci := 6) (v := .int (I330041 (w (21 + (5 * xp.toNatClampNeg + n330031))) 1)) (C := RX6) (T := TX6) (N := 7) hx hb hts hi6 hown hK hP j330047 hj330047 rfl 1 (by decide) (hts (.fieldLink RX7 134 "TallyLogsModel$Log" "start" "I") (by decide +kernel)) (fun _ h9 => h9) rfl dX7_trim_54 ?_
        refine lv_topi (fun x330048 ex330048 => ?_)
        have sx330048 : x330048 = sg330044.2.1 (5 * xp.toNatClampNeg + n330031) 1 := ex330048.trans (hMR.g hjn330031 (by decide) (by decide))
        have tx330048 : x330048.toInt = (I330041 (w (21 + (5 * xp.toNatClampNeg + n330031))) 1).toInt := congrArg Int32.toInt ex330048
        refine va_mmax hx hb (by rw [hml]; exact hl.1.symm) hown (hts (.methodLink RX7 155 Lib.Math.max.name) (by decide +kernel)) (hts (.static Lib.Math.max.name) (by decide +kernel)) (hts (.initialized "java/lang/Math") (by decide +kernel)) (hts _ (List.mem_of_getElem? (i := 7) rfl)) (Nat.le_of_ble_eq_true rfl) (Nat.le_of_ble_eq_true rfl) (Nat.le_of_ble_eq_true rfl) (Nat.le_of_ble_eq_true rfl) dX7_trim_57 ?_
        refine lv_topi (fun z330049 ez330049 => ?_)
        have tz330049 : z330049.toInt = max x330046.toInt x330048.toInt := (xmax_t ez330049)
        obtain ⟨j330050, hj330050⟩ := wG_6 (cy := cy) (N := N) (T := T) (I := I330041) (Q := Q) (J := J330041) (hM.lg hjn330031).1 (hM.lg hjn330031).2
        have hDo := hD
        refine va_put (D := (dC, dI)) (ci := 6) (v := .int z330049) (ty := .int) (C := RX6) (T := TX6) (N := 7) hx hb hts hi6 tyX6 tyX6_ok nmX6 hown hK hP hD hS j330050 hj330050 rfl 4 (by decide) (hts (.fieldLink RX7 158 "TallyLogsModel$Log" "flushed" "I") (by decide +kernel)) (fun _ h9 => h9) rfl (by decide +kernel) rfl rfl (Nat.le_of_ble_eq_true rfl) dX7_trim_60 (fun H locs hP hD hS => ?_)
        have hP := Eq.mp (congrArg (fun w => va_P (dC, dI) vwCl w H) (wP_6_4 (x := z330049) hDo (hM.lg hjn330031).1 (hM.lg hjn330031).2 hj330050)) hP
        obtain ⟨I330051, eI330051⟩ : ∃ z, z = p2 I330041 (w (21 + (5 * xp.toNatClampNeg + n330031))) 4 z330049 := ⟨_, rfl⟩
        rw [← eI330051] at hP
        have hD : va_D A (va_pl L (wF cy K N T I330051 Q J330041)) := pD hDo
        obtain ⟨sg330052, esg330052⟩ : ∃ z, z = sG sg330044 (5 * xp.toNatClampNeg + n330031) 4 z330049 := ⟨_, rfl⟩
        have hMR : MR w I330051 J330041 sg330052 := by rw [eI330051, esg330052]; exact hMR.wg hM hjn330031 (by decide) (by decide)
        have hR : RM w [] I J I330051 J330041 := by rw [eI330051]; exact hR.pl hM hjn330031
        have hMU : MU w I330051 := by rw [eI330051]; exact hMU.pl hM hjn330031
        have q330053_1 : (I330051 (w (21 + (5 * xp.toNatClampNeg + n330031))) 1).toInt = (I330041 (w (21 + (5 * xp.toNatClampNeg + n330031))) 1).toInt := by rw [eI330051, p2_ne _ _ (fun q => absurd q.2 (by decide))]
        have q330053_2 : (I330051 (w (21 + (5 * xp.toNatClampNeg + n330031))) 2).toInt = (I330041 (w (21 + (5 * xp.toNatClampNeg + n330031))) 2).toInt := by rw [eI330051, p2_ne _ _ (fun q => absurd q.2 (by decide))]
        have q330053_3 : (I330051 (w (21 + (5 * xp.toNatClampNeg + n330031))) 3).toInt = (I330041 (w (21 + (5 * xp.toNatClampNeg + n330031))) 3).toInt := by rw [eI330051, p2_ne _ _ (fun q => absurd q.2 (by decide))]
        have q330053_4 : (I330051 (w (21 + (5 * xp.toNatClampNeg + n330031))) 4).toInt = z330049.toInt := by rw [eI330051, p2_at]
        have hML : ML w E I330051 := hML.of (j := (5 * xp.toNatClampNeg + n330031)) (fun i hi q => by have hj9 := hjn330031; rw [eI330051, p2_na _ _ (hM.ne (by omega) (by omega) (by omega))]; exact funext fun f => hw330043.other hM hjn330031 hi q) ⟨by omega, by omega, by omega, by omega, by omega, by omega⟩ (by omega)
        refine lv_aload_n hx hb dX7_trim_63 rfl (lv_at hl 0 rfl) ?_
        obtain ⟨j330055, hj330055⟩ := wG_6 (cy := cy) (N := N) (T := T) (I := I330051) (Q := Q) (J := J330041) (hM.lg hjn330031).1 (hM.lg hjn330031).2
        refine vp_callSi (W.runV (As := []) (rest := []) ⟨hx, hb, hml, hown, hts⟩ (c_X6_many l dC dI cy w L K N T Q I330051 J330041 (5 * xp.toNatClampNeg + n330031) hM hjn330031) (cwV 0 hts gX7_trim_X6_many rfl rfl rfl (by decide +kernel) ⟨Nat.le_of_ble_eq_true rfl, Nat.le_of_ble_eq_true rfl⟩) ⟨mb_blind, va_recv hK hP (ci := 6) (q0 := j330055) rfl hj330055, fun U hU hW => ⟨rfl, mb_pre hP hK hU hW⟩⟩ rfl rfl hl.1 rfl (lv_room (Nat.le_of_ble_eq_true rfl)) dX7_trim_64 ⟨Nat.le_of_ble_eq_true rfl, Nat.le_of_ble_eq_true rfl⟩) (fun r330054 hr330054 => ?_)
        have hir330054 : r330054 = sg330052.2.1 (5 * xp.toNatClampNeg + n330031) 2 - sg330052.2.1 (5 * xp.toNatClampNeg + n330031) 1 := by rw [hr330054, hMR.g hjn330031 (by decide) (by decide), hMR.g hjn330031 (by decide) (by decide)]
        exact W.iret (v := r330054) hx hb hr (fun t ht hW => ⟨⟨r330054, (I330051, J330041), rfl, ⟨⟨hML.mono (by omega), hMD, hMU⟩, by have e9 : qTr σ xp xo = (sg330052, r330054) := (by rw [qTr, if_neg (by have k9 := c330027; simp only [hir330025] at k9; exact k9), oqn330031]; show (if _ then _ else _) = _; rw [if_neg (by have k9 := c330038; simp only [sx330034, sx330036] at k9; exact k9), hir330054, esg330052, sG_o (by decide), sG_o (by decide), ez330049, imx, sx330046, sx330048, esg330044]); show MR w I330051 J330041 _; rw [e9]; exact hMR, by have e9 : qTr σ xp xo = (sg330052, r330054) := (by rw [qTr, if_neg (by have k9 := c330027; simp only [hir330025] at k9; exact k9), oqn330031]; show (if _ then _ else _) = _; rw [if_neg (by have k9 := c330038; simp only [sx330034, sx330036] at k9; exact k9), hir330054, esg330052, sG_o (by decide), sG_o (by decide), ez330049, imx, sx330046, sx330048, esg330044]); show _ = _; rw [e9]⟩, by rw [ht]; exact hP, va_K.moved hW.alike hK, hD⟩, hS.F ht⟩) hS.2.2 dX7_trim_67
      · refine lv_iconst (v := (-1)) hx hb dX7_trim_41 (by decide) ?_
        exact W.iret (v := (-1)) hx hb hr (fun t ht hW => ⟨⟨(-1), (I, J), rfl, ⟨⟨hML.mono (by omega), hMD, hMU⟩, by have e9 : qTr σ xp xo = (σ, (-1)) := (by rw [qTr, if_neg (by have k9 := c330027; simp only [hir330025] at k9; exact k9), oqn330031]; show (if _ then _ else _) = _; rw [if_pos (by have k9 := c330038; simp only [sx330034, sx330036] at k9; exact k9)]); show MR w I J _; rw [e9]; exact hMR, by have e9 : qTr σ xp xo = (σ, (-1)) := (by rw [qTr, if_neg (by have k9 := c330027; simp only [hir330025] at k9; exact k9), oqn330031]; show (if _ then _ else _) = _; rw [if_pos (by have k9 := c330038; simp only [sx330034, sx330036] at k9; exact k9)]); show _ = _; rw [e9]⟩, by rw [ht]; exact hP, va_K.moved hW.alike hK, hD⟩, hS.F ht⟩) hS.2.2 dX7_trim_42
  · have kc330027 : r330025.toInt = 0 := by have h9 := c330027; rw [xk_eq, xk_0] at h9; exact h9
    refine lv_iconst (v := (-1)) hx hb dX7_trim_8 (by decide) ?_
    exact W.iret (v := (-1)) hx hb hr (fun t ht hW => ⟨⟨(-1), (I, J), rfl, ⟨⟨hML.mono (by omega), hMD, hMU⟩, by have e9 : qTr σ xp xo = (σ, (-1)) := (by rw [qTr, if_pos (by have k9 := c330027; simp only [hir330025] at k9; exact k9)]); show MR w I J _; rw [e9]; exact hMR, by have e9 : qTr σ xp xo = (σ, (-1)) := (by rw [qTr, if_pos (by have k9 := c330027; simp only [hir330025] at k9; exact k9)]); show _ = _; rw [e9]⟩, by rw [ht]; exact hP, va_K.moved hW.alike hK, hD⟩, hS.F ht⟩) hS.2.2 dX7_trim_9
set_option maxHeartbeats 4000000 in
set_option maxRecDepth 100000 in
/-- restart, exactly -/
theorem f_X7_restart (l : Launch) (dC : Nat → ClassId) (dI : Nat → Nat → Nat) (cy : Nat → ClassId) (w : Nat → Nat) (L : List Nat) (K N : Nat → Nat) (T : Nat → Nat → Nat) (Q : Nat → Nat → Option Nat) (I J : Nat → Nat → Int32) (sz : Nat) (E : Int) (xn : Int32) (σ : SG) (hM : MS w L K N T Q) (hI : MI w E I J) (hE : E ≤ 1000) (hMR : MR w I J σ) : Met l yX7_restart wsX7_restart ({ frames := 2, cells := 0, slots := 0, locals := 50 }) (va_Pc [.ref (w 0), .int xn] (mW dC dI cy L (wF cy K N T I Q J) sz)) (va_Qi (fun (r : Int32) (d : (Nat → Nat → Int32) × (Nat → Nat → Int32)) => MI w (E + 5) d.1 d.2 ∧ MR w d.1 d.2 (qRs σ xn).1 ∧ r = (qRs σ xn).2) (fun (d : (Nat → Nat → Int32) × (Nat → Nat → Int32)) t => va_P (dC, dI) vwCl (va_pl L (wF cy K N T d.1 Q d.2)) t.heap ∧ va_K (dC, dI) vwCl (mTy cy) t ∧ va_D (va_A (va_pl L (wF cy K N T I Q J)) sz) (va_pl L (wF cy K N T d.1 Q d.2))) (va_A (va_pl L (wF cy K N T I Q J)) sz)) 0 0 (va_A (va_pl L (wF cy K N T I Q J)) sz) := by
  refine Met.ofW (cc := cX7_restart) (maxL := 3) (ret := (some .int)) (by decide) rfl ?_
  intro p e s m args below meth c s₁ B hml hv
  obtain ⟨rfl, hsz, ⟨hP, hK⟩, hD0⟩ := hv
  have hx := B.exec
  have hb := B.bytes
  have hr := B.returns
  have hts := atoms_spec (ws := wsX7_restart) B.pre
  have hown : s.vm.findClass RX7 = some m.cls := findClass_of_methodNamed B.named
  have hlocks := B.notSynchronized
  have hi7 : ∀ w ∈ wsX70, w ∈ wsX7_restart := by decide +kernel
  have hi6 : ∀ w ∈ wsX60, w ∈ wsX7_restart := by decide +kernel
  have hl := lv_entry ([.ref (w 0), .int xn]) (n := 3) (Nat.le_of_ble_eq_true rfl)
  rw [lg_entry_eq]
  generalize (lg_sl ([.ref (w 0), .int xn]) ++ List.replicate (3 - (lg_sl ([.ref (w 0), .int xn])).length) Slot.unset).toArray = ls at hl ⊢
  have hl : lv_has ls 3 [(0, .ref (w 0)), (1, .int xn)] := hl
  subst hsz
  have hD := hD0.self (sz := s.heap.size)
  generalize hAe : va_A (va_pl L (wF cy K N T I Q J)) s.heap.size = A at hD ⊢
  have hA : ∀ q : Nat, s.heap.size ≤ q → A q := fun q h => by rw [← hAe]; exact Or.inr h
  have hS : va_S A s.heap s.heap [] := va_S.rf
  have hR : RM w [] I J I J := RM.rf
  obtain ⟨hML, hMD, hMU⟩ := hI
  refine lv_iload_n hx hb dX7_restart_0 rfl (lv_at hl 1 rfl) ?_
  refine lv_i2l (v := xn.toInt64) hx hb dX7_restart_1 rfl ?_
  refine lv_lconst (v := 0) hx hb dX7_restart_2 (by decide) ?_
  refine lv_ldc2 hx hb hown (hts (.constantLong RX7 74 4) (by decide +kernel)) dX7_restart_3 ?_
  refine vp_callSi (W.runS (As := [.long xn.toInt64, .long 0, .long 4]) (rest := []) ⟨hx, hb, hml, hown, hts⟩ (c_X7_in l xn.toInt64 0 4) (va_cwS 3 hts gX7_restart_X7_in rfl rfl rfl (by decide +kernel) ⟨Nat.le_of_ble_eq_true rfl, Nat.le_of_ble_eq_true rfl⟩) preEq rfl rfl hl.1 rfl (lv_room (Nat.le_of_ble_eq_true rfl)) dX7_restart_6 ⟨Nat.le_of_ble_eq_true rfl, Nat.le_of_ble_eq_true rfl⟩) (fun r330056 hr330056 => ?_)
  subst hr330056
  refine lv_if_eq (tgt := 20) hx hb dX7_restart_9 (by decide) (fun c330057 => ?_) (fun c330057 => ?_)
  · refine lv_iconst (v := (-1)) hx hb dX7_restart_20 (by decide) ?_
    exact W.iret (v := (-1)) hx hb hr (fun t ht hW => ⟨⟨(-1), (I, J), rfl, ⟨⟨hML.mono (by omega), hMD, hMU⟩, by have e9 : qRs σ xn = (σ, (-1)) := (by rw [qRs, if_pos c330057]); show MR w I J _; rw [e9]; exact hMR, by have e9 : qRs σ xn = (σ, (-1)) := (by rw [qRs, if_pos c330057]); show _ = _; rw [e9]⟩, by rw [ht]; exact hP, va_K.moved hW.alike hK, hD⟩, hS.F ht⟩) hS.2.2 dX7_restart_21
  · have hin330058 : vp_in xn 5 := xin_sp c330057 (by decide)
    refine lv_aload_n hx hb dX7_restart_12 rfl (lv_at hl 0 rfl) ?_
    refine lv_iload_n hx hb dX7_restart_13 rfl (lv_at hl 1 rfl) ?_
    obtain ⟨j330060, hj330060⟩ := wG_7 (cy := cy) (N := N) (T := T) (I := I) (Q := Q) (J := J) (hM.at 0 (by decide)) (hM.k 0 (by decide) rfl)
    refine vp_callSi (W.runV (As := [.int xn]) (rest := []) ⟨hx, hb, hml, hown, hts⟩ (c_X7_isUp l dC dI cy w L K N T Q I J xn hM) (cwV 1 hts gX7_restart_X7_isUp rfl rfl rfl (by decide +kernel) ⟨Nat.le_of_ble_eq_true rfl, Nat.le_of_ble_eq_true rfl⟩) ⟨mb_blind, va_recv hK hP (ci := 7) (q0 := j330060) rfl hj330060, fun U hU hW => ⟨rfl, mb_pre hP hK hU hW⟩⟩ rfl rfl hl.1 rfl (lv_room (Nat.le_of_ble_eq_true rfl)) dX7_restart_14 ⟨Nat.le_of_ble_eq_true rfl, Nat.le_of_ble_eq_true rfl⟩) (fun r330059 hr330059 => ?_)
    have hir330059 : r330059 = sp_iu (σ.1 0 0) xn := hr330059.trans (hMR.iu _)
    refine lv_if_eq (tgt := 22) hx hb dX7_restart_17 (by decide) (fun c330061 => ?_) (fun c330061 => ?_)
    · have kc330061 : r330059.toInt = 0 := by have h9 := c330061; rw [xk_eq, xk_0] at h9; exact h9
      refine lv_aload_n hx hb dX7_restart_22 rfl (lv_at hl 0 rfl) ?_
      refine lv_dup hx hb dX7_restart_23 rfl ?_
      obtain ⟨j330062, hj330062⟩ := wG_7 (cy := cy) (N := N) (T := T) (I := I) (Q := Q) (J := J) (hM.at 0 (by decide)) (hM.k 0 (by decide) rfl)
      refine va_get (D := (dC, dI)) (ci := 7) (v := .int (I (w 0) 16)) (C := RX7) (T := TX7) (N := 18) hx hb hts hi7 hown hK hP j330062 hj330062 rfl 16 (by decide) (hts (.fieldLink RX7 61 "TallyLogsModel" "up" "I") (by decide +kernel)) (fun _ h9 => h9) rfl dX7_restart_24 ?_
      refine lv_topi (fun x330063 ex330063 => ?_)
      have sx330063 : x330063 = σ.1 0 0 := ex330063.trans hMR.1.1
      have tx330063 : x330063.toInt = (I (w 0) 16).toInt := congrArg Int32.toInt ex330063
      refine lv_iconst (v := 1) hx hb dX7_restart_27 (by decide) ?_
      refine lv_iload_n hx hb dX7_restart_28 rfl (lv_at hl 1 rfl) ?_
      refine lv_ishl hx hb dX7_restart_29 ?_
      refine lv_topi (fun v330064 ev330064 => ?_)
      refine lv_ior hx hb dX7_restart_30 ?_
      refine lv_topi (fun v330065 ev330065 => ?_)
      obtain ⟨j330066, hj330066⟩ := wG_7 (cy := cy) (N := N) (T := T) (I := I) (Q := Q) (J := J) (hM.at 0 (by decide)) (hM.k 0 (by decide) rfl)
      have hDo := hD
      refine va_put (D := (dC, dI)) (ci := 7) (v := .int v330065) (ty := .int) (C := RX7) (T := TX7) (N := 18) hx hb hts hi7 tyX7 tyX7_ok nmX7 hown hK hP hD hS j330066 hj330066 rfl 16 (by decide) (hts (.fieldLink RX7 61 "TallyLogsModel" "up" "I") (by decide +kernel)) (fun _ h9 => h9) rfl (by decide +kernel) rfl rfl (Nat.le_of_ble_eq_true rfl) dX7_restart_31 (fun H locs hP hD hS => ?_)
      have hP := Eq.mp (congrArg (fun w => va_P (dC, dI) vwCl w H) (wP_7_16 (x := v330065) hDo (hM.at 0 (by decide)) (hM.k 0 (by decide) rfl) hj330066)) hP
      obtain ⟨I330067, eI330067⟩ : ∃ z, z = p2 I (w 0) 16 v330065 := ⟨_, rfl⟩
      rw [← eI330067] at hP
      have hD : va_D A (va_pl L (wF cy K N T I330067 Q J)) := pD hDo
      obtain ⟨sg330068, esg330068⟩ : ∃ z, z = sA σ 0 0 v330065 := ⟨_, rfl⟩
      have hMR : MR w I330067 J sg330068 := by rw [eI330067, esg330068]; exact hMR.w0 hM (f := 0) (by decide)
      have hMU : MU w I330067 := by
        obtain ⟨u9, hu9, eu9⟩ := (show ∃ u : Nat, u < 32 ∧ v330065 = nI u by rw [ev330065, ex330063, ev330064]; exact xu_or hMU hin330058)
        exact ⟨u9, hu9, by rw [eI330067, p2_at]; exact eu9⟩
      have hR : RM w [] I330067 J I330067 J := RM.rf
      have hML : ML w E I330067 := by rw [eI330067]; exact hML.pm hM
      refine lv_iconst (v := 0) hx hb dX7_restart_34 (by decide) ?_
      refine lv_istore_n (lv' := [(2, .int 0), (0, .ref (w 0)), (1, .int xn)]) hx hb dX7_restart_35 rfl hl (by decide) rfl (fun ls hl => ?_)
      refine wq_gen (fun Qz hQz => ?_)
      have hLP330069 : ∀ (n : Nat) (y330070 : Int32) (Ia330069 Ja330069 : Nat → Nat → Int32) (H : Heap) (locs : List Loc) (ls : Array Slot), (4 - y330070.toInt).toNat < n → 0 ≤ y330070.toInt → (y330070.toInt ≤ 4) → RM w [] I330067 J Ia330069 Ja330069 → ML w E Ia330069 → MD w Ja330069 → MU w Ia330069 → MR w Ia330069 Ja330069 (oRs sg330068 xn.toNatClampNeg y330070.toNatClampNeg) →  va_P (dC, dI) vwCl (va_pl L (wF cy K N T Ia330069 Q Ja330069)) H → va_D A (va_pl L (wF cy K N T Ia330069 Q Ja330069)) → va_S A s.heap H locs → lv_has ls 3 [(2, .int y330070), (0, .ref (w 0)), (1, .int xn)] → W p l e (headSpec wsX7_restart ({ frames := 2, cells := 0, slots := 0, locals := 50 })).room s m ([.ref (w 0), .int xn] : List Value).toArray below meth c H locs 0 0 Qz (F0 m 36 ls []) := by
        intro n
        induction n with
        | zero => intro y330070 Ia330069 Ja330069 H locs ls hms; exact absurd hms (Nat.not_lt_zero _)
        | succ n ih330069 =>
          intro y330070 Ia330069 Ja330069 H locs ls hms hnn330069 hiv330069 hR hML hMD hMU hMR hP hD hS hl
          refine lv_iload_n hx hb dX7_restart_36 rfl (lv_at hl 0 rfl) ?_
          refine lv_iconst (v := 4) hx hb dX7_restart_37 (by decide) ?_
          refine lv_icmp_ge (tgt := 59) hx hb dX7_restart_38 (by decide) (fun c330071 => ?_) (fun c330071 => ?_)
          · have kc330071 : 4 ≤ y330070.toInt := by have h9 := c330071; rw [xk_le, xk_4] at h9; exact h9
            refine lv_iconst (v := 0) hx hb dX7_restart_59 (by decide) ?_
            rw [hQz]
            exact W.iret (v := 0) hx hb hr (fun t ht hW => ⟨⟨0, (Ia330069, Ja330069), rfl, ⟨⟨hML.mono (by omega), hMD, hMU⟩, by have e9 : qRs σ xn = (oRs sg330068 xn.toNatClampNeg y330070.toNatClampNeg, 0) := (by rw [qRs, if_neg c330057, if_neg (fun q => q (by have k9 := c330061; simp only [hir330059] at k9; exact k9)), show y330070.toNatClampNeg = 4 by rw [clT]; omega]; simp only [esg330068, ev330065, sx330063, ev330064]); show MR w Ia330069 Ja330069 _; rw [e9]; exact hMR, by have e9 : qRs σ xn = (oRs sg330068 xn.toNatClampNeg y330070.toNatClampNeg, 0) := (by rw [qRs, if_neg c330057, if_neg (fun q => q (by have k9 := c330061; simp only [hir330059] at k9; exact k9)), show y330070.toNatClampNeg = 4 by rw [clT]; omega]; simp only [esg330068, ev330065, sx330063, ev330064]); show _ = _; rw [e9]⟩, by rw [ht]; exact hP, va_K.moved hW.alike hK, hD⟩, hS.F ht⟩) hS.2.2 dX7_restart_60
          · have kc330071 : ¬ (4 ≤ y330070.toInt) := by have h9 := c330071; rw [xk_le, xk_4] at h9; exact h9
            refine lv_aload_n hx hb dX7_restart_41 rfl (lv_at hl 1 rfl) ?_
            obtain ⟨j330072, hj330072⟩ := wG_7 (cy := cy) (N := N) (T := T) (I := Ia330069) (Q := Q) (J := Ja330069) (hM.at 0 (by decide)) (hM.k 0 (by decide) rfl)
            refine va_get (D := (dC, dI)) (ci := 7) (v := .ref (T (w 0) 0)) (C := RX7) (T := TX7) (N := 18) hx hb hts hi7 hown hK hP j330072 hj330072 rfl 0 (by decide) (hts (.fieldLink RX7 11 "TallyLogsModel" "log" "[[LTallyLogsModel$Log;") (by decide +kernel)) (fun _ h9 => h9) rfl dX7_restart_42 ?_
            refine W.eq (g2 := F0 m 45 ls [.ref (w 1)]) (by rw [hM.t 0 (by decide)]) ?_
            refine lv_iload_n hx hb dX7_restart_45 rfl (lv_at hl 0 rfl) ?_
            obtain ⟨j330073, hj330073⟩ := wG_22 (cy := cy) (N := N) (T := T) (I := Ia330069) (Q := Q) (J := Ja330069) (hM.at 1 (by decide)) (hM.k 1 (by decide) rfl)
            refine xg_aldg hx hb hK hP j330073 2 hj330073 rfl (xin_of hnn330069 (by have kc := c330071; simp only [xk_lt, xk_le, xk_0, xk_1, xk_2, xk_3, xk_4, xk_5, xk_6, xk_7, xk_8, xk_50] at kc; omega)) dX7_restart_46 ?_
            refine W.eq (g2 := F0 m 47 ls [.ref (w (17 + y330070.toNatClampNeg))]) (by rw [hM.qo (vp_lt (n := 4) (xin_of hnn330069 (by have kc := c330071; simp only [xk_lt, xk_le, xk_0, xk_1, xk_2, xk_3, xk_4, xk_5, xk_6, xk_7, xk_8, xk_50] at kc; omega)))]; rfl) ?_
            refine lv_iload_n hx hb dX7_restart_47 rfl (lv_at hl 2 rfl) ?_
            obtain ⟨j330074, hj330074⟩ := wG_23 (cy := cy) (N := N) (T := T) (I := Ia330069) (Q := Q) (J := Ja330069) (hM.row (vp_lt (n := 4) (xin_of hnn330069 (by have kc := c330071; simp only [xk_lt, xk_le, xk_0, xk_1, xk_2, xk_3, xk_4, xk_5, xk_6, xk_7, xk_8, xk_50] at kc; omega)))).1 (hM.row (vp_lt (n := 4) (xin_of hnn330069 (by have kc := c330071; simp only [xk_lt, xk_le, xk_0, xk_1, xk_2, xk_3, xk_4, xk_5, xk_6, xk_7, xk_8, xk_50] at kc; omega)))).2
            refine va_aldq hx hb hK hP j330074 3 hj330074 rfl hin330058 dX7_restart_48 ?_
            have hjl330075 : (5 * y330070.toNatClampNeg + xn.toNatClampNeg) < 20 := by have h1 := (vp_lt (n := 4) (xin_of hnn330069 (by have kc := c330071; simp only [xk_lt, xk_le, xk_0, xk_1, xk_2, xk_3, xk_4, xk_5, xk_6, xk_7, xk_8, xk_50] at kc; omega))); have h2 := (vp_lt (n := 5) hin330058); omega
            refine W.eq (g2 := F0 m 49 ls [.ref (w (21 + (5 * y330070.toNatClampNeg + xn.toNatClampNeg)))]) (by rw [hM.qr (vp_lt (n := 4) (xin_of hnn330069 (by have kc := c330071; simp only [xk_lt, xk_le, xk_0, xk_1, xk_2, xk_3, xk_4, xk_5, xk_6, xk_7, xk_8, xk_50] at kc; omega))) (vp_lt (n := 5) hin330058)]; rfl) ?_
            refine lv_iconst (v := (-1)) hx hb dX7_restart_49 (by decide) ?_
            obtain ⟨j330076, hj330076⟩ := wG_6 (cy := cy) (N := N) (T := T) (I := Ia330069) (Q := Q) (J := Ja330069) (hM.lg hjl330075).1 (hM.lg hjl330075).2
            have hDo := hD
            refine va_put (D := (dC, dI)) (ci := 6) (v := .int (-1)) (ty := .int) (C := RX6) (T := TX6) (N := 7) hx hb hts hi6 tyX6 tyX6_ok nmX6 hown hK hP hD hS j330076 hj330076 rfl 5 (by decide) (hts (.fieldLink RX7 92 "TallyLogsModel$Log" "known" "I") (by decide +kernel)) (fun _ h9 => h9) rfl (by decide +kernel) rfl rfl (Nat.le_of_ble_eq_true rfl) dX7_restart_50 (fun H locs hP hD hS => ?_)
            have hP := Eq.mp (congrArg (fun w => va_P (dC, dI) vwCl w H) (wP_6_5 (x := (-1)) hDo (hM.lg hjl330075).1 (hM.lg hjl330075).2 hj330076)) hP
            obtain ⟨I330077, eI330077⟩ : ∃ z, z = p2 Ia330069 (w (21 + (5 * y330070.toNatClampNeg + xn.toNatClampNeg))) 5 (-1) := ⟨_, rfl⟩
            rw [← eI330077] at hP
            have hD : va_D A (va_pl L (wF cy K N T I330077 Q Ja330069)) := pD hDo
            obtain ⟨sg330078, esg330078⟩ : ∃ z, z = sG (oRs sg330068 xn.toNatClampNeg y330070.toNatClampNeg) (5 * y330070.toNatClampNeg + xn.toNatClampNeg) 5 (-1) := ⟨_, rfl⟩
            have hMR : MR w I330077 Ja330069 sg330078 := by rw [eI330077, esg330078]; exact hMR.wg hM hjl330075 (by decide) (by decide)
            have hR : RM w [] I330067 J I330077 Ja330069 := by rw [eI330077]; exact hR.pl hM hjl330075
            have hMU : MU w I330077 := by rw [eI330077]; exact hMU.pl hM hjl330075
            have hML : ML w E I330077 := by rw [eI330077]; exact hML.p56 hM hjl330075 (by decide)
            obtain ⟨v330079, ev330079⟩ : ∃ y : Int32, y = y330070 + Int32.ofInt 1 := ⟨_, rfl⟩
            refine lv_iinc (v := v330079) (lv' := [(2, .int v330079), (0, .ref (w 0)), (1, .int xn)]) hx hb dX7_restart_53 hl (k := 0) rfl ev330079.symm (by decide) rfl (fun ls hl => ?_)
            refine lv_goto (tgt := 36) hx hb dX7_restart_56 (by decide) ?_
            have tv330079 : v330079.toInt = y330070.toInt + 1 := by rw [ev330079, show y330070 + Int32.ofInt 1 = y330070 + 1 from rfl]; exact xinc (y := (4 : Int32)) (by rw [xk_lt, xk_4]; omega)
            exact ih330069 _ _ _ _ _ _ (by omega) (by omega) (by omega) hR (hML.mono (by omega)) hMD hMU (by rw [clsucc (y := y330070) (by omega) tv330079]; show MR w _ _ (sG (oRs sg330068 xn.toNatClampNeg y330070.toNatClampNeg) (5 * y330070.toNatClampNeg + xn.toNatClampNeg) 5 (-1)); rw [← esg330078]; exact hMR) hP hD hS (lv_sub hl [0, 1, 2] rfl)
      exact hLP330069 _ _ _ _ _ _ _ (Nat.lt_succ_self _) (by decide) (by decide) hR (hML.mono (by omega)) hMD hMU (by rw [cl_0]; exact hMR) hP hD hS (lv_sub hl [0, 1, 2] rfl)
    · have hup330080 := sp_iu1 (by rw [← hr330059]; exact c330061)
      have kc330061 : ¬ (r330059.toInt = 0) := by have h9 := c330061; rw [xk_eq, xk_0] at h9; exact h9
      refine lv_iconst (v := (-1)) hx hb dX7_restart_20 (by decide) ?_
      exact W.iret (v := (-1)) hx hb hr (fun t ht hW => ⟨⟨(-1), (I, J), rfl, ⟨⟨hML.mono (by omega), hMD, hMU⟩, by have e9 : qRs σ xn = (σ, (-1)) := (by rw [qRs, if_neg c330057, if_pos (by have k9 := c330061; simp only [hir330059] at k9; exact k9)]); show MR w I J _; rw [e9]; exact hMR, by have e9 : qRs σ xn = (σ, (-1)) := (by rw [qRs, if_neg c330057, if_pos (by have k9 := c330061; simp only [hir330059] at k9; exact k9)]); show _ = _; rw [e9]⟩, by rw [ht]; exact hP, va_K.moved hW.alike hK, hD⟩, hS.F ht⟩) hS.2.2 dX7_restart_21
set_option maxHeartbeats 4000000 in
set_option maxRecDepth 100000 in
/-- state, exactly -/
theorem f_X7_state (l : Launch) (dC : Nat → ClassId) (dI : Nat → Nat → Nat) (cy : Nat → ClassId) (w : Nat → Nat) (L : List Nat) (K N : Nat → Nat) (T : Nat → Nat → Nat) (Q : Nat → Nat → Option Nat) (I J : Nat → Nat → Int32) (xp : Int32) (wh : Int32) (σ : SG) (hM : MS w L K N T Q) (E : Int) (hI : MI w E I J) (hMR : MR w I J σ) : Met l yX7_state wsX7_state ({ frames := 3, cells := 0, slots := 0, locals := 73 }) (va_Pc [.ref (w 0), .int xp, .int wh] (mB dC dI cy L (wF cy K N T I Q J))) (vp_Si (fun r => r = aSt σ xp wh)) 0 0 (fun _ => False) := by
  refine Met.ofW (cc := cX7_state) (maxL := 3) (ret := (some .int)) (by decide) rfl ?_
  intro p e s m args below meth c s₁ B hml hv
  obtain ⟨rfl, hP, hK⟩ := hv
  have hx := B.exec
  have hb := B.bytes
  have hr := B.returns
  have hts := atoms_spec (ws := wsX7_state) B.pre
  have hown : s.vm.findClass RX7 = some m.cls := findClass_of_methodNamed B.named
  have hlocks := B.notSynchronized
  have hi7 : ∀ w ∈ wsX70, w ∈ wsX7_state := by decide +kernel
  have hl := lv_entry ([.ref (w 0), .int xp, .int wh]) (n := 3) (Nat.le_of_ble_eq_true rfl)
  rw [lg_entry_eq]
  generalize (lg_sl ([.ref (w 0), .int xp, .int wh]) ++ List.replicate (3 - (lg_sl ([.ref (w 0), .int xp, .int wh])).length) Slot.unset).toArray = ls at hl ⊢
  have hl : lv_has ls 3 [(0, .ref (w 0)), (1, .int xp), (2, .int wh)] := hl
  obtain ⟨hML, hMD, hMU⟩ := hI
  refine lv_aload_n hx hb dX7_state_0 rfl (lv_at hl 0 rfl) ?_
  refine lv_iload_n hx hb dX7_state_1 rfl (lv_at hl 1 rfl) ?_
  obtain ⟨j330082, hj330082⟩ := wG_7 (cy := cy) (N := N) (T := T) (I := I) (Q := Q) (J := J) (hM.at 0 (by decide)) (hM.k 0 (by decide) rfl)
  refine vp_callSi (W.runV (As := [.int xp]) (rest := []) ⟨hx, hb, hml, hown, hts⟩ (c_X7_isThere l dC dI cy w L K N T Q I J xp hM) (cwV 1 hts gX7_state_X7_isThere rfl rfl rfl (by decide +kernel) ⟨Nat.le_of_ble_eq_true rfl, Nat.le_of_ble_eq_true rfl⟩) ⟨mb_blind, va_recv hK hP (ci := 7) (q0 := j330082) rfl hj330082, fun U hU hW => ⟨rfl, mb_pre hP hK hU hW⟩⟩ rfl rfl hl.1 rfl (lv_room (Nat.le_of_ble_eq_true rfl)) dX7_state_2 ⟨Nat.le_of_ble_eq_true rfl, Nat.le_of_ble_eq_true rfl⟩) (fun r330081 hr330081 => ?_)
  have hir330081 : r330081 = sp_it (σ.1 2) xp := hr330081.trans (hMR.it _)
  refine lv_if_eq (tgt := 20) hx hb dX7_state_5 (by decide) (fun c330083 => ?_) (fun c330083 => ?_)
  · have kc330083 : r330081.toInt = 0 := by have h9 := c330083; rw [xk_eq, xk_0] at h9; exact h9
    refine lv_iconst (v := (-1)) hx hb dX7_state_20 (by decide) ?_
    exact W.iret (v := (-1)) hx hb hr (fun t ht hW => ⟨(-1), rfl, by show _ = _; rw [aSt, if_pos (by have k9 := c330083; simp only [hir330081] at k9; exact k9)], ht⟩) (fun _ h => by cases h) dX7_state_21
  · have hth330084 := sp_it1 (by rw [← hr330081]; exact c330083)
    have kc330083 : ¬ (r330081.toInt = 0) := by have h9 := c330083; rw [xk_eq, xk_0] at h9; exact h9
    refine lv_iload_n hx hb dX7_state_8 rfl (lv_at hl 2 rfl) ?_
    refine lv_i2l (v := wh.toInt64) hx hb dX7_state_9 rfl ?_
    refine lv_lconst (v := 0) hx hb dX7_state_10 (by decide) ?_
    refine lv_ldc2 hx hb hown (hts (.constantLong RX7 80 3) (by decide +kernel)) dX7_state_11 ?_
    refine vp_callSi (W.runS (As := [.long wh.toInt64, .long 0, .long 3]) (rest := []) ⟨hx, hb, hml, hown, hts⟩ (c_X7_in l wh.toInt64 0 3) (va_cwS 3 hts gX7_state_X7_in rfl rfl rfl (by decide +kernel) ⟨Nat.le_of_ble_eq_true rfl, Nat.le_of_ble_eq_true rfl⟩) preEq rfl rfl hl.1 rfl (lv_room (Nat.le_of_ble_eq_true rfl)) dX7_state_14 ⟨Nat.le_of_ble_eq_true rfl, Nat.le_of_ble_eq_true rfl⟩) (fun r330085 hr330085 => ?_)
    subst hr330085
    refine lv_if_ne (tgt := 22) hx hb dX7_state_17 (by decide) (fun c330086 => ?_) (fun c330086 => ?_)
    · have hin330087 : vp_in wh 4 := xin_sp c330086 (by decide)
      refine lv_iload_n hx hb dX7_state_22 rfl (lv_at hl 2 rfl) ?_
      by_cases hw330088 : wh = 0
      · obtain rfl : wh = 0 := hw330088
        refine lv_tableIn (off := 25) (tgt := 48) hx hb dX7_state_23 (by decide) (by decide) (by decide +kernel) (by decide) ?_
        refine lv_aload_n hx hb dX7_state_48 rfl (lv_at hl 0 rfl) ?_
        obtain ⟨j330089, hj330089⟩ := wG_7 (cy := cy) (N := N) (T := T) (I := I) (Q := Q) (J := J) (hM.at 0 (by decide)) (hM.k 0 (by decide) rfl)
        refine va_get (D := (dC, dI)) (ci := 7) (v := .ref (T (w 0) 3)) (C := RX7) (T := TX7) (N := 18) hx hb hts hi7 hown hK hP j330089 hj330089 rfl 3 (by decide) (hts (.fieldLink RX7 22 "TallyLogsModel" "leader" "[I") (by decide +kernel)) (fun _ h9 => h9) rfl dX7_state_49 ?_
        refine W.eq (g2 := F0 m 52 ls [.ref (w 4)]) (by rw [hM.t 3 (by decide)]) ?_
        refine lv_iload_n hx hb dX7_state_52 rfl (lv_at hl 1 rfl) ?_
        obtain ⟨j330090, hj330090⟩ := wG_20 (cy := cy) (N := N) (T := T) (I := I) (Q := Q) (J := J) (hM.at 4 (by decide)) (hM.k 4 (by decide) rfl)
        refine va_iald hx hb hK hP j330090 1 hj330090 rfl (hM.inN (n := 4) 4 (by decide) rfl rfl hth330084.1) dX7_state_53 ?_
        refine lv_topi (fun x330091 ex330091 => ?_)
        have sx330091 : x330091 = σ.1 4 xp.toNatClampNeg := ex330091.trans (hMR.a (k := 4) (by decide) (by decide) (show _ < 4 from vp_lt (n := 4) hth330084.1))
        exact W.iret (v := x330091) hx hb hr (fun t ht hW => ⟨x330091, rfl, by show _ = _; rw [aSt, if_neg (by have k9 := c330083; simp only [hir330081] at k9; exact k9), if_neg c330086, if_pos rfl]; exact sx330091, ht⟩) (fun _ h => by cases h) dX7_state_54
      by_cases hw330092 : wh = 1
      · obtain rfl : wh = 1 := hw330092
        refine lv_tableIn (off := 32) (tgt := 55) hx hb dX7_state_23 (by decide) (by decide) (by decide +kernel) (by decide) ?_
        refine lv_aload_n hx hb dX7_state_55 rfl (lv_at hl 0 rfl) ?_
        obtain ⟨j330093, hj330093⟩ := wG_7 (cy := cy) (N := N) (T := T) (I := I) (Q := Q) (J := J) (hM.at 0 (by decide)) (hM.k 0 (by decide) rfl)
        refine va_get (D := (dC, dI)) (ci := 7) (v := .ref (T (w 0) 4)) (C := RX7) (T := TX7) (N := 18) hx hb hts hi7 hown hK hP j330093 hj330093 rfl 4 (by decide) (hts (.fieldLink RX7 25 "TallyLogsModel" "epoch" "[I") (by decide +kernel)) (fun _ h9 => h9) rfl dX7_state_56 ?_
        refine W.eq (g2 := F0 m 59 ls [.ref (w 5)]) (by rw [hM.t 4 (by decide)]) ?_
        refine lv_iload_n hx hb dX7_state_59 rfl (lv_at hl 1 rfl) ?_
        obtain ⟨j330094, hj330094⟩ := wG_20 (cy := cy) (N := N) (T := T) (I := I) (Q := Q) (J := J) (hM.at 5 (by decide)) (hM.k 5 (by decide) rfl)
        refine va_iald hx hb hK hP j330094 1 hj330094 rfl (hM.inN (n := 4) 5 (by decide) rfl rfl hth330084.1) dX7_state_60 ?_
        refine lv_topi (fun x330095 ex330095 => ?_)
        have sx330095 : x330095 = σ.1 5 xp.toNatClampNeg := ex330095.trans (hMR.a (k := 5) (by decide) (by decide) (show _ < 4 from vp_lt (n := 4) hth330084.1))
        exact W.iret (v := x330095) hx hb hr (fun t ht hW => ⟨x330095, rfl, by show _ = _; rw [aSt, if_neg (by have k9 := c330083; simp only [hir330081] at k9; exact k9), if_neg c330086, if_neg (by decide), if_pos rfl]; exact sx330095, ht⟩) (fun _ h => by cases h) dX7_state_61
      by_cases hw330096 : wh = 2
      · obtain rfl : wh = 2 := hw330096
        refine lv_tableIn (off := 39) (tgt := 62) hx hb dX7_state_23 (by decide) (by decide) (by decide +kernel) (by decide) ?_
        refine lv_aload_n hx hb dX7_state_62 rfl (lv_at hl 0 rfl) ?_
        obtain ⟨j330097, hj330097⟩ := wG_7 (cy := cy) (N := N) (T := T) (I := I) (Q := Q) (J := J) (hM.at 0 (by decide)) (hM.k 0 (by decide) rfl)
        refine va_get (D := (dC, dI)) (ci := 7) (v := .ref (T (w 0) 6)) (C := RX7) (T := TX7) (N := 18) hx hb hts hi7 hown hK hP j330097 hj330097 rfl 6 (by decide) (hts (.fieldLink RX7 31 "TallyLogsModel" "step" "[I") (by decide +kernel)) (fun _ h9 => h9) rfl dX7_state_63 ?_
        refine W.eq (g2 := F0 m 66 ls [.ref (w 7)]) (by rw [hM.t 6 (by decide)]) ?_
        refine lv_iload_n hx hb dX7_state_66 rfl (lv_at hl 1 rfl) ?_
        obtain ⟨j330098, hj330098⟩ := wG_20 (cy := cy) (N := N) (T := T) (I := I) (Q := Q) (J := J) (hM.at 7 (by decide)) (hM.k 7 (by decide) rfl)
        refine va_iald hx hb hK hP j330098 1 hj330098 rfl (hM.inN (n := 4) 7 (by decide) rfl rfl hth330084.1) dX7_state_67 ?_
        refine lv_topi (fun x330099 ex330099 => ?_)
        have sx330099 : x330099 = σ.1 7 xp.toNatClampNeg := ex330099.trans (hMR.a (k := 7) (by decide) (by decide) (show _ < 4 from vp_lt (n := 4) hth330084.1))
        exact W.iret (v := x330099) hx hb hr (fun t ht hW => ⟨x330099, rfl, by show _ = _; rw [aSt, if_neg (by have k9 := c330083; simp only [hir330081] at k9; exact k9), if_neg c330086, if_neg (by decide), if_neg (by decide), if_pos rfl]; exact sx330099, ht⟩) (fun _ h => by cases h) dX7_state_68
      refine lv_tableOut (tgt := 69) hx hb dX7_state_23 (by simp only [xk_eq, xk_lt, xk_le, xk_0, xk_1, xk_2, xk_3, xk_4, xk_5, xk_6, xk_7, xk_8, xk_50] at hw330088 hw330092 hw330096; omega) (by decide) ?_
      refine lv_aload_n hx hb dX7_state_69 rfl (lv_at hl 0 rfl) ?_
      refine lv_iload_n hx hb dX7_state_70 rfl (lv_at hl 1 rfl) ?_
      obtain ⟨j330101, hj330101⟩ := wG_7 (cy := cy) (N := N) (T := T) (I := I) (Q := Q) (J := J) (hM.at 0 (by decide)) (hM.k 0 (by decide) rfl)
      refine va_csq (W.runV (As := [.int xp]) (rest := []) ⟨hx, hb, hml, hown, hts⟩ (c_X7_own l dC dI cy w L K N T Q I J xp hM hth330084.1) (cwV 1 hts gX7_state_X7_own rfl rfl rfl (by decide +kernel) ⟨Nat.le_of_ble_eq_true rfl, Nat.le_of_ble_eq_true rfl⟩) ⟨mb_blind, va_recv hK hP (ci := 7) (q0 := j330101) rfl hj330101, fun U hU hW => ⟨rfl, mb_pre hP hK hU hW⟩⟩ rfl rfl hl.1 rfl (lv_room (Nat.le_of_ble_eq_true rfl)) dX7_state_71 ⟨Nat.le_of_ble_eq_true rfl, Nat.le_of_ble_eq_true rfl⟩) (fun r330100 hr330100 => ?_)
      subst hr330100
      rcases sp_ow_cs w (I (w 0) 16) (J (w 4) xp.toNatClampNeg) xp.toNatClampNeg with hon330102 | ⟨n330102, hnn330102, eln330102, hubn330102, hon330102⟩
      · refine W.eq (g2 := F0 m 74 ls [.null]) (by rw [hon330102]; rfl) ?_
        have oqn330102 := oOw_no hMR (vp_lt (n := 4) hth330084.1) hon330102
        refine lv_ifnonnullN hx hb dX7_state_74 ?_
        refine lv_iconst (v := (-1)) hx hb dX7_state_77 (by decide) ?_
        refine lv_goto (tgt := 89) hx hb dX7_state_78 (by decide) ?_
        exact W.iret (v := (-1)) hx hb hr (fun t ht hW => ⟨(-1), rfl, by show _ = _; rw [aSt, if_neg (by have k9 := c330083; simp only [hir330081] at k9; exact k9), if_neg c330086, if_neg hw330088, if_neg hw330092, if_neg hw330096, oqn330102], ht⟩) (fun _ h => by cases h) dX7_state_89
      · have hjn330102 : (5 * xp.toNatClampNeg + n330102) < 20 := by have h1 := vp_lt (n := 4) hth330084.1; omega
        refine W.eq (g2 := F0 m 74 ls [.ref (w (21 + (5 * xp.toNatClampNeg + n330102)))]) (by rw [hon330102]; rfl) ?_
        have oqn330102 := oOw_of hM hMR (vp_lt (n := 4) hth330084.1) hnn330102 eln330102 hubn330102
        refine lv_ifnonnull (tgt := 81) hx hb dX7_state_74 (by decide) ?_
        refine lv_aload_n hx hb dX7_state_81 rfl (lv_at hl 0 rfl) ?_
        refine lv_iload_n hx hb dX7_state_82 rfl (lv_at hl 1 rfl) ?_
        obtain ⟨j330104, hj330104⟩ := wG_7 (cy := cy) (N := N) (T := T) (I := I) (Q := Q) (J := J) (hM.at 0 (by decide)) (hM.k 0 (by decide) rfl)
        refine va_csq (W.runV (As := [.int xp]) (rest := []) ⟨hx, hb, hml, hown, hts⟩ (c_X7_own l dC dI cy w L K N T Q I J xp hM hth330084.1) (cwV 1 hts gX7_state_X7_own rfl rfl rfl (by decide +kernel) ⟨Nat.le_of_ble_eq_true rfl, Nat.le_of_ble_eq_true rfl⟩) ⟨mb_blind, va_recv hK hP (ci := 7) (q0 := j330104) rfl hj330104, fun U hU hW => ⟨rfl, mb_pre hP hK hU hW⟩⟩ rfl rfl hl.1 rfl (lv_room (Nat.le_of_ble_eq_true rfl)) dX7_state_83 ⟨Nat.le_of_ble_eq_true rfl, Nat.le_of_ble_eq_true rfl⟩) (fun r330103 hr330103 => ?_)
        subst hr330103
        refine W.eq (g2 := F0 m 86 ls [.ref (w (21 + (5 * xp.toNatClampNeg + n330102)))]) (by rw [hon330102]; rfl) ?_
        obtain ⟨ha330105, hb330105, hc330105, hd330105, he330105, hf330105⟩ := hML (5 * xp.toNatClampNeg + n330102) hjn330102
        refine vp_callSi (W.runS (As := [.ref (w (21 + (5 * xp.toNatClampNeg + n330102)))]) (rest := []) ⟨hx, hb, hml, hown, hts⟩ (f_X7_firstOpen l dC dI cy w L K N T Q I J (5 * xp.toNatClampNeg + n330102) σ hM hjn330102 (by omega) (by omega) hMR) (va_cwS 1 hts gX7_state_X7_firstOpen rfl rfl rfl (by decide +kernel) ⟨Nat.le_of_ble_eq_true rfl, Nat.le_of_ble_eq_true rfl⟩) ⟨mb_blind, fun U hU hW => ⟨rfl, mb_pre hP hK hU hW⟩⟩ rfl rfl hl.1 rfl (lv_room (Nat.le_of_ble_eq_true rfl)) dX7_state_86 ⟨Nat.le_of_ble_eq_true rfl, Nat.le_of_ble_eq_true rfl⟩) (fun r330106 hr330106 => ?_)
        exact W.iret (v := r330106) hx hb hr (fun t ht hW => ⟨r330106, rfl, by show _ = _; rw [aSt, if_neg (by have k9 := c330083; simp only [hir330081] at k9; exact k9), if_neg c330086, if_neg hw330088, if_neg hw330092, if_neg hw330096, oqn330102]; exact hr330106, ht⟩) (fun _ h => by cases h) dX7_state_89
    · refine lv_iconst (v := (-1)) hx hb dX7_state_20 (by decide) ?_
      exact W.iret (v := (-1)) hx hb hr (fun t ht hW => ⟨(-1), rfl, by show _ = _; rw [aSt, if_neg (by have k9 := c330083; simp only [hir330081] at k9; exact k9), if_pos c330086], ht⟩) (fun _ h => by cases h) dX7_state_21
set_option maxHeartbeats 4000000 in
set_option maxRecDepth 100000 in
/-- record, exactly -/
theorem f_X7_record (l : Launch) (dC : Nat → ClassId) (dI : Nat → Nat → Nat) (cy : Nat → ClassId) (w : Nat → Nat) (L : List Nat) (K N : Nat → Nat) (T : Nat → Nat → Nat) (Q : Nat → Nat → Option Nat) (I J : Nat → Nat → Int32) (xn : Int32) (xp : Int32) (xo : Int32) (wh : Int32) (σ : SG) (hM : MS w L K N T Q) (E : Int) (hI : MI w E I J) (hMR : MR w I J σ) : Met l yX7_record wsX7_record ({ frames := 3, cells := 0, slots := 0, locals := 74 }) (va_Pc [.ref (w 0), .int xn, .int xp, .int xo, .int wh] (mB dC dI cy L (wF cy K N T I Q J))) (vp_Sl (fun r => r = aRe σ xn xp xo wh)) 0 0 (fun _ => False) := by
  refine Met.ofW (cc := cX7_record) (maxL := 5) (ret := (some .long)) (by decide) rfl ?_
  intro p e s m args below meth c s₁ B hml hv
  obtain ⟨rfl, hP, hK⟩ := hv
  have hx := B.exec
  have hb := B.bytes
  have hr := B.returns
  have hts := atoms_spec (ws := wsX7_record) B.pre
  have hown : s.vm.findClass RX7 = some m.cls := findClass_of_methodNamed B.named
  have hlocks := B.notSynchronized
  have hi7 : ∀ w ∈ wsX70, w ∈ wsX7_record := by decide +kernel
  have hi6 : ∀ w ∈ wsX60, w ∈ wsX7_record := by decide +kernel
  have hl := lv_entry ([.ref (w 0), .int xn, .int xp, .int xo, .int wh]) (n := 5) (Nat.le_of_ble_eq_true rfl)
  rw [lg_entry_eq]
  generalize (lg_sl ([.ref (w 0), .int xn, .int xp, .int xo, .int wh]) ++ List.replicate (5 - (lg_sl ([.ref (w 0), .int xn, .int xp, .int xo, .int wh])).length) Slot.unset).toArray = ls at hl ⊢
  have hl : lv_has ls 5 [(0, .ref (w 0)), (1, .int xn), (2, .int xp), (3, .int xo), (4, .int wh)] := hl
  obtain ⟨hML, hMD, hMU⟩ := hI
  refine lv_aload_n hx hb dX7_record_0 rfl (lv_at hl 0 rfl) ?_
  refine lv_iload_n hx hb dX7_record_1 rfl (lv_at hl 1 rfl) ?_
  refine lv_iload_n hx hb dX7_record_2 rfl (lv_at hl 2 rfl) ?_
  obtain ⟨j330108, hj330108⟩ := wG_7 (cy := cy) (N := N) (T := T) (I := I) (Q := Q) (J := J) (hM.at 0 (by decide)) (hM.k 0 (by decide) rfl)
  refine vp_callSi (W.runV (As := [.int xn, .int xp]) (rest := []) ⟨hx, hb, hml, hown, hts⟩ (f_X7_isReplica l dC dI cy w L K N T Q I J xn xp hM) (cwV 2 hts gX7_record_X7_isReplica rfl rfl rfl (by decide +kernel) ⟨Nat.le_of_ble_eq_true rfl, Nat.le_of_ble_eq_true rfl⟩) ⟨mb_blind, va_recv hK hP (ci := 7) (q0 := j330108) rfl hj330108, fun U hU hW => ⟨rfl, mb_pre hP hK hU hW⟩⟩ rfl rfl hl.1 rfl (lv_room (Nat.le_of_ble_eq_true rfl)) dX7_record_3 ⟨Nat.le_of_ble_eq_true rfl, Nat.le_of_ble_eq_true rfl⟩) (fun r330107 hr330107 => ?_)
  have hir330107 : r330107 = sp_ir (σ.1 2) (σ.1 3) xn xp := hr330107.trans (hMR.ir _ _)
  refine lv_if_eq (tgt := 56) hx hb dX7_record_6 (by decide) (fun c330109 => ?_) (fun c330109 => ?_)
  · have kc330109 : r330107.toInt = 0 := by have h9 := c330109; rw [xk_eq, xk_0] at h9; exact h9
    refine lv_ldc2 hx hb hown (hts (.constantLong RX7 185 1099511627776) (by decide +kernel)) dX7_record_56 ?_
    exact W.lret (v := 1099511627776) hx hb hr (fun t ht hW => ⟨1099511627776, rfl, by show _ = _; rw [aRe, if_pos (by have k9 := c330109; simp only [hir330107] at k9; exact k9)], ht⟩) (fun _ h => by cases h) dX7_record_59
  · have hrp330110 := sp_ir1 (by rw [← hir330107]; exact c330109)
    have kc330109 : ¬ (r330107.toInt = 0) := by have h9 := c330109; rw [xk_eq, xk_0] at h9; exact h9
    refine lv_iload hx hb dX7_record_9 (lv_at hl 4 rfl) ?_
    refine lv_i2l (v := wh.toInt64) hx hb dX7_record_11 rfl ?_
    refine lv_lconst (v := 0) hx hb dX7_record_12 (by decide) ?_
    refine lv_ldc2 hx hb hown (hts (.constantLong RX7 183 6) (by decide +kernel)) dX7_record_13 ?_
    refine vp_callSi (W.runS (As := [.long wh.toInt64, .long 0, .long 6]) (rest := []) ⟨hx, hb, hml, hown, hts⟩ (c_X7_in l wh.toInt64 0 6) (va_cwS 3 hts gX7_record_X7_in rfl rfl rfl (by decide +kernel) ⟨Nat.le_of_ble_eq_true rfl, Nat.le_of_ble_eq_true rfl⟩) preEq rfl rfl hl.1 rfl (lv_room (Nat.le_of_ble_eq_true rfl)) dX7_record_16 ⟨Nat.le_of_ble_eq_true rfl, Nat.le_of_ble_eq_true rfl⟩) (fun r330111 hr330111 => ?_)
    subst hr330111
    refine lv_if_eq (tgt := 56) hx hb dX7_record_19 (by decide) (fun c330112 => ?_) (fun c330112 => ?_)
    · refine lv_ldc2 hx hb hown (hts (.constantLong RX7 185 1099511627776) (by decide +kernel)) dX7_record_56 ?_
      exact W.lret (v := 1099511627776) hx hb hr (fun t ht hW => ⟨1099511627776, rfl, by show _ = _; rw [aRe, if_neg (by have k9 := c330109; simp only [hir330107] at k9; exact k9), if_pos c330112], ht⟩) (fun _ h => by cases h) dX7_record_59
    · have hin330113 : vp_in wh 7 := xin_sp c330112 (by decide)
      refine lv_iload_n hx hb dX7_record_22 rfl (lv_at hl 3 rfl) ?_
      refine lv_i2l (v := xo.toInt64) hx hb dX7_record_23 rfl ?_
      refine lv_aload_n hx hb dX7_record_24 rfl (lv_at hl 0 rfl) ?_
      obtain ⟨j330114, hj330114⟩ := wG_7 (cy := cy) (N := N) (T := T) (I := I) (Q := Q) (J := J) (hM.at 0 (by decide)) (hM.k 0 (by decide) rfl)
      refine va_get (D := (dC, dI)) (ci := 7) (v := .ref (T (w 0) 0)) (C := RX7) (T := TX7) (N := 18) hx hb hts hi7 hown hK hP j330114 hj330114 rfl 0 (by decide) (hts (.fieldLink RX7 11 "TallyLogsModel" "log" "[[LTallyLogsModel$Log;") (by decide +kernel)) (fun _ h9 => h9) rfl dX7_record_25 ?_
      refine W.eq (g2 := F0 m 28 ls [.ref (w 1), .long xo.toInt64]) (by rw [hM.t 0 (by decide)]) ?_
      refine lv_iload_n hx hb dX7_record_28 rfl (lv_at hl 2 rfl) ?_
      obtain ⟨j330115, hj330115⟩ := wG_22 (cy := cy) (N := N) (T := T) (I := I) (Q := Q) (J := J) (hM.at 1 (by decide)) (hM.k 1 (by decide) rfl)
      refine xg_aldg hx hb hK hP j330115 2 hj330115 rfl hrp330110.1.1 dX7_record_29 ?_
      refine W.eq (g2 := F0 m 30 ls [.ref (w (17 + xp.toNatClampNeg)), .long xo.toInt64]) (by rw [hM.qo (vp_lt (n := 4) hrp330110.1.1)]; rfl) ?_
      refine lv_iload_n hx hb dX7_record_30 rfl (lv_at hl 1 rfl) ?_
      obtain ⟨j330116, hj330116⟩ := wG_23 (cy := cy) (N := N) (T := T) (I := I) (Q := Q) (J := J) (hM.row (vp_lt (n := 4) hrp330110.1.1)).1 (hM.row (vp_lt (n := 4) hrp330110.1.1)).2
      refine va_aldq hx hb hK hP j330116 3 hj330116 rfl hrp330110.2.1 dX7_record_31 ?_
      have hjl330117 : (5 * xp.toNatClampNeg + xn.toNatClampNeg) < 20 := by have h1 := (vp_lt (n := 4) hrp330110.1.1); have h2 := (vp_lt (n := 5) hrp330110.2.1); omega
      refine W.eq (g2 := F0 m 32 ls [.ref (w (21 + (5 * xp.toNatClampNeg + xn.toNatClampNeg))), .long xo.toInt64]) (by rw [hM.qr (vp_lt (n := 4) hrp330110.1.1) (vp_lt (n := 5) hrp330110.2.1)]; rfl) ?_
      obtain ⟨j330118, hj330118⟩ := wG_6 (cy := cy) (N := N) (T := T) (I := I) (Q := Q) (J := J) (hM.lg hjl330117).1 (hM.lg hjl330117).2
      refine va_get (D := (dC, dI)) (ci := 6) (v := .int (I (w (21 + (5 * xp.toNatClampNeg + xn.toNatClampNeg))) 1)) (C := RX6) (T := TX6) (N := 7) hx hb hts hi6 hown hK hP j330118 hj330118 rfl 1 (by decide) (hts (.fieldLink RX7 134 "TallyLogsModel$Log" "start" "I") (by decide +kernel)) (fun _ h9 => h9) rfl dX7_record_32 ?_
      refine lv_topi (fun x330119 ex330119 => ?_)
      have sx330119 : x330119 = σ.2.1 (5 * xp.toNatClampNeg + xn.toNatClampNeg) 1 := ex330119.trans (hMR.g hjl330117 (by decide) (by decide))
      have tx330119 : x330119.toInt = (I (w (21 + (5 * xp.toNatClampNeg + xn.toNatClampNeg))) 1).toInt := congrArg Int32.toInt ex330119
      refine lv_i2l (v := x330119.toInt64) hx hb dX7_record_35 rfl ?_
      refine lv_aload_n hx hb dX7_record_36 rfl (lv_at hl 0 rfl) ?_
      obtain ⟨j330120, hj330120⟩ := wG_7 (cy := cy) (N := N) (T := T) (I := I) (Q := Q) (J := J) (hM.at 0 (by decide)) (hM.k 0 (by decide) rfl)
      refine va_get (D := (dC, dI)) (ci := 7) (v := .ref (T (w 0) 0)) (C := RX7) (T := TX7) (N := 18) hx hb hts hi7 hown hK hP j330120 hj330120 rfl 0 (by decide) (hts (.fieldLink RX7 11 "TallyLogsModel" "log" "[[LTallyLogsModel$Log;") (by decide +kernel)) (fun _ h9 => h9) rfl dX7_record_37 ?_
      refine W.eq (g2 := F0 m 40 ls [.ref (w 1), .long x330119.toInt64, .long xo.toInt64]) (by rw [hM.t 0 (by decide)]) ?_
      refine lv_iload_n hx hb dX7_record_40 rfl (lv_at hl 2 rfl) ?_
      obtain ⟨j330121, hj330121⟩ := wG_22 (cy := cy) (N := N) (T := T) (I := I) (Q := Q) (J := J) (hM.at 1 (by decide)) (hM.k 1 (by decide) rfl)
      refine xg_aldg hx hb hK hP j330121 2 hj330121 rfl hrp330110.1.1 dX7_record_41 ?_
      refine W.eq (g2 := F0 m 42 ls [.ref (w (17 + xp.toNatClampNeg)), .long x330119.toInt64, .long xo.toInt64]) (by rw [hM.qo (vp_lt (n := 4) hrp330110.1.1)]; rfl) ?_
      refine lv_iload_n hx hb dX7_record_42 rfl (lv_at hl 1 rfl) ?_
      obtain ⟨j330122, hj330122⟩ := wG_23 (cy := cy) (N := N) (T := T) (I := I) (Q := Q) (J := J) (hM.row (vp_lt (n := 4) hrp330110.1.1)).1 (hM.row (vp_lt (n := 4) hrp330110.1.1)).2
      refine va_aldq hx hb hK hP j330122 3 hj330122 rfl hrp330110.2.1 dX7_record_43 ?_
      have hjl330123 : (5 * xp.toNatClampNeg + xn.toNatClampNeg) < 20 := by have h1 := (vp_lt (n := 4) hrp330110.1.1); have h2 := (vp_lt (n := 5) hrp330110.2.1); omega
      refine W.eq (g2 := F0 m 44 ls [.ref (w (21 + (5 * xp.toNatClampNeg + xn.toNatClampNeg))), .long x330119.toInt64, .long xo.toInt64]) (by rw [hM.qr (vp_lt (n := 4) hrp330110.1.1) (vp_lt (n := 5) hrp330110.2.1)]; rfl) ?_
      obtain ⟨j330124, hj330124⟩ := wG_6 (cy := cy) (N := N) (T := T) (I := I) (Q := Q) (J := J) (hM.lg hjl330123).1 (hM.lg hjl330123).2
      refine va_get (D := (dC, dI)) (ci := 6) (v := .int (I (w (21 + (5 * xp.toNatClampNeg + xn.toNatClampNeg))) 2)) (C := RX6) (T := TX6) (N := 7) hx hb hts hi6 hown hK hP j330124 hj330124 rfl 2 (by decide) (hts (.fieldLink RX7 89 "TallyLogsModel$Log" "end" "I") (by decide +kernel)) (fun _ h9 => h9) rfl dX7_record_44 ?_
      refine lv_topi (fun x330125 ex330125 => ?_)
      have sx330125 : x330125 = σ.2.1 (5 * xp.toNatClampNeg + xn.toNatClampNeg) 2 := ex330125.trans (hMR.g hjl330123 (by decide) (by decide))
      have tx330125 : x330125.toInt = (I (w (21 + (5 * xp.toNatClampNeg + xn.toNatClampNeg))) 2).toInt := congrArg Int32.toInt ex330125
      refine lv_iconst (v := 1) hx hb dX7_record_47 (by decide) ?_
      refine lv_isub hx hb dX7_record_48 ?_
      refine lv_topi (fun v330126 ev330126 => ?_)
      obtain ⟨ha330127, hb330127, hc330127, hd330127, he330127, hf330127⟩ := hML (5 * xp.toNatClampNeg + xn.toNatClampNeg) hjl330123
      have hhx330125 := xr_hi x330125
      have tv330126 : v330126.toInt = x330125.toInt - 1 := by rw [ev330126, xsub (by rw [xk_1]; omega) (by rw [xk_1]; omega), xk_1]
      refine lv_i2l (v := v330126.toInt64) hx hb dX7_record_49 rfl ?_
      refine vp_callSi (W.runS (As := [.long xo.toInt64, .long x330119.toInt64, .long v330126.toInt64]) (rest := []) ⟨hx, hb, hml, hown, hts⟩ (c_X7_in l xo.toInt64 x330119.toInt64 v330126.toInt64) (va_cwS 3 hts gX7_record_X7_in rfl rfl rfl (by decide +kernel) ⟨Nat.le_of_ble_eq_true rfl, Nat.le_of_ble_eq_true rfl⟩) preEq rfl rfl hl.1 rfl (lv_room (Nat.le_of_ble_eq_true rfl)) dX7_record_50 ⟨Nat.le_of_ble_eq_true rfl, Nat.le_of_ble_eq_true rfl⟩) (fun r330128 hr330128 => ?_)
      subst hr330128
      refine lv_if_ne (tgt := 60) hx hb dX7_record_53 (by decide) (fun c330129 => ?_) (fun c330129 => ?_)
      · have hbt330130 := xin_s2 c330129
        refine lv_aload_n hx hb dX7_record_60 rfl (lv_at hl 0 rfl) ?_
        obtain ⟨j330131, hj330131⟩ := wG_7 (cy := cy) (N := N) (T := T) (I := I) (Q := Q) (J := J) (hM.at 0 (by decide)) (hM.k 0 (by decide) rfl)
        refine va_get (D := (dC, dI)) (ci := 7) (v := .ref (T (w 0) 0)) (C := RX7) (T := TX7) (N := 18) hx hb hts hi7 hown hK hP j330131 hj330131 rfl 0 (by decide) (hts (.fieldLink RX7 11 "TallyLogsModel" "log" "[[LTallyLogsModel$Log;") (by decide +kernel)) (fun _ h9 => h9) rfl dX7_record_61 ?_
        refine W.eq (g2 := F0 m 64 ls [.ref (w 1)]) (by rw [hM.t 0 (by decide)]) ?_
        refine lv_iload_n hx hb dX7_record_64 rfl (lv_at hl 2 rfl) ?_
        obtain ⟨j330132, hj330132⟩ := wG_22 (cy := cy) (N := N) (T := T) (I := I) (Q := Q) (J := J) (hM.at 1 (by decide)) (hM.k 1 (by decide) rfl)
        refine xg_aldg hx hb hK hP j330132 2 hj330132 rfl hrp330110.1.1 dX7_record_65 ?_
        refine W.eq (g2 := F0 m 66 ls [.ref (w (17 + xp.toNatClampNeg))]) (by rw [hM.qo (vp_lt (n := 4) hrp330110.1.1)]; rfl) ?_
        refine lv_iload_n hx hb dX7_record_66 rfl (lv_at hl 1 rfl) ?_
        obtain ⟨j330133, hj330133⟩ := wG_23 (cy := cy) (N := N) (T := T) (I := I) (Q := Q) (J := J) (hM.row (vp_lt (n := 4) hrp330110.1.1)).1 (hM.row (vp_lt (n := 4) hrp330110.1.1)).2
        refine va_aldq hx hb hK hP j330133 3 hj330133 rfl hrp330110.2.1 dX7_record_67 ?_
        have hjl330134 : (5 * xp.toNatClampNeg + xn.toNatClampNeg) < 20 := by have h1 := (vp_lt (n := 4) hrp330110.1.1); have h2 := (vp_lt (n := 5) hrp330110.2.1); omega
        refine W.eq (g2 := F0 m 68 ls [.ref (w (21 + (5 * xp.toNatClampNeg + xn.toNatClampNeg)))]) (by rw [hM.qr (vp_lt (n := 4) hrp330110.1.1) (vp_lt (n := 5) hrp330110.2.1)]; rfl) ?_
        refine lv_iload_n hx hb dX7_record_68 rfl (lv_at hl 3 rfl) ?_
        refine lv_iload hx hb dX7_record_69 (lv_at hl 4 rfl) ?_
        refine lv_iconst (v := 3) hx hb dX7_record_71 (by decide) ?_
        refine lv_icmp_ge (tgt := 80) hx hb dX7_record_72 (by decide) (fun c330135 => ?_) (fun c330135 => ?_)
        · have kc330135 : 3 ≤ wh.toInt := by have h9 := c330135; rw [xk_le, xk_3] at h9; exact h9
          refine lv_iload hx hb dX7_record_80 (lv_at hl 4 rfl) ?_
          refine lv_iconst (v := 1) hx hb dX7_record_82 (by decide) ?_
          refine lv_iadd hx hb dX7_record_83 ?_
          refine lv_topi (fun v330136 ev330136 => ?_)
          have hin330137 : vp_in v330136 8 := by have h9 := vp_in_iff.mp hin330113; rw [ev330136]; exact xin_of (by rw [xaddk (k := 1) (by decide) (by omega) (by omega)]; omega) (by rw [xaddk (k := 1) (by decide) (by omega) (by omega)]; omega)
          obtain ⟨j330139, hj330139⟩ := wG_6 (cy := cy) (N := N) (T := T) (I := I) (Q := Q) (J := J) (hM.lg hjl330134).1 (hM.lg hjl330134).2
          refine vp_callSi (W.runV (As := [.int xo, .int v330136]) (rest := []) ⟨hx, hb, hml, hown, hts⟩ (f_X6_get l dC dI cy w L K N T Q I J (5 * xp.toNatClampNeg + xn.toNatClampNeg) xo v330136 σ hM hjl330134 (by omega) (by omega) (by omega) (by omega) hin330137 hMR) (cwV 2 hts gX7_record_X6_get rfl rfl rfl (by decide +kernel) ⟨Nat.le_of_ble_eq_true rfl, Nat.le_of_ble_eq_true rfl⟩) ⟨mb_blind, va_recv hK hP (ci := 6) (q0 := j330139) rfl hj330139, fun U hU hW => ⟨rfl, mb_pre hP hK hU hW⟩⟩ rfl rfl hl.1 rfl (lv_room (Nat.le_of_ble_eq_true rfl)) dX7_record_84 ⟨Nat.le_of_ble_eq_true rfl, Nat.le_of_ble_eq_true rfl⟩) (fun r330138 hr330138 => ?_)
          refine lv_i2l (v := r330138.toInt64) hx hb dX7_record_87 rfl ?_
          exact W.lret (v := r330138.toInt64) hx hb hr (fun t ht hW => ⟨r330138.toInt64, rfl, by show _ = _; rw [aRe, if_neg (by have k9 := c330109; simp only [hir330107] at k9; exact k9), if_neg c330112, if_neg (by have k9 := c330129; simp only [sx330119, ev330126, sx330125] at k9; exact k9), if_neg (by have k9 := c330135; rw [xk_le] at k9; rw [xk_lt]; omega), ← ev330136, ← hr330138], ht⟩) (fun _ h => by cases h) dX7_record_88
        · have kc330135 : ¬ (3 ≤ wh.toInt) := by have h9 := c330135; rw [xk_le, xk_3] at h9; exact h9
          refine lv_iload hx hb dX7_record_75 (lv_at hl 4 rfl) ?_
          refine lv_goto (tgt := 84) hx hb dX7_record_77 (by decide) ?_
          have hin330140 : vp_in wh 8 := by have h9 := vp_in_iff.mp hin330113; exact xin_of (by omega) (by omega)
          obtain ⟨j330142, hj330142⟩ := wG_6 (cy := cy) (N := N) (T := T) (I := I) (Q := Q) (J := J) (hM.lg hjl330134).1 (hM.lg hjl330134).2
          refine vp_callSi (W.runV (As := [.int xo, .int wh]) (rest := []) ⟨hx, hb, hml, hown, hts⟩ (f_X6_get l dC dI cy w L K N T Q I J (5 * xp.toNatClampNeg + xn.toNatClampNeg) xo wh σ hM hjl330134 (by omega) (by omega) (by omega) (by omega) hin330140 hMR) (cwV 2 hts gX7_record_X6_get rfl rfl rfl (by decide +kernel) ⟨Nat.le_of_ble_eq_true rfl, Nat.le_of_ble_eq_true rfl⟩) ⟨mb_blind, va_recv hK hP (ci := 6) (q0 := j330142) rfl hj330142, fun U hU hW => ⟨rfl, mb_pre hP hK hU hW⟩⟩ rfl rfl hl.1 rfl (lv_room (Nat.le_of_ble_eq_true rfl)) dX7_record_84 ⟨Nat.le_of_ble_eq_true rfl, Nat.le_of_ble_eq_true rfl⟩) (fun r330141 hr330141 => ?_)
          refine lv_i2l (v := r330141.toInt64) hx hb dX7_record_87 rfl ?_
          exact W.lret (v := r330141.toInt64) hx hb hr (fun t ht hW => ⟨r330141.toInt64, rfl, by show _ = _; rw [aRe, if_neg (by have k9 := c330109; simp only [hir330107] at k9; exact k9), if_neg c330112, if_neg (by have k9 := c330129; simp only [sx330119, ev330126, sx330125] at k9; exact k9), if_pos (by have k9 := c330135; rw [xk_le] at k9; rw [xk_lt]; omega), ← hr330141], ht⟩) (fun _ h => by cases h) dX7_record_88
      · refine lv_ldc2 hx hb hown (hts (.constantLong RX7 185 1099511627776) (by decide +kernel)) dX7_record_56 ?_
        exact W.lret (v := 1099511627776) hx hb hr (fun t ht hW => ⟨1099511627776, rfl, by show _ = _; rw [aRe, if_neg (by have k9 := c330109; simp only [hir330107] at k9; exact k9), if_neg c330112, if_pos (by have k9 := c330129; simp only [sx330119, ev330126, sx330125] at k9; exact k9)], ht⟩) (fun _ h => by cases h) dX7_record_59
