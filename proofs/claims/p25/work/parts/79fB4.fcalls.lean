set_option maxHeartbeats 4000000 in
set_option maxRecDepth 100000 in
/-- begin, exactly -/
theorem f_X7_begin (l : Launch) (dC : Nat → ClassId) (dI : Nat → Nat → Nat) (cy : Nat → ClassId) (w : Nat → Nat) (L : List Nat) (K N : Nat → Nat) (T : Nat → Nat → Nat) (Q : Nat → Nat → Option Nat) (I J : Nat → Nat → Int32) (sz : Nat) (E : Int) (xh : Int32) (σ : SG) (hM : MS w L K N T Q) (hI : MI w E I J) (hE : E ≤ 1000) (hMR : MR w I J σ) : Met l yX7_begin wsX7_begin ({ frames := 1, cells := 0, slots := 0, locals := 22 }) (va_Pc [.ref (w 0), .int xh] (mW dC dI cy L (wF cy K N T I Q J) sz)) (va_Qi (fun (r : Int32) (d : (Nat → Nat → Int32) × (Nat → Nat → Int32)) => MI w (E + 5) d.1 d.2 ∧ MR w d.1 d.2 (qBg σ xh).1 ∧ r = (qBg σ xh).2) (fun (d : (Nat → Nat → Int32) × (Nat → Nat → Int32)) t => va_P (dC, dI) vwCl (va_pl L (wF cy K N T d.1 Q d.2)) t.heap ∧ va_K (dC, dI) vwCl (mTy cy) t ∧ va_D (va_A (va_pl L (wF cy K N T I Q J)) sz) (va_pl L (wF cy K N T d.1 Q d.2))) (va_A (va_pl L (wF cy K N T I Q J)) sz)) 0 0 (va_A (va_pl L (wF cy K N T I Q J)) sz) := by
  refine Met.ofW (cc := cX7_begin) (maxL := 3) (ret := (some .int)) (by decide) rfl ?_
  intro p e s m args below meth c s₁ B hml hv
  obtain ⟨rfl, hsz, ⟨hP, hK⟩, hD0⟩ := hv
  have hx := B.exec
  have hb := B.bytes
  have hr := B.returns
  have hts := atoms_spec (ws := wsX7_begin) B.pre
  have hown : s.vm.findClass RX7 = some m.cls := findClass_of_methodNamed B.named
  have hlocks := B.notSynchronized
  have hi7 : ∀ w ∈ wsX70, w ∈ wsX7_begin := by decide +kernel
  have hl := lv_entry ([.ref (w 0), .int xh]) (n := 3) (Nat.le_of_ble_eq_true rfl)
  rw [lg_entry_eq]
  generalize (lg_sl ([.ref (w 0), .int xh]) ++ List.replicate (3 - (lg_sl ([.ref (w 0), .int xh])).length) Slot.unset).toArray = ls at hl ⊢
  have hl : lv_has ls 3 [(0, .ref (w 0)), (1, .int xh)] := hl
  subst hsz
  have hD := hD0.self (sz := s.heap.size)
  generalize hAe : va_A (va_pl L (wF cy K N T I Q J)) s.heap.size = A at hD ⊢
  have hA : ∀ q : Nat, s.heap.size ≤ q → A q := fun q h => by rw [← hAe]; exact Or.inr h
  have hS : va_S A s.heap s.heap [] := va_S.rf
  have hR : RM w [] I J I J := RM.rf
  obtain ⟨hML, hMD, hMU⟩ := hI
  refine lv_iload_n hx hb dX7_begin_0 rfl (lv_at hl 1 rfl) ?_
  refine vp_callSi (W.runS (As := [.int xh]) (rest := []) ⟨hx, hb, hml, hown, hts⟩ (c_X7_isHandle l xh) (va_cwS 1 hts gX7_begin_X7_isHandle rfl rfl rfl (by decide +kernel) ⟨Nat.le_of_ble_eq_true rfl, Nat.le_of_ble_eq_true rfl⟩) preEq rfl rfl hl.1 rfl (lv_room (Nat.le_of_ble_eq_true rfl)) dX7_begin_1 ⟨Nat.le_of_ble_eq_true rfl, Nat.le_of_ble_eq_true rfl⟩) (fun r320001 hr320001 => ?_)
  subst hr320001
  refine lv_if_ne (tgt := 9) hx hb dX7_begin_4 (by decide) (fun c320002 => ?_) (fun c320002 => ?_)
  · have hih320003 := sp_ih1 c320002
    refine lv_iload_n hx hb dX7_begin_9 rfl (lv_at hl 1 rfl) ?_
    refine lv_bipush (v := 8) hx hb dX7_begin_10 (by decide) ?_
    refine lv_irem hx hb dX7_begin_12 (by decide) ?_
    refine lv_topi (fun v320004 ev320004 => ?_)
    have hin320005 : vp_in v320004 6 := by rw [ev320004]; exact hih320003.2
    refine lv_istore_n (lv' := [(2, .int v320004), (0, .ref (w 0)), (1, .int xh)]) hx hb dX7_begin_13 rfl hl (by decide) rfl (fun ls hl => ?_)
    refine lv_aload_n hx hb dX7_begin_14 rfl (lv_at hl 1 rfl) ?_
    obtain ⟨j320006, hj320006⟩ := wG_7 (cy := cy) (N := N) (T := T) (I := I) (Q := Q) (J := J) (hM.at 0 (by decide)) (hM.k 0 (by decide) rfl)
    refine va_get (D := (dC, dI)) (ci := 7) (v := .ref (T (w 0) 7)) (C := RX7) (T := TX7) (N := 18) hx hb hts hi7 hown hK hP j320006 hj320006 rfl 7 (by decide) (hts (.fieldLink RX7 34 "TallyLogsModel" "generation" "[I") (by decide +kernel)) (fun _ h9 => h9) rfl dX7_begin_15 ?_
    refine W.eq (g2 := F0 m 18 ls [.ref (w 8)]) (by rw [hM.t 7 (by decide)]) ?_
    refine lv_iload_n hx hb dX7_begin_18 rfl (lv_at hl 0 rfl) ?_
    obtain ⟨j320007, hj320007⟩ := wG_20 (cy := cy) (N := N) (T := T) (I := I) (Q := Q) (J := J) (hM.at 8 (by decide)) (hM.k 8 (by decide) rfl)
    refine va_iald hx hb hK hP j320007 1 hj320007 rfl (hM.inN (n := 6) 8 (by decide) rfl rfl hin320005) dX7_begin_19 ?_
    refine lv_topi (fun x320008 ex320008 => ?_)
    have sx320008 : x320008 = σ.1 8 v320004.toNatClampNeg := ex320008.trans (hMR.a (k := 8) (by decide) (by decide) (show _ < 6 from vp_lt (n := 6) hin320005))
    refine lv_iload_n hx hb dX7_begin_20 rfl (lv_at hl 2 rfl) ?_
    refine lv_bipush (v := 8) hx hb dX7_begin_21 (by decide) ?_
    refine lv_idiv hx hb dX7_begin_23 (by decide) ?_
    refine lv_topi (fun v320009 ev320009 => ?_)
    refine lv_icmp_ne (tgt := 36) hx hb dX7_begin_24 (by decide) (fun c320010 => ?_) (fun c320010 => ?_)
    · have kc320010 : ¬ (x320008.toInt = v320009.toInt) := by have h9 := c320010; rw [xk_eq] at h9; exact h9
      refine lv_bipush (v := (-4)) hx hb dX7_begin_36 (by decide) ?_
      exact W.iret (v := (-4)) hx hb hr (fun t ht hW => ⟨⟨(-4), (I, J), rfl, ⟨⟨hML.mono (by omega), hMD, hMU⟩, by have e9 : qBg σ xh = (σ, (-4)) := (by rw [qBg, if_neg c320002, if_pos (by have k9 := c320010; simp only [sx320008, ev320004, ev320009] at k9; exact k9)]); show MR w I J _; rw [e9]; exact hMR, by have e9 : qBg σ xh = (σ, (-4)) := (by rw [qBg, if_neg c320002, if_pos (by have k9 := c320010; simp only [sx320008, ev320004, ev320009] at k9; exact k9)]); show _ = _; rw [e9]⟩, by rw [ht]; exact hP, va_K.moved hW.alike hK, hD⟩, hS.F ht⟩) hS.2.2 dX7_begin_38
    · have kc320010 : x320008.toInt = v320009.toInt := by have h9 := c320010; rw [xk_eq] at h9; exact h9
      refine lv_aload_n hx hb dX7_begin_27 rfl (lv_at hl 1 rfl) ?_
      obtain ⟨j320011, hj320011⟩ := wG_7 (cy := cy) (N := N) (T := T) (I := I) (Q := Q) (J := J) (hM.at 0 (by decide)) (hM.k 0 (by decide) rfl)
      refine va_get (D := (dC, dI)) (ci := 7) (v := .ref (T (w 0) 8)) (C := RX7) (T := TX7) (N := 18) hx hb hts hi7 hown hK hP j320011 hj320011 rfl 8 (by decide) (hts (.fieldLink RX7 37 "TallyLogsModel" "mode" "[I") (by decide +kernel)) (fun _ h9 => h9) rfl dX7_begin_28 ?_
      refine W.eq (g2 := F0 m 31 ls [.ref (w 9)]) (by rw [hM.t 8 (by decide)]) ?_
      refine lv_iload_n hx hb dX7_begin_31 rfl (lv_at hl 0 rfl) ?_
      obtain ⟨j320012, hj320012⟩ := wG_20 (cy := cy) (N := N) (T := T) (I := I) (Q := Q) (J := J) (hM.at 9 (by decide)) (hM.k 9 (by decide) rfl)
      refine va_iald hx hb hK hP j320012 1 hj320012 rfl (hM.inN (n := 6) 9 (by decide) rfl rfl hin320005) dX7_begin_32 ?_
      refine lv_topi (fun x320013 ex320013 => ?_)
      have sx320013 : x320013 = σ.1 9 v320004.toNatClampNeg := ex320013.trans (hMR.a (k := 9) (by decide) (by decide) (show _ < 6 from vp_lt (n := 6) hin320005))
      refine lv_if_eq (tgt := 39) hx hb dX7_begin_33 (by decide) (fun c320014 => ?_) (fun c320014 => ?_)
      · have kc320014 : x320013.toInt = 0 := by have h9 := c320014; rw [xk_eq, xk_0] at h9; exact h9
        refine lv_aload_n hx hb dX7_begin_39 rfl (lv_at hl 1 rfl) ?_
        obtain ⟨j320015, hj320015⟩ := wG_7 (cy := cy) (N := N) (T := T) (I := I) (Q := Q) (J := J) (hM.at 0 (by decide)) (hM.k 0 (by decide) rfl)
        refine va_get (D := (dC, dI)) (ci := 7) (v := .ref (T (w 0) 8)) (C := RX7) (T := TX7) (N := 18) hx hb hts hi7 hown hK hP j320015 hj320015 rfl 8 (by decide) (hts (.fieldLink RX7 37 "TallyLogsModel" "mode" "[I") (by decide +kernel)) (fun _ h9 => h9) rfl dX7_begin_40 ?_
        refine W.eq (g2 := F0 m 43 ls [.ref (w 9)]) (by rw [hM.t 8 (by decide)]) ?_
        refine lv_iload_n hx hb dX7_begin_43 rfl (lv_at hl 0 rfl) ?_
        refine lv_iconst (v := 1) hx hb dX7_begin_44 (by decide) ?_
        obtain ⟨j320016, hj320016⟩ := wG_20 (cy := cy) (N := N) (T := T) (I := I) (Q := Q) (J := J) (hM.at 9 (by decide)) (hM.k 9 (by decide) rfl)
        have hDo := hD
        refine va_iast (x := 1) hx hb hK hP hD hS j320016 1 hj320016 rfl (hM.inN (n := 6) 9 (by decide) rfl rfl hin320005) dX7_begin_45 (fun H locs hP hD hS => ?_)
        have hP := Eq.mp (congrArg (fun w => va_P (dC, dI) vwCl w H) (wS_20 hDo (hM.at 9 (by decide)) (hM.k 9 (by decide) rfl) hj320016)) hP
        obtain ⟨J320017, eJ320017⟩ : ∃ z, z = va_up J (w 9) (upd (J (w 9)) v320004.toNatClampNeg 1) := ⟨_, rfl⟩
        rw [← eJ320017] at hP
        have hR : RM w [] I J I J320017 := by rw [eJ320017]; exact hR.pj hM (by decide) (by decide)
        have hMD : MD w J320017 := by rw [eJ320017]; exact hMD.pj hM (by decide) (by decide)
        have hD : va_D A (va_pl L (wF cy K N T I Q J320017)) := pD hDo
        obtain ⟨sg320018, esg320018⟩ : ∃ z, z = sA σ 9 v320004.toNatClampNeg 1 := ⟨_, rfl⟩
        have hMR : MR w I J320017 sg320018 := by rw [eJ320017, esg320018]; exact hMR.wa hM (by decide) (by decide)
        refine lv_aload_n hx hb dX7_begin_46 rfl (lv_at hl 1 rfl) ?_
        obtain ⟨j320019, hj320019⟩ := wG_7 (cy := cy) (N := N) (T := T) (I := I) (Q := Q) (J := J320017) (hM.at 0 (by decide)) (hM.k 0 (by decide) rfl)
        refine va_get (D := (dC, dI)) (ci := 7) (v := .ref (T (w 0) 9)) (C := RX7) (T := TX7) (N := 18) hx hb hts hi7 hown hK hP j320019 hj320019 rfl 9 (by decide) (hts (.fieldLink RX7 40 "TallyLogsModel" "bound" "[I") (by decide +kernel)) (fun _ h9 => h9) rfl dX7_begin_47 ?_
        refine W.eq (g2 := F0 m 50 ls [.ref (w 10)]) (by rw [hM.t 9 (by decide)]) ?_
        refine lv_iload_n hx hb dX7_begin_50 rfl (lv_at hl 0 rfl) ?_
        refine lv_iconst (v := 0) hx hb dX7_begin_51 (by decide) ?_
        obtain ⟨j320020, hj320020⟩ := wG_20 (cy := cy) (N := N) (T := T) (I := I) (Q := Q) (J := J320017) (hM.at 10 (by decide)) (hM.k 10 (by decide) rfl)
        have hDo := hD
        refine va_iast (x := 0) hx hb hK hP hD hS j320020 1 hj320020 rfl (hM.inN (n := 6) 10 (by decide) rfl rfl hin320005) dX7_begin_52 (fun H locs hP hD hS => ?_)
        have hP := Eq.mp (congrArg (fun w => va_P (dC, dI) vwCl w H) (wS_20 hDo (hM.at 10 (by decide)) (hM.k 10 (by decide) rfl) hj320020)) hP
        obtain ⟨J320021, eJ320021⟩ : ∃ z, z = va_up J320017 (w 10) (upd (J320017 (w 10)) v320004.toNatClampNeg 0) := ⟨_, rfl⟩
        rw [← eJ320021] at hP
        have hR : RM w [] I J I J320021 := by rw [eJ320021]; exact hR.pj hM (by decide) (by decide)
        have hMD : MD w J320021 := by rw [eJ320021]; exact hMD.pj hM (by decide) (by decide)
        have hD : va_D A (va_pl L (wF cy K N T I Q J320021)) := pD hDo
        obtain ⟨sg320022, esg320022⟩ : ∃ z, z = sA sg320018 10 v320004.toNatClampNeg 0 := ⟨_, rfl⟩
        have hMR : MR w I J320021 sg320022 := by rw [eJ320021, esg320022]; exact hMR.wa hM (by decide) (by decide)
        refine lv_iconst (v := 0) hx hb dX7_begin_53 (by decide) ?_
        exact W.iret (v := 0) hx hb hr (fun t ht hW => ⟨⟨0, (I, J320021), rfl, ⟨⟨hML.mono (by omega), hMD, hMU⟩, by have e9 : qBg σ xh = (sg320022, 0) := (by rw [qBg, if_neg c320002, if_neg (fun q => q (by have k9 := c320010; simp only [sx320008, ev320004, ev320009] at k9; exact k9)), if_neg (fun q => q (by have k9 := c320014; simp only [sx320013, ev320004] at k9; exact k9))]; simp only [esg320022, esg320018, ev320004, sA_s, sA_n, sA_2, sG_1, gTwo_1, nar1, not_false_eq_true] <;> rfl); show MR w I J320021 _; rw [e9]; exact hMR, by have e9 : qBg σ xh = (sg320022, 0) := (by rw [qBg, if_neg c320002, if_neg (fun q => q (by have k9 := c320010; simp only [sx320008, ev320004, ev320009] at k9; exact k9)), if_neg (fun q => q (by have k9 := c320014; simp only [sx320013, ev320004] at k9; exact k9))]; simp only [esg320022, esg320018, ev320004, sA_s, sA_n, sA_2, sG_1, gTwo_1, nar1, not_false_eq_true] <;> rfl); show _ = _; rw [e9]⟩, by rw [ht]; exact hP, va_K.moved hW.alike hK, hD⟩, hS.F ht⟩) hS.2.2 dX7_begin_54
      · have kc320014 : ¬ (x320013.toInt = 0) := by have h9 := c320014; rw [xk_eq, xk_0] at h9; exact h9
        refine lv_bipush (v := (-4)) hx hb dX7_begin_36 (by decide) ?_
        exact W.iret (v := (-4)) hx hb hr (fun t ht hW => ⟨⟨(-4), (I, J), rfl, ⟨⟨hML.mono (by omega), hMD, hMU⟩, by have e9 : qBg σ xh = (σ, (-4)) := (by rw [qBg, if_neg c320002, if_neg (fun q => q (by have k9 := c320010; simp only [sx320008, ev320004, ev320009] at k9; exact k9)), if_pos (by have k9 := c320014; simp only [sx320013, ev320004] at k9; exact k9)]); show MR w I J _; rw [e9]; exact hMR, by have e9 : qBg σ xh = (σ, (-4)) := (by rw [qBg, if_neg c320002, if_neg (fun q => q (by have k9 := c320010; simp only [sx320008, ev320004, ev320009] at k9; exact k9)), if_pos (by have k9 := c320014; simp only [sx320013, ev320004] at k9; exact k9)]); show _ = _; rw [e9]⟩, by rw [ht]; exact hP, va_K.moved hW.alike hK, hD⟩, hS.F ht⟩) hS.2.2 dX7_begin_38
  · refine lv_iconst (v := (-1)) hx hb dX7_begin_7 (by decide) ?_
    exact W.iret (v := (-1)) hx hb hr (fun t ht hW => ⟨⟨(-1), (I, J), rfl, ⟨⟨hML.mono (by omega), hMD, hMU⟩, by have e9 : qBg σ xh = (σ, (-1)) := (by rw [qBg, if_pos c320002]); show MR w I J _; rw [e9]; exact hMR, by have e9 : qBg σ xh = (σ, (-1)) := (by rw [qBg, if_pos c320002]); show _ = _; rw [e9]⟩, by rw [ht]; exact hP, va_K.moved hW.alike hK, hD⟩, hS.F ht⟩) hS.2.2 dX7_begin_8
set_option maxHeartbeats 4000000 in
set_option maxRecDepth 100000 in
/-- finish, exactly -/
theorem f_X7_finish (l : Launch) (dC : Nat → ClassId) (dI : Nat → Nat → Nat) (cy : Nat → ClassId) (w : Nat → Nat) (L : List Nat) (K N : Nat → Nat) (T : Nat → Nat → Nat) (Q : Nat → Nat → Option Nat) (I J : Nat → Nat → Int32) (sz : Nat) (E : Int) (xh : Int32) (cm : Int32) (σ : SG) (hM : MS w L K N T Q) (hI : MI w E I J) (hE : E ≤ 1000) (hMR : MR w I J σ) : Met l yX7_finish wsX7_finish ({ frames := 1, cells := 0, slots := 0, locals := 22 }) (va_Pc [.ref (w 0), .int xh, .int cm] (mW dC dI cy L (wF cy K N T I Q J) sz)) (va_Qi (fun (r : Int32) (d : (Nat → Nat → Int32) × (Nat → Nat → Int32)) => MI w (E + 5) d.1 d.2 ∧ MR w d.1 d.2 (qFi σ xh cm).1 ∧ r = (qFi σ xh cm).2) (fun (d : (Nat → Nat → Int32) × (Nat → Nat → Int32)) t => va_P (dC, dI) vwCl (va_pl L (wF cy K N T d.1 Q d.2)) t.heap ∧ va_K (dC, dI) vwCl (mTy cy) t ∧ va_D (va_A (va_pl L (wF cy K N T I Q J)) sz) (va_pl L (wF cy K N T d.1 Q d.2))) (va_A (va_pl L (wF cy K N T I Q J)) sz)) 0 0 (va_A (va_pl L (wF cy K N T I Q J)) sz) := by
  refine Met.ofW (cc := cX7_finish) (maxL := 4) (ret := (some .int)) (by decide) rfl ?_
  intro p e s m args below meth c s₁ B hml hv
  obtain ⟨rfl, hsz, ⟨hP, hK⟩, hD0⟩ := hv
  have hx := B.exec
  have hb := B.bytes
  have hr := B.returns
  have hts := atoms_spec (ws := wsX7_finish) B.pre
  have hown : s.vm.findClass RX7 = some m.cls := findClass_of_methodNamed B.named
  have hlocks := B.notSynchronized
  have hi7 : ∀ w ∈ wsX70, w ∈ wsX7_finish := by decide +kernel
  have hl := lv_entry ([.ref (w 0), .int xh, .int cm]) (n := 4) (Nat.le_of_ble_eq_true rfl)
  rw [lg_entry_eq]
  generalize (lg_sl ([.ref (w 0), .int xh, .int cm]) ++ List.replicate (4 - (lg_sl ([.ref (w 0), .int xh, .int cm])).length) Slot.unset).toArray = ls at hl ⊢
  have hl : lv_has ls 4 [(0, .ref (w 0)), (1, .int xh), (2, .int cm)] := hl
  subst hsz
  have hD := hD0.self (sz := s.heap.size)
  generalize hAe : va_A (va_pl L (wF cy K N T I Q J)) s.heap.size = A at hD ⊢
  have hA : ∀ q : Nat, s.heap.size ≤ q → A q := fun q h => by rw [← hAe]; exact Or.inr h
  have hS : va_S A s.heap s.heap [] := va_S.rf
  have hR : RM w [] I J I J := RM.rf
  obtain ⟨hML, hMD, hMU⟩ := hI
  refine lv_iload_n hx hb dX7_finish_0 rfl (lv_at hl 1 rfl) ?_
  refine vp_callSi (W.runS (As := [.int xh]) (rest := []) ⟨hx, hb, hml, hown, hts⟩ (c_X7_isHandle l xh) (va_cwS 1 hts gX7_finish_X7_isHandle rfl rfl rfl (by decide +kernel) ⟨Nat.le_of_ble_eq_true rfl, Nat.le_of_ble_eq_true rfl⟩) preEq rfl rfl hl.1 rfl (lv_room (Nat.le_of_ble_eq_true rfl)) dX7_finish_1 ⟨Nat.le_of_ble_eq_true rfl, Nat.le_of_ble_eq_true rfl⟩) (fun r320023 hr320023 => ?_)
  subst hr320023
  refine lv_if_ne (tgt := 9) hx hb dX7_finish_4 (by decide) (fun c320024 => ?_) (fun c320024 => ?_)
  · have hih320025 := sp_ih1 c320024
    refine lv_iload_n hx hb dX7_finish_9 rfl (lv_at hl 1 rfl) ?_
    refine lv_bipush (v := 8) hx hb dX7_finish_10 (by decide) ?_
    refine lv_irem hx hb dX7_finish_12 (by decide) ?_
    refine lv_topi (fun v320026 ev320026 => ?_)
    have hin320027 : vp_in v320026 6 := by rw [ev320026]; exact hih320025.2
    refine lv_istore_n (lv' := [(3, .int v320026), (0, .ref (w 0)), (1, .int xh), (2, .int cm)]) hx hb dX7_finish_13 rfl hl (by decide) rfl (fun ls hl => ?_)
    refine lv_aload_n hx hb dX7_finish_14 rfl (lv_at hl 1 rfl) ?_
    obtain ⟨j320028, hj320028⟩ := wG_7 (cy := cy) (N := N) (T := T) (I := I) (Q := Q) (J := J) (hM.at 0 (by decide)) (hM.k 0 (by decide) rfl)
    refine va_get (D := (dC, dI)) (ci := 7) (v := .ref (T (w 0) 7)) (C := RX7) (T := TX7) (N := 18) hx hb hts hi7 hown hK hP j320028 hj320028 rfl 7 (by decide) (hts (.fieldLink RX7 34 "TallyLogsModel" "generation" "[I") (by decide +kernel)) (fun _ h9 => h9) rfl dX7_finish_15 ?_
    refine W.eq (g2 := F0 m 18 ls [.ref (w 8)]) (by rw [hM.t 7 (by decide)]) ?_
    refine lv_iload_n hx hb dX7_finish_18 rfl (lv_at hl 0 rfl) ?_
    obtain ⟨j320029, hj320029⟩ := wG_20 (cy := cy) (N := N) (T := T) (I := I) (Q := Q) (J := J) (hM.at 8 (by decide)) (hM.k 8 (by decide) rfl)
    refine va_iald hx hb hK hP j320029 1 hj320029 rfl (hM.inN (n := 6) 8 (by decide) rfl rfl hin320027) dX7_finish_19 ?_
    refine lv_topi (fun x320030 ex320030 => ?_)
    have sx320030 : x320030 = σ.1 8 v320026.toNatClampNeg := ex320030.trans (hMR.a (k := 8) (by decide) (by decide) (show _ < 6 from vp_lt (n := 6) hin320027))
    refine lv_iload_n hx hb dX7_finish_20 rfl (lv_at hl 2 rfl) ?_
    refine lv_bipush (v := 8) hx hb dX7_finish_21 (by decide) ?_
    refine lv_idiv hx hb dX7_finish_23 (by decide) ?_
    refine lv_topi (fun v320031 ev320031 => ?_)
    refine lv_icmp_ne (tgt := 37) hx hb dX7_finish_24 (by decide) (fun c320032 => ?_) (fun c320032 => ?_)
    · have kc320032 : ¬ (x320030.toInt = v320031.toInt) := by have h9 := c320032; rw [xk_eq] at h9; exact h9
      refine lv_bipush (v := (-4)) hx hb dX7_finish_37 (by decide) ?_
      exact W.iret (v := (-4)) hx hb hr (fun t ht hW => ⟨⟨(-4), (I, J), rfl, ⟨⟨hML.mono (by omega), hMD, hMU⟩, by have e9 : qFi σ xh cm = (σ, (-4)) := (by rw [qFi, if_neg c320024, if_pos (by have k9 := c320032; simp only [sx320030, ev320026, ev320031] at k9; exact k9)]); show MR w I J _; rw [e9]; exact hMR, by have e9 : qFi σ xh cm = (σ, (-4)) := (by rw [qFi, if_neg c320024, if_pos (by have k9 := c320032; simp only [sx320030, ev320026, ev320031] at k9; exact k9)]); show _ = _; rw [e9]⟩, by rw [ht]; exact hP, va_K.moved hW.alike hK, hD⟩, hS.F ht⟩) hS.2.2 dX7_finish_39
    · have kc320032 : x320030.toInt = v320031.toInt := by have h9 := c320032; rw [xk_eq] at h9; exact h9
      refine lv_aload_n hx hb dX7_finish_27 rfl (lv_at hl 1 rfl) ?_
      obtain ⟨j320033, hj320033⟩ := wG_7 (cy := cy) (N := N) (T := T) (I := I) (Q := Q) (J := J) (hM.at 0 (by decide)) (hM.k 0 (by decide) rfl)
      refine va_get (D := (dC, dI)) (ci := 7) (v := .ref (T (w 0) 8)) (C := RX7) (T := TX7) (N := 18) hx hb hts hi7 hown hK hP j320033 hj320033 rfl 8 (by decide) (hts (.fieldLink RX7 37 "TallyLogsModel" "mode" "[I") (by decide +kernel)) (fun _ h9 => h9) rfl dX7_finish_28 ?_
      refine W.eq (g2 := F0 m 31 ls [.ref (w 9)]) (by rw [hM.t 8 (by decide)]) ?_
      refine lv_iload_n hx hb dX7_finish_31 rfl (lv_at hl 0 rfl) ?_
      obtain ⟨j320034, hj320034⟩ := wG_20 (cy := cy) (N := N) (T := T) (I := I) (Q := Q) (J := J) (hM.at 9 (by decide)) (hM.k 9 (by decide) rfl)
      refine va_iald hx hb hK hP j320034 1 hj320034 rfl (hM.inN (n := 6) 9 (by decide) rfl rfl hin320027) dX7_finish_32 ?_
      refine lv_topi (fun x320035 ex320035 => ?_)
      have sx320035 : x320035 = σ.1 9 v320026.toNatClampNeg := ex320035.trans (hMR.a (k := 9) (by decide) (by decide) (show _ < 6 from vp_lt (n := 6) hin320027))
      refine lv_iconst (v := 1) hx hb dX7_finish_33 (by decide) ?_
      refine lv_icmp_eq (tgt := 40) hx hb dX7_finish_34 (by decide) (fun c320036 => ?_) (fun c320036 => ?_)
      · have kc320036 : x320035.toInt = 1 := by have h9 := c320036; rw [xk_eq, xk_1] at h9; exact h9
        refine lv_aload_n hx hb dX7_finish_40 rfl (lv_at hl 1 rfl) ?_
        obtain ⟨j320037, hj320037⟩ := wG_7 (cy := cy) (N := N) (T := T) (I := I) (Q := Q) (J := J) (hM.at 0 (by decide)) (hM.k 0 (by decide) rfl)
        refine va_get (D := (dC, dI)) (ci := 7) (v := .ref (T (w 0) 8)) (C := RX7) (T := TX7) (N := 18) hx hb hts hi7 hown hK hP j320037 hj320037 rfl 8 (by decide) (hts (.fieldLink RX7 37 "TallyLogsModel" "mode" "[I") (by decide +kernel)) (fun _ h9 => h9) rfl dX7_finish_41 ?_
        refine W.eq (g2 := F0 m 44 ls [.ref (w 9)]) (by rw [hM.t 8 (by decide)]) ?_
        refine lv_iload_n hx hb dX7_finish_44 rfl (lv_at hl 0 rfl) ?_
        refine lv_iconst (v := 2) hx hb dX7_finish_45 (by decide) ?_
        obtain ⟨j320038, hj320038⟩ := wG_20 (cy := cy) (N := N) (T := T) (I := I) (Q := Q) (J := J) (hM.at 9 (by decide)) (hM.k 9 (by decide) rfl)
        have hDo := hD
        refine va_iast (x := 2) hx hb hK hP hD hS j320038 1 hj320038 rfl (hM.inN (n := 6) 9 (by decide) rfl rfl hin320027) dX7_finish_46 (fun H locs hP hD hS => ?_)
        have hP := Eq.mp (congrArg (fun w => va_P (dC, dI) vwCl w H) (wS_20 hDo (hM.at 9 (by decide)) (hM.k 9 (by decide) rfl) hj320038)) hP
        obtain ⟨J320039, eJ320039⟩ : ∃ z, z = va_up J (w 9) (upd (J (w 9)) v320026.toNatClampNeg 2) := ⟨_, rfl⟩
        rw [← eJ320039] at hP
        have hR : RM w [] I J I J320039 := by rw [eJ320039]; exact hR.pj hM (by decide) (by decide)
        have hMD : MD w J320039 := by rw [eJ320039]; exact hMD.pj hM (by decide) (by decide)
        have hD : va_D A (va_pl L (wF cy K N T I Q J320039)) := pD hDo
        obtain ⟨sg320040, esg320040⟩ : ∃ z, z = sA σ 9 v320026.toNatClampNeg 2 := ⟨_, rfl⟩
        have hMR : MR w I J320039 sg320040 := by rw [eJ320039, esg320040]; exact hMR.wa hM (by decide) (by decide)
        refine lv_aload_n hx hb dX7_finish_47 rfl (lv_at hl 1 rfl) ?_
        obtain ⟨j320041, hj320041⟩ := wG_7 (cy := cy) (N := N) (T := T) (I := I) (Q := Q) (J := J320039) (hM.at 0 (by decide)) (hM.k 0 (by decide) rfl)
        refine va_get (D := (dC, dI)) (ci := 7) (v := .ref (T (w 0) 10)) (C := RX7) (T := TX7) (N := 18) hx hb hts hi7 hown hK hP j320041 hj320041 rfl 10 (by decide) (hts (.fieldLink RX7 43 "TallyLogsModel" "endGeneration" "[I") (by decide +kernel)) (fun _ h9 => h9) rfl dX7_finish_48 ?_
        refine W.eq (g2 := F0 m 51 ls [.ref (w 11)]) (by rw [hM.t 10 (by decide)]) ?_
        refine lv_iload_n hx hb dX7_finish_51 rfl (lv_at hl 0 rfl) ?_
        refine lv_aload_n hx hb dX7_finish_52 rfl (lv_at hl 1 rfl) ?_
        obtain ⟨j320042, hj320042⟩ := wG_7 (cy := cy) (N := N) (T := T) (I := I) (Q := Q) (J := J320039) (hM.at 0 (by decide)) (hM.k 0 (by decide) rfl)
        refine va_get (D := (dC, dI)) (ci := 7) (v := .ref (T (w 0) 7)) (C := RX7) (T := TX7) (N := 18) hx hb hts hi7 hown hK hP j320042 hj320042 rfl 7 (by decide) (hts (.fieldLink RX7 34 "TallyLogsModel" "generation" "[I") (by decide +kernel)) (fun _ h9 => h9) rfl dX7_finish_53 ?_
        refine W.eq (g2 := F0 m 56 ls [.ref (w 8), .int v320026, .ref (w 11)]) (by rw [hM.t 7 (by decide)]) ?_
        refine lv_iload_n hx hb dX7_finish_56 rfl (lv_at hl 0 rfl) ?_
        obtain ⟨j320043, hj320043⟩ := wG_20 (cy := cy) (N := N) (T := T) (I := I) (Q := Q) (J := J320039) (hM.at 8 (by decide)) (hM.k 8 (by decide) rfl)
        refine va_iald hx hb hK hP j320043 1 hj320043 rfl (hM.inN (n := 6) 8 (by decide) rfl rfl hin320027) dX7_finish_57 ?_
        refine lv_topi (fun x320044 ex320044 => ?_)
        have sx320044 : x320044 = sg320040.1 8 v320026.toNatClampNeg := ex320044.trans (hMR.a (k := 8) (by decide) (by decide) (show _ < 6 from vp_lt (n := 6) hin320027))
        obtain ⟨j320045, hj320045⟩ := wG_20 (cy := cy) (N := N) (T := T) (I := I) (Q := Q) (J := J320039) (hM.at 11 (by decide)) (hM.k 11 (by decide) rfl)
        have hDo := hD
        refine va_iast (x := x320044) hx hb hK hP hD hS j320045 1 hj320045 rfl (hM.inN (n := 6) 11 (by decide) rfl rfl hin320027) dX7_finish_58 (fun H locs hP hD hS => ?_)
        have hP := Eq.mp (congrArg (fun w => va_P (dC, dI) vwCl w H) (wS_20 hDo (hM.at 11 (by decide)) (hM.k 11 (by decide) rfl) hj320045)) hP
        obtain ⟨J320046, eJ320046⟩ : ∃ z, z = va_up J320039 (w 11) (upd (J320039 (w 11)) v320026.toNatClampNeg x320044) := ⟨_, rfl⟩
        rw [← eJ320046] at hP
        have hR : RM w [] I J I J320046 := by rw [eJ320046]; exact hR.pj hM (by decide) (by decide)
        have hMD : MD w J320046 := by rw [eJ320046]; exact hMD.pj hM (by decide) (by decide)
        have hD : va_D A (va_pl L (wF cy K N T I Q J320046)) := pD hDo
        obtain ⟨sg320047, esg320047⟩ : ∃ z, z = sA sg320040 11 v320026.toNatClampNeg x320044 := ⟨_, rfl⟩
        have hMR : MR w I J320046 sg320047 := by rw [eJ320046, esg320047]; exact hMR.wa hM (by decide) (by decide)
        refine lv_aload_n hx hb dX7_finish_59 rfl (lv_at hl 1 rfl) ?_
        obtain ⟨j320048, hj320048⟩ := wG_7 (cy := cy) (N := N) (T := T) (I := I) (Q := Q) (J := J320046) (hM.at 0 (by decide)) (hM.k 0 (by decide) rfl)
        refine va_get (D := (dC, dI)) (ci := 7) (v := .ref (T (w 0) 11)) (C := RX7) (T := TX7) (N := 18) hx hb hts hi7 hown hK hP j320048 hj320048 rfl 11 (by decide) (hts (.fieldLink RX7 46 "TallyLogsModel" "endKind" "[I") (by decide +kernel)) (fun _ h9 => h9) rfl dX7_finish_60 ?_
        refine W.eq (g2 := F0 m 63 ls [.ref (w 12)]) (by rw [hM.t 11 (by decide)]) ?_
        refine lv_iload_n hx hb dX7_finish_63 rfl (lv_at hl 0 rfl) ?_
        refine lv_iload_n hx hb dX7_finish_64 rfl (lv_at hl 3 rfl) ?_
        refine lv_if_eq (tgt := 72) hx hb dX7_finish_65 (by decide) (fun c320049 => ?_) (fun c320049 => ?_)
        · have kc320049 : cm.toInt = 0 := by have h9 := c320049; rw [xk_eq, xk_0] at h9; exact h9
          refine lv_iconst (v := 2) hx hb dX7_finish_72 (by decide) ?_
          obtain ⟨j320050, hj320050⟩ := wG_20 (cy := cy) (N := N) (T := T) (I := I) (Q := Q) (J := J320046) (hM.at 12 (by decide)) (hM.k 12 (by decide) rfl)
          have hDo := hD
          refine va_iast (x := 2) hx hb hK hP hD hS j320050 1 hj320050 rfl (hM.inN (n := 6) 12 (by decide) rfl rfl hin320027) dX7_finish_73 (fun H locs hP hD hS => ?_)
          have hP := Eq.mp (congrArg (fun w => va_P (dC, dI) vwCl w H) (wS_20 hDo (hM.at 12 (by decide)) (hM.k 12 (by decide) rfl) hj320050)) hP
          obtain ⟨J320051, eJ320051⟩ : ∃ z, z = va_up J320046 (w 12) (upd (J320046 (w 12)) v320026.toNatClampNeg 2) := ⟨_, rfl⟩
          rw [← eJ320051] at hP
          have hR : RM w [] I J I J320051 := by rw [eJ320051]; exact hR.pj hM (by decide) (by decide)
          have hMD : MD w J320051 := by rw [eJ320051]; exact hMD.pj hM (by decide) (by decide)
          have hD : va_D A (va_pl L (wF cy K N T I Q J320051)) := pD hDo
          obtain ⟨sg320052, esg320052⟩ : ∃ z, z = sA sg320047 12 v320026.toNatClampNeg 2 := ⟨_, rfl⟩
          have hMR : MR w I J320051 sg320052 := by rw [eJ320051, esg320052]; exact hMR.wa hM (by decide) (by decide)
          refine lv_aload_n hx hb dX7_finish_74 rfl (lv_at hl 1 rfl) ?_
          obtain ⟨j320053, hj320053⟩ := wG_7 (cy := cy) (N := N) (T := T) (I := I) (Q := Q) (J := J320051) (hM.at 0 (by decide)) (hM.k 0 (by decide) rfl)
          refine va_get (D := (dC, dI)) (ci := 7) (v := .ref (T (w 0) 9)) (C := RX7) (T := TX7) (N := 18) hx hb hts hi7 hown hK hP j320053 hj320053 rfl 9 (by decide) (hts (.fieldLink RX7 40 "TallyLogsModel" "bound" "[I") (by decide +kernel)) (fun _ h9 => h9) rfl dX7_finish_75 ?_
          refine W.eq (g2 := F0 m 78 ls [.ref (w 10)]) (by rw [hM.t 9 (by decide)]) ?_
          refine lv_iload_n hx hb dX7_finish_78 rfl (lv_at hl 0 rfl) ?_
          obtain ⟨j320054, hj320054⟩ := wG_20 (cy := cy) (N := N) (T := T) (I := I) (Q := Q) (J := J320051) (hM.at 10 (by decide)) (hM.k 10 (by decide) rfl)
          refine va_iald hx hb hK hP j320054 1 hj320054 rfl (hM.inN (n := 6) 10 (by decide) rfl rfl hin320027) dX7_finish_79 ?_
          refine lv_topi (fun x320055 ex320055 => ?_)
          have sx320055 : x320055 = sg320052.1 10 v320026.toNatClampNeg := ex320055.trans (hMR.a (k := 10) (by decide) (by decide) (show _ < 6 from vp_lt (n := 6) hin320027))
          refine vp_callSi (W.runS (As := [.int x320055]) (rest := []) ⟨hx, hb, hml, hown, hts⟩ (c_J6_bitCount_0f7a4 l x320055) (va_cwS 1 hts gX7_finish_J6_bitCount_0f7a4 rfl rfl rfl (by decide +kernel) ⟨Nat.le_of_ble_eq_true rfl, Nat.le_of_ble_eq_true rfl⟩) preEq rfl rfl hl.1 rfl (lv_room (Nat.le_of_ble_eq_true rfl)) dX7_finish_80 ⟨Nat.le_of_ble_eq_true rfl, Nat.le_of_ble_eq_true rfl⟩) (fun r320056 hr320056 => ?_)
          subst hr320056
          exact W.iret (v := (sp_bc x320055)) hx hb hr (fun t ht hW => ⟨⟨(sp_bc x320055), (I, J320051), rfl, ⟨⟨hML.mono (by omega), hMD, hMU⟩, by have e9 : qFi σ xh cm = (sg320052, (sp_bc x320055)) := (by rw [qFi, if_neg c320024, if_neg (fun q => q (by have k9 := c320032; simp only [sx320030, ev320026, ev320031] at k9; exact k9)), if_neg (fun q => q (by have k9 := c320036; simp only [sx320035, ev320026] at k9; exact k9)), if_pos c320049]; simp only [esg320052, esg320047, esg320040, ev320026, sx320044, sx320055, sA_s, sA_n, sA_2, sG_1, gTwo_1, nar1, not_false_eq_true] <;> rfl); show MR w I J320051 _; rw [e9]; exact hMR, by have e9 : qFi σ xh cm = (sg320052, (sp_bc x320055)) := (by rw [qFi, if_neg c320024, if_neg (fun q => q (by have k9 := c320032; simp only [sx320030, ev320026, ev320031] at k9; exact k9)), if_neg (fun q => q (by have k9 := c320036; simp only [sx320035, ev320026] at k9; exact k9)), if_pos c320049]; simp only [esg320052, esg320047, esg320040, ev320026, sx320044, sx320055, sA_s, sA_n, sA_2, sG_1, gTwo_1, nar1, not_false_eq_true] <;> rfl); show _ = _; rw [e9]⟩, by rw [ht]; exact hP, va_K.moved hW.alike hK, hD⟩, hS.F ht⟩) hS.2.2 dX7_finish_83
        · have kc320049 : ¬ (cm.toInt = 0) := by have h9 := c320049; rw [xk_eq, xk_0] at h9; exact h9
          refine lv_iconst (v := 1) hx hb dX7_finish_68 (by decide) ?_
          refine lv_goto (tgt := 73) hx hb dX7_finish_69 (by decide) ?_
          obtain ⟨j320057, hj320057⟩ := wG_20 (cy := cy) (N := N) (T := T) (I := I) (Q := Q) (J := J320046) (hM.at 12 (by decide)) (hM.k 12 (by decide) rfl)
          have hDo := hD
          refine va_iast (x := 1) hx hb hK hP hD hS j320057 1 hj320057 rfl (hM.inN (n := 6) 12 (by decide) rfl rfl hin320027) dX7_finish_73 (fun H locs hP hD hS => ?_)
          have hP := Eq.mp (congrArg (fun w => va_P (dC, dI) vwCl w H) (wS_20 hDo (hM.at 12 (by decide)) (hM.k 12 (by decide) rfl) hj320057)) hP
          obtain ⟨J320058, eJ320058⟩ : ∃ z, z = va_up J320046 (w 12) (upd (J320046 (w 12)) v320026.toNatClampNeg 1) := ⟨_, rfl⟩
          rw [← eJ320058] at hP
          have hR : RM w [] I J I J320058 := by rw [eJ320058]; exact hR.pj hM (by decide) (by decide)
          have hMD : MD w J320058 := by rw [eJ320058]; exact hMD.pj hM (by decide) (by decide)
          have hD : va_D A (va_pl L (wF cy K N T I Q J320058)) := pD hDo
          obtain ⟨sg320059, esg320059⟩ : ∃ z, z = sA sg320047 12 v320026.toNatClampNeg 1 := ⟨_, rfl⟩
          have hMR : MR w I J320058 sg320059 := by rw [eJ320058, esg320059]; exact hMR.wa hM (by decide) (by decide)
          refine lv_aload_n hx hb dX7_finish_74 rfl (lv_at hl 1 rfl) ?_
          obtain ⟨j320060, hj320060⟩ := wG_7 (cy := cy) (N := N) (T := T) (I := I) (Q := Q) (J := J320058) (hM.at 0 (by decide)) (hM.k 0 (by decide) rfl)
          refine va_get (D := (dC, dI)) (ci := 7) (v := .ref (T (w 0) 9)) (C := RX7) (T := TX7) (N := 18) hx hb hts hi7 hown hK hP j320060 hj320060 rfl 9 (by decide) (hts (.fieldLink RX7 40 "TallyLogsModel" "bound" "[I") (by decide +kernel)) (fun _ h9 => h9) rfl dX7_finish_75 ?_
          refine W.eq (g2 := F0 m 78 ls [.ref (w 10)]) (by rw [hM.t 9 (by decide)]) ?_
          refine lv_iload_n hx hb dX7_finish_78 rfl (lv_at hl 0 rfl) ?_
          obtain ⟨j320061, hj320061⟩ := wG_20 (cy := cy) (N := N) (T := T) (I := I) (Q := Q) (J := J320058) (hM.at 10 (by decide)) (hM.k 10 (by decide) rfl)
          refine va_iald hx hb hK hP j320061 1 hj320061 rfl (hM.inN (n := 6) 10 (by decide) rfl rfl hin320027) dX7_finish_79 ?_
          refine lv_topi (fun x320062 ex320062 => ?_)
          have sx320062 : x320062 = sg320059.1 10 v320026.toNatClampNeg := ex320062.trans (hMR.a (k := 10) (by decide) (by decide) (show _ < 6 from vp_lt (n := 6) hin320027))
          refine vp_callSi (W.runS (As := [.int x320062]) (rest := []) ⟨hx, hb, hml, hown, hts⟩ (c_J6_bitCount_0f7a4 l x320062) (va_cwS 1 hts gX7_finish_J6_bitCount_0f7a4 rfl rfl rfl (by decide +kernel) ⟨Nat.le_of_ble_eq_true rfl, Nat.le_of_ble_eq_true rfl⟩) preEq rfl rfl hl.1 rfl (lv_room (Nat.le_of_ble_eq_true rfl)) dX7_finish_80 ⟨Nat.le_of_ble_eq_true rfl, Nat.le_of_ble_eq_true rfl⟩) (fun r320063 hr320063 => ?_)
          subst hr320063
          exact W.iret (v := (sp_bc x320062)) hx hb hr (fun t ht hW => ⟨⟨(sp_bc x320062), (I, J320058), rfl, ⟨⟨hML.mono (by omega), hMD, hMU⟩, by have e9 : qFi σ xh cm = (sg320059, (sp_bc x320062)) := (by rw [qFi, if_neg c320024, if_neg (fun q => q (by have k9 := c320032; simp only [sx320030, ev320026, ev320031] at k9; exact k9)), if_neg (fun q => q (by have k9 := c320036; simp only [sx320035, ev320026] at k9; exact k9)), if_neg c320049]; simp only [esg320059, esg320047, esg320040, ev320026, sx320044, sx320062, sA_s, sA_n, sA_2, sG_1, gTwo_1, nar1, not_false_eq_true] <;> rfl); show MR w I J320058 _; rw [e9]; exact hMR, by have e9 : qFi σ xh cm = (sg320059, (sp_bc x320062)) := (by rw [qFi, if_neg c320024, if_neg (fun q => q (by have k9 := c320032; simp only [sx320030, ev320026, ev320031] at k9; exact k9)), if_neg (fun q => q (by have k9 := c320036; simp only [sx320035, ev320026] at k9; exact k9)), if_neg c320049]; simp only [esg320059, esg320047, esg320040, ev320026, sx320044, sx320062, sA_s, sA_n, sA_2, sG_1, gTwo_1, nar1, not_false_eq_true] <;> rfl); show _ = _; rw [e9]⟩, by rw [ht]; exact hP, va_K.moved hW.alike hK, hD⟩, hS.F ht⟩) hS.2.2 dX7_finish_83
      · have kc320036 : ¬ (x320035.toInt = 1) := by have h9 := c320036; rw [xk_eq, xk_1] at h9; exact h9
        refine lv_bipush (v := (-4)) hx hb dX7_finish_37 (by decide) ?_
        exact W.iret (v := (-4)) hx hb hr (fun t ht hW => ⟨⟨(-4), (I, J), rfl, ⟨⟨hML.mono (by omega), hMD, hMU⟩, by have e9 : qFi σ xh cm = (σ, (-4)) := (by rw [qFi, if_neg c320024, if_neg (fun q => q (by have k9 := c320032; simp only [sx320030, ev320026, ev320031] at k9; exact k9)), if_pos (by have k9 := c320036; simp only [sx320035, ev320026] at k9; exact k9)]); show MR w I J _; rw [e9]; exact hMR, by have e9 : qFi σ xh cm = (σ, (-4)) := (by rw [qFi, if_neg c320024, if_neg (fun q => q (by have k9 := c320032; simp only [sx320030, ev320026, ev320031] at k9; exact k9)), if_pos (by have k9 := c320036; simp only [sx320035, ev320026] at k9; exact k9)]); show _ = _; rw [e9]⟩, by rw [ht]; exact hP, va_K.moved hW.alike hK, hD⟩, hS.F ht⟩) hS.2.2 dX7_finish_39
  · refine lv_iconst (v := (-1)) hx hb dX7_finish_7 (by decide) ?_
    exact W.iret (v := (-1)) hx hb hr (fun t ht hW => ⟨⟨(-1), (I, J), rfl, ⟨⟨hML.mono (by omega), hMD, hMU⟩, by have e9 : qFi σ xh cm = (σ, (-1)) := (by rw [qFi, if_pos c320024]); show MR w I J _; rw [e9]; exact hMR, by have e9 : qFi σ xh cm = (σ, (-1)) := (by rw [qFi, if_pos c320024]); show _ = _; rw [e9]⟩, by rw [ht]; exact hP, va_K.moved hW.alike hK, hD⟩, hS.F ht⟩) hS.2.2 dX7_finish_8
set_option maxHeartbeats 4000000 in
set_option maxRecDepth 100000 in
/-- register, exactly -/
theorem f_X7_register (l : Launch) (dC : Nat → ClassId) (dI : Nat → Nat → Nat) (cy : Nat → ClassId) (w : Nat → Nat) (L : List Nat) (K N : Nat → Nat) (T : Nat → Nat → Nat) (Q : Nat → Nat → Option Nat) (I J : Nat → Nat → Int32) (sz : Nat) (E : Int) (xk : Int32) (σ : SG) (hM : MS w L K N T Q) (hI : MI w E I J) (hE : E ≤ 1000) (hMR : MR w I J σ) : Met l yX7_register wsX7_register ({ frames := 1, cells := 0, slots := 0, locals := 27 }) (va_Pc [.ref (w 0), .int xk] (mW dC dI cy L (wF cy K N T I Q J) sz)) (va_Qi (fun (r : Int32) (d : (Nat → Nat → Int32) × (Nat → Nat → Int32)) => MI w (E + 5) d.1 d.2 ∧ MR w d.1 d.2 (qRg σ xk).1 ∧ r = (qRg σ xk).2) (fun (d : (Nat → Nat → Int32) × (Nat → Nat → Int32)) t => va_P (dC, dI) vwCl (va_pl L (wF cy K N T d.1 Q d.2)) t.heap ∧ va_K (dC, dI) vwCl (mTy cy) t ∧ va_D (va_A (va_pl L (wF cy K N T I Q J)) sz) (va_pl L (wF cy K N T d.1 Q d.2))) (va_A (va_pl L (wF cy K N T I Q J)) sz)) 0 0 (va_A (va_pl L (wF cy K N T I Q J)) sz) := by
  refine Met.ofW (cc := cX7_register) (maxL := 2) (ret := (some .int)) (by decide) rfl ?_
  intro p e s m args below meth c s₁ B hml hv
  obtain ⟨rfl, hsz, ⟨hP, hK⟩, hD0⟩ := hv
  have hx := B.exec
  have hb := B.bytes
  have hr := B.returns
  have hts := atoms_spec (ws := wsX7_register) B.pre
  have hown : s.vm.findClass RX7 = some m.cls := findClass_of_methodNamed B.named
  have hlocks := B.notSynchronized
  have hi7 : ∀ w ∈ wsX70, w ∈ wsX7_register := by decide +kernel
  have hl := lv_entry ([.ref (w 0), .int xk]) (n := 2) (Nat.le_of_ble_eq_true rfl)
  rw [lg_entry_eq]
  generalize (lg_sl ([.ref (w 0), .int xk]) ++ List.replicate (2 - (lg_sl ([.ref (w 0), .int xk])).length) Slot.unset).toArray = ls at hl ⊢
  have hl : lv_has ls 2 [(0, .ref (w 0)), (1, .int xk)] := hl
  subst hsz
  have hD := hD0.self (sz := s.heap.size)
  generalize hAe : va_A (va_pl L (wF cy K N T I Q J)) s.heap.size = A at hD ⊢
  have hA : ∀ q : Nat, s.heap.size ≤ q → A q := fun q h => by rw [← hAe]; exact Or.inr h
  have hS : va_S A s.heap s.heap [] := va_S.rf
  have hR : RM w [8] I J I J := RM.rf
  obtain ⟨hML, hMD, hMU⟩ := hI
  refine lv_iload_n hx hb dX7_register_0 rfl (lv_at hl 1 rfl) ?_
  refine lv_i2l (v := xk.toInt64) hx hb dX7_register_1 rfl ?_
  refine lv_lconst (v := 0) hx hb dX7_register_2 (by decide) ?_
  refine lv_ldc2 hx hb hown (hts (.constantLong RX7 129 5) (by decide +kernel)) dX7_register_3 ?_
  refine vp_callSi (W.runS (As := [.long xk.toInt64, .long 0, .long 5]) (rest := []) ⟨hx, hb, hml, hown, hts⟩ (c_X7_in l xk.toInt64 0 5) (va_cwS 3 hts gX7_register_X7_in rfl rfl rfl (by decide +kernel) ⟨Nat.le_of_ble_eq_true rfl, Nat.le_of_ble_eq_true rfl⟩) preEq rfl rfl hl.1 rfl (lv_room (Nat.le_of_ble_eq_true rfl)) dX7_register_6 ⟨Nat.le_of_ble_eq_true rfl, Nat.le_of_ble_eq_true rfl⟩) (fun r320064 hr320064 => ?_)
  subst hr320064
  refine lv_if_ne (tgt := 14) hx hb dX7_register_9 (by decide) (fun c320065 => ?_) (fun c320065 => ?_)
  · have hin320066 : vp_in xk 6 := xin_sp c320065 (by decide)
    refine lv_aload_n hx hb dX7_register_14 rfl (lv_at hl 0 rfl) ?_
    obtain ⟨j320067, hj320067⟩ := wG_7 (cy := cy) (N := N) (T := T) (I := I) (Q := Q) (J := J) (hM.at 0 (by decide)) (hM.k 0 (by decide) rfl)
    refine va_get (D := (dC, dI)) (ci := 7) (v := .ref (T (w 0) 8)) (C := RX7) (T := TX7) (N := 18) hx hb hts hi7 hown hK hP j320067 hj320067 rfl 8 (by decide) (hts (.fieldLink RX7 37 "TallyLogsModel" "mode" "[I") (by decide +kernel)) (fun _ h9 => h9) rfl dX7_register_15 ?_
    refine W.eq (g2 := F0 m 18 ls [.ref (w 9)]) (by rw [hM.t 8 (by decide)]) ?_
    refine lv_iload_n hx hb dX7_register_18 rfl (lv_at hl 1 rfl) ?_
    obtain ⟨j320068, hj320068⟩ := wG_20 (cy := cy) (N := N) (T := T) (I := I) (Q := Q) (J := J) (hM.at 9 (by decide)) (hM.k 9 (by decide) rfl)
    refine va_iald hx hb hK hP j320068 1 hj320068 rfl (hM.inN (n := 6) 9 (by decide) rfl rfl hin320066) dX7_register_19 ?_
    refine lv_topi (fun x320069 ex320069 => ?_)
    have sx320069 : x320069 = σ.1 9 xk.toNatClampNeg := ex320069.trans (hMR.a (k := 9) (by decide) (by decide) (show _ < 6 from vp_lt (n := 6) hin320066))
    refine lv_iconst (v := 1) hx hb dX7_register_20 (by decide) ?_
    refine lv_icmp_ne (tgt := 50) hx hb dX7_register_21 (by decide) (fun c320070 => ?_) (fun c320070 => ?_)
    · have kc320070 : ¬ (x320069.toInt = 1) := by have h9 := c320070; rw [xk_eq, xk_1] at h9; exact h9
      refine lv_aload_n hx hb dX7_register_50 rfl (lv_at hl 0 rfl) ?_
      obtain ⟨j320071, hj320071⟩ := wG_7 (cy := cy) (N := N) (T := T) (I := I) (Q := Q) (J := J) (hM.at 0 (by decide)) (hM.k 0 (by decide) rfl)
      refine va_get (D := (dC, dI)) (ci := 7) (v := .ref (T (w 0) 7)) (C := RX7) (T := TX7) (N := 18) hx hb hts hi7 hown hK hP j320071 hj320071 rfl 7 (by decide) (hts (.fieldLink RX7 34 "TallyLogsModel" "generation" "[I") (by decide +kernel)) (fun _ h9 => h9) rfl dX7_register_51 ?_
      refine W.eq (g2 := F0 m 54 ls [.ref (w 8)]) (by rw [hM.t 7 (by decide)]) ?_
      refine lv_iload_n hx hb dX7_register_54 rfl (lv_at hl 1 rfl) ?_
      refine lv_dup2_11 hx hb dX7_register_55 rfl rfl ?_
      obtain ⟨j320072, hj320072⟩ := wG_20 (cy := cy) (N := N) (T := T) (I := I) (Q := Q) (J := J) (hM.at 8 (by decide)) (hM.k 8 (by decide) rfl)
      refine va_iald hx hb hK hP j320072 1 hj320072 rfl (hM.inN (n := 6) 8 (by decide) rfl rfl hin320066) dX7_register_56 ?_
      refine lv_topi (fun x320073 ex320073 => ?_)
      have sx320073 : x320073 = σ.1 8 xk.toNatClampNeg := ex320073.trans (hMR.a (k := 8) (by decide) (by decide) (show _ < 6 from vp_lt (n := 6) hin320066))
      refine lv_iconst (v := 1) hx hb dX7_register_57 (by decide) ?_
      refine lv_iadd hx hb dX7_register_58 ?_
      refine lv_topi (fun v320074 ev320074 => ?_)
      obtain ⟨j320075, hj320075⟩ := wG_20 (cy := cy) (N := N) (T := T) (I := I) (Q := Q) (J := J) (hM.at 8 (by decide)) (hM.k 8 (by decide) rfl)
      have hDo := hD
      refine va_iast (x := v320074) hx hb hK hP hD hS j320075 1 hj320075 rfl (hM.inN (n := 6) 8 (by decide) rfl rfl hin320066) dX7_register_59 (fun H locs hP hD hS => ?_)
      have hP := Eq.mp (congrArg (fun w => va_P (dC, dI) vwCl w H) (wS_20 hDo (hM.at 8 (by decide)) (hM.k 8 (by decide) rfl) hj320075)) hP
      obtain ⟨J320076, eJ320076⟩ : ∃ z, z = va_up J (w 8) (upd (J (w 8)) xk.toNatClampNeg v320074) := ⟨_, rfl⟩
      rw [← eJ320076] at hP
      have hR : RM w [8] I J I J320076 := by rw [eJ320076]; exact hR.pj hM (by decide) (by decide)
      have hMD : MD w J320076 := by rw [eJ320076]; exact hMD.pj hM (by decide) (by decide)
      have hD : va_D A (va_pl L (wF cy K N T I Q J320076)) := pD hDo
      obtain ⟨sg320077, esg320077⟩ : ∃ z, z = sA σ 8 xk.toNatClampNeg v320074 := ⟨_, rfl⟩
      have hMR : MR w I J320076 sg320077 := by rw [eJ320076, esg320077]; exact hMR.wa hM (by decide) (by decide)
      refine lv_bipush (v := 8) hx hb dX7_register_60 (by decide) ?_
      refine lv_aload_n hx hb dX7_register_62 rfl (lv_at hl 0 rfl) ?_
      obtain ⟨j320078, hj320078⟩ := wG_7 (cy := cy) (N := N) (T := T) (I := I) (Q := Q) (J := J320076) (hM.at 0 (by decide)) (hM.k 0 (by decide) rfl)
      refine va_get (D := (dC, dI)) (ci := 7) (v := .ref (T (w 0) 7)) (C := RX7) (T := TX7) (N := 18) hx hb hts hi7 hown hK hP j320078 hj320078 rfl 7 (by decide) (hts (.fieldLink RX7 34 "TallyLogsModel" "generation" "[I") (by decide +kernel)) (fun _ h9 => h9) rfl dX7_register_63 ?_
      refine W.eq (g2 := F0 m 66 ls [.ref (w 8), .int 8]) (by rw [hM.t 7 (by decide)]) ?_
      refine lv_iload_n hx hb dX7_register_66 rfl (lv_at hl 1 rfl) ?_
      obtain ⟨j320079, hj320079⟩ := wG_20 (cy := cy) (N := N) (T := T) (I := I) (Q := Q) (J := J320076) (hM.at 8 (by decide)) (hM.k 8 (by decide) rfl)
      refine va_iald hx hb hK hP j320079 1 hj320079 rfl (hM.inN (n := 6) 8 (by decide) rfl rfl hin320066) dX7_register_67 ?_
      refine lv_topi (fun x320080 ex320080 => ?_)
      have sx320080 : x320080 = sg320077.1 8 xk.toNatClampNeg := ex320080.trans (hMR.a (k := 8) (by decide) (by decide) (show _ < 6 from vp_lt (n := 6) hin320066))
      refine lv_imul hx hb dX7_register_68 ?_
      refine lv_topi (fun v320081 ev320081 => ?_)
      refine lv_iload_n hx hb dX7_register_69 rfl (lv_at hl 1 rfl) ?_
      refine lv_iadd hx hb dX7_register_70 ?_
      refine lv_topi (fun v320082 ev320082 => ?_)
      exact W.iret (v := v320082) hx hb hr (fun t ht hW => ⟨⟨v320082, (I, J320076), rfl, ⟨⟨hML.mono (by omega), hMD, hMU⟩, by have e9 : qRg σ xk = (sg320077, v320082) := (by rw [qRg, if_neg c320065, if_neg (by have k9 := c320070; simp only [sx320069] at k9; exact k9)]; simp only [esg320077, ev320074, sx320073, ev320082, ev320081, sx320080, sA_s, sA_n, sA_2, sG_1, gTwo_1, nar1, not_false_eq_true] <;> rfl); show MR w I J320076 _; rw [e9]; exact hMR, by have e9 : qRg σ xk = (sg320077, v320082) := (by rw [qRg, if_neg c320065, if_neg (by have k9 := c320070; simp only [sx320069] at k9; exact k9)]; simp only [esg320077, ev320074, sx320073, ev320082, ev320081, sx320080, sA_s, sA_n, sA_2, sG_1, gTwo_1, nar1, not_false_eq_true] <;> rfl); show _ = _; rw [e9]⟩, by rw [ht]; exact hP, va_K.moved hW.alike hK, hD⟩, hS.F ht⟩) hS.2.2 dX7_register_71
    · have kc320070 : x320069.toInt = 1 := by have h9 := c320070; rw [xk_eq, xk_1] at h9; exact h9
      refine lv_aload_n hx hb dX7_register_24 rfl (lv_at hl 0 rfl) ?_
      obtain ⟨j320083, hj320083⟩ := wG_7 (cy := cy) (N := N) (T := T) (I := I) (Q := Q) (J := J) (hM.at 0 (by decide)) (hM.k 0 (by decide) rfl)
      refine va_get (D := (dC, dI)) (ci := 7) (v := .ref (T (w 0) 8)) (C := RX7) (T := TX7) (N := 18) hx hb hts hi7 hown hK hP j320083 hj320083 rfl 8 (by decide) (hts (.fieldLink RX7 37 "TallyLogsModel" "mode" "[I") (by decide +kernel)) (fun _ h9 => h9) rfl dX7_register_25 ?_
      refine W.eq (g2 := F0 m 28 ls [.ref (w 9)]) (by rw [hM.t 8 (by decide)]) ?_
      refine lv_iload_n hx hb dX7_register_28 rfl (lv_at hl 1 rfl) ?_
      refine lv_iconst (v := 2) hx hb dX7_register_29 (by decide) ?_
      obtain ⟨j320084, hj320084⟩ := wG_20 (cy := cy) (N := N) (T := T) (I := I) (Q := Q) (J := J) (hM.at 9 (by decide)) (hM.k 9 (by decide) rfl)
      have hDo := hD
      refine va_iast (x := 2) hx hb hK hP hD hS j320084 1 hj320084 rfl (hM.inN (n := 6) 9 (by decide) rfl rfl hin320066) dX7_register_30 (fun H locs hP hD hS => ?_)
      have hP := Eq.mp (congrArg (fun w => va_P (dC, dI) vwCl w H) (wS_20 hDo (hM.at 9 (by decide)) (hM.k 9 (by decide) rfl) hj320084)) hP
      obtain ⟨J320085, eJ320085⟩ : ∃ z, z = va_up J (w 9) (upd (J (w 9)) xk.toNatClampNeg 2) := ⟨_, rfl⟩
      rw [← eJ320085] at hP
      have hR : RM w [8] I J I J320085 := by rw [eJ320085]; exact hR.pj hM (by decide) (by decide)
      have hMD : MD w J320085 := by rw [eJ320085]; exact hMD.pj hM (by decide) (by decide)
      have hD : va_D A (va_pl L (wF cy K N T I Q J320085)) := pD hDo
      obtain ⟨sg320086, esg320086⟩ : ∃ z, z = sA σ 9 xk.toNatClampNeg 2 := ⟨_, rfl⟩
      have hMR : MR w I J320085 sg320086 := by rw [eJ320085, esg320086]; exact hMR.wa hM (by decide) (by decide)
      refine lv_aload_n hx hb dX7_register_31 rfl (lv_at hl 0 rfl) ?_
      obtain ⟨j320087, hj320087⟩ := wG_7 (cy := cy) (N := N) (T := T) (I := I) (Q := Q) (J := J320085) (hM.at 0 (by decide)) (hM.k 0 (by decide) rfl)
      refine va_get (D := (dC, dI)) (ci := 7) (v := .ref (T (w 0) 10)) (C := RX7) (T := TX7) (N := 18) hx hb hts hi7 hown hK hP j320087 hj320087 rfl 10 (by decide) (hts (.fieldLink RX7 43 "TallyLogsModel" "endGeneration" "[I") (by decide +kernel)) (fun _ h9 => h9) rfl dX7_register_32 ?_
      refine W.eq (g2 := F0 m 35 ls [.ref (w 11)]) (by rw [hM.t 10 (by decide)]) ?_
      refine lv_iload_n hx hb dX7_register_35 rfl (lv_at hl 1 rfl) ?_
      refine lv_aload_n hx hb dX7_register_36 rfl (lv_at hl 0 rfl) ?_
      obtain ⟨j320088, hj320088⟩ := wG_7 (cy := cy) (N := N) (T := T) (I := I) (Q := Q) (J := J320085) (hM.at 0 (by decide)) (hM.k 0 (by decide) rfl)
      refine va_get (D := (dC, dI)) (ci := 7) (v := .ref (T (w 0) 7)) (C := RX7) (T := TX7) (N := 18) hx hb hts hi7 hown hK hP j320088 hj320088 rfl 7 (by decide) (hts (.fieldLink RX7 34 "TallyLogsModel" "generation" "[I") (by decide +kernel)) (fun _ h9 => h9) rfl dX7_register_37 ?_
      refine W.eq (g2 := F0 m 40 ls [.ref (w 8), .int xk, .ref (w 11)]) (by rw [hM.t 7 (by decide)]) ?_
      refine lv_iload_n hx hb dX7_register_40 rfl (lv_at hl 1 rfl) ?_
      obtain ⟨j320089, hj320089⟩ := wG_20 (cy := cy) (N := N) (T := T) (I := I) (Q := Q) (J := J320085) (hM.at 8 (by decide)) (hM.k 8 (by decide) rfl)
      refine va_iald hx hb hK hP j320089 1 hj320089 rfl (hM.inN (n := 6) 8 (by decide) rfl rfl hin320066) dX7_register_41 ?_
      refine lv_topi (fun x320090 ex320090 => ?_)
      have sx320090 : x320090 = sg320086.1 8 xk.toNatClampNeg := ex320090.trans (hMR.a (k := 8) (by decide) (by decide) (show _ < 6 from vp_lt (n := 6) hin320066))
      obtain ⟨j320091, hj320091⟩ := wG_20 (cy := cy) (N := N) (T := T) (I := I) (Q := Q) (J := J320085) (hM.at 11 (by decide)) (hM.k 11 (by decide) rfl)
      have hDo := hD
      refine va_iast (x := x320090) hx hb hK hP hD hS j320091 1 hj320091 rfl (hM.inN (n := 6) 11 (by decide) rfl rfl hin320066) dX7_register_42 (fun H locs hP hD hS => ?_)
      have hP := Eq.mp (congrArg (fun w => va_P (dC, dI) vwCl w H) (wS_20 hDo (hM.at 11 (by decide)) (hM.k 11 (by decide) rfl) hj320091)) hP
      obtain ⟨J320092, eJ320092⟩ : ∃ z, z = va_up J320085 (w 11) (upd (J320085 (w 11)) xk.toNatClampNeg x320090) := ⟨_, rfl⟩
      rw [← eJ320092] at hP
      have hR : RM w [8] I J I J320092 := by rw [eJ320092]; exact hR.pj hM (by decide) (by decide)
      have hMD : MD w J320092 := by rw [eJ320092]; exact hMD.pj hM (by decide) (by decide)
      have hD : va_D A (va_pl L (wF cy K N T I Q J320092)) := pD hDo
      obtain ⟨sg320093, esg320093⟩ : ∃ z, z = sA sg320086 11 xk.toNatClampNeg x320090 := ⟨_, rfl⟩
      have hMR : MR w I J320092 sg320093 := by rw [eJ320092, esg320093]; exact hMR.wa hM (by decide) (by decide)
      refine lv_aload_n hx hb dX7_register_43 rfl (lv_at hl 0 rfl) ?_
      obtain ⟨j320094, hj320094⟩ := wG_7 (cy := cy) (N := N) (T := T) (I := I) (Q := Q) (J := J320092) (hM.at 0 (by decide)) (hM.k 0 (by decide) rfl)
      refine va_get (D := (dC, dI)) (ci := 7) (v := .ref (T (w 0) 11)) (C := RX7) (T := TX7) (N := 18) hx hb hts hi7 hown hK hP j320094 hj320094 rfl 11 (by decide) (hts (.fieldLink RX7 46 "TallyLogsModel" "endKind" "[I") (by decide +kernel)) (fun _ h9 => h9) rfl dX7_register_44 ?_
      refine W.eq (g2 := F0 m 47 ls [.ref (w 12)]) (by rw [hM.t 11 (by decide)]) ?_
      refine lv_iload_n hx hb dX7_register_47 rfl (lv_at hl 1 rfl) ?_
      refine lv_iconst (v := 2) hx hb dX7_register_48 (by decide) ?_
      obtain ⟨j320095, hj320095⟩ := wG_20 (cy := cy) (N := N) (T := T) (I := I) (Q := Q) (J := J320092) (hM.at 12 (by decide)) (hM.k 12 (by decide) rfl)
      have hDo := hD
      refine va_iast (x := 2) hx hb hK hP hD hS j320095 1 hj320095 rfl (hM.inN (n := 6) 12 (by decide) rfl rfl hin320066) dX7_register_49 (fun H locs hP hD hS => ?_)
      have hP := Eq.mp (congrArg (fun w => va_P (dC, dI) vwCl w H) (wS_20 hDo (hM.at 12 (by decide)) (hM.k 12 (by decide) rfl) hj320095)) hP
      obtain ⟨J320096, eJ320096⟩ : ∃ z, z = va_up J320092 (w 12) (upd (J320092 (w 12)) xk.toNatClampNeg 2) := ⟨_, rfl⟩
      rw [← eJ320096] at hP
      have hR : RM w [8] I J I J320096 := by rw [eJ320096]; exact hR.pj hM (by decide) (by decide)
      have hMD : MD w J320096 := by rw [eJ320096]; exact hMD.pj hM (by decide) (by decide)
      have hD : va_D A (va_pl L (wF cy K N T I Q J320096)) := pD hDo
      obtain ⟨sg320097, esg320097⟩ : ∃ z, z = sA sg320093 12 xk.toNatClampNeg 2 := ⟨_, rfl⟩
      have hMR : MR w I J320096 sg320097 := by rw [eJ320096, esg320097]; exact hMR.wa hM (by decide) (by decide)
      refine lv_aload_n hx hb dX7_register_50 rfl (lv_at hl 0 rfl) ?_
      obtain ⟨j320098, hj320098⟩ := wG_7 (cy := cy) (N := N) (T := T) (I := I) (Q := Q) (J := J320096) (hM.at 0 (by decide)) (hM.k 0 (by decide) rfl)
      refine va_get (D := (dC, dI)) (ci := 7) (v := .ref (T (w 0) 7)) (C := RX7) (T := TX7) (N := 18) hx hb hts hi7 hown hK hP j320098 hj320098 rfl 7 (by decide) (hts (.fieldLink RX7 34 "TallyLogsModel" "generation" "[I") (by decide +kernel)) (fun _ h9 => h9) rfl dX7_register_51 ?_
      refine W.eq (g2 := F0 m 54 ls [.ref (w 8)]) (by rw [hM.t 7 (by decide)]) ?_
      refine lv_iload_n hx hb dX7_register_54 rfl (lv_at hl 1 rfl) ?_
      refine lv_dup2_11 hx hb dX7_register_55 rfl rfl ?_
      obtain ⟨j320099, hj320099⟩ := wG_20 (cy := cy) (N := N) (T := T) (I := I) (Q := Q) (J := J320096) (hM.at 8 (by decide)) (hM.k 8 (by decide) rfl)
      refine va_iald hx hb hK hP j320099 1 hj320099 rfl (hM.inN (n := 6) 8 (by decide) rfl rfl hin320066) dX7_register_56 ?_
      refine lv_topi (fun x320100 ex320100 => ?_)
      have sx320100 : x320100 = sg320097.1 8 xk.toNatClampNeg := ex320100.trans (hMR.a (k := 8) (by decide) (by decide) (show _ < 6 from vp_lt (n := 6) hin320066))
      refine lv_iconst (v := 1) hx hb dX7_register_57 (by decide) ?_
      refine lv_iadd hx hb dX7_register_58 ?_
      refine lv_topi (fun v320101 ev320101 => ?_)
      obtain ⟨j320102, hj320102⟩ := wG_20 (cy := cy) (N := N) (T := T) (I := I) (Q := Q) (J := J320096) (hM.at 8 (by decide)) (hM.k 8 (by decide) rfl)
      have hDo := hD
      refine va_iast (x := v320101) hx hb hK hP hD hS j320102 1 hj320102 rfl (hM.inN (n := 6) 8 (by decide) rfl rfl hin320066) dX7_register_59 (fun H locs hP hD hS => ?_)
      have hP := Eq.mp (congrArg (fun w => va_P (dC, dI) vwCl w H) (wS_20 hDo (hM.at 8 (by decide)) (hM.k 8 (by decide) rfl) hj320102)) hP
      obtain ⟨J320103, eJ320103⟩ : ∃ z, z = va_up J320096 (w 8) (upd (J320096 (w 8)) xk.toNatClampNeg v320101) := ⟨_, rfl⟩
      rw [← eJ320103] at hP
      have hR : RM w [8] I J I J320103 := by rw [eJ320103]; exact hR.pj hM (by decide) (by decide)
      have hMD : MD w J320103 := by rw [eJ320103]; exact hMD.pj hM (by decide) (by decide)
      have hD : va_D A (va_pl L (wF cy K N T I Q J320103)) := pD hDo
      obtain ⟨sg320104, esg320104⟩ : ∃ z, z = sA sg320097 8 xk.toNatClampNeg v320101 := ⟨_, rfl⟩
      have hMR : MR w I J320103 sg320104 := by rw [eJ320103, esg320104]; exact hMR.wa hM (by decide) (by decide)
      refine lv_bipush (v := 8) hx hb dX7_register_60 (by decide) ?_
      refine lv_aload_n hx hb dX7_register_62 rfl (lv_at hl 0 rfl) ?_
      obtain ⟨j320105, hj320105⟩ := wG_7 (cy := cy) (N := N) (T := T) (I := I) (Q := Q) (J := J320103) (hM.at 0 (by decide)) (hM.k 0 (by decide) rfl)
      refine va_get (D := (dC, dI)) (ci := 7) (v := .ref (T (w 0) 7)) (C := RX7) (T := TX7) (N := 18) hx hb hts hi7 hown hK hP j320105 hj320105 rfl 7 (by decide) (hts (.fieldLink RX7 34 "TallyLogsModel" "generation" "[I") (by decide +kernel)) (fun _ h9 => h9) rfl dX7_register_63 ?_
      refine W.eq (g2 := F0 m 66 ls [.ref (w 8), .int 8]) (by rw [hM.t 7 (by decide)]) ?_
      refine lv_iload_n hx hb dX7_register_66 rfl (lv_at hl 1 rfl) ?_
      obtain ⟨j320106, hj320106⟩ := wG_20 (cy := cy) (N := N) (T := T) (I := I) (Q := Q) (J := J320103) (hM.at 8 (by decide)) (hM.k 8 (by decide) rfl)
      refine va_iald hx hb hK hP j320106 1 hj320106 rfl (hM.inN (n := 6) 8 (by decide) rfl rfl hin320066) dX7_register_67 ?_
      refine lv_topi (fun x320107 ex320107 => ?_)
      have sx320107 : x320107 = sg320104.1 8 xk.toNatClampNeg := ex320107.trans (hMR.a (k := 8) (by decide) (by decide) (show _ < 6 from vp_lt (n := 6) hin320066))
      refine lv_imul hx hb dX7_register_68 ?_
      refine lv_topi (fun v320108 ev320108 => ?_)
      refine lv_iload_n hx hb dX7_register_69 rfl (lv_at hl 1 rfl) ?_
      refine lv_iadd hx hb dX7_register_70 ?_
      refine lv_topi (fun v320109 ev320109 => ?_)
      exact W.iret (v := v320109) hx hb hr (fun t ht hW => ⟨⟨v320109, (I, J320103), rfl, ⟨⟨hML.mono (by omega), hMD, hMU⟩, by have e9 : qRg σ xk = (sg320104, v320109) := (by rw [qRg, if_neg c320065, if_pos (by have k9 := c320070; simp only [sx320069] at k9; exact k9)]; simp only [esg320104, esg320097, esg320093, esg320086, ev320101, sx320100, sx320090, ev320109, ev320108, sx320107, sA_s, sA_n, sA_2, sG_1, gTwo_1, nar1, not_false_eq_true] <;> rfl); show MR w I J320103 _; rw [e9]; exact hMR, by have e9 : qRg σ xk = (sg320104, v320109) := (by rw [qRg, if_neg c320065, if_pos (by have k9 := c320070; simp only [sx320069] at k9; exact k9)]; simp only [esg320104, esg320097, esg320093, esg320086, ev320101, sx320100, sx320090, ev320109, ev320108, sx320107, sA_s, sA_n, sA_2, sG_1, gTwo_1, nar1, not_false_eq_true] <;> rfl); show _ = _; rw [e9]⟩, by rw [ht]; exact hP, va_K.moved hW.alike hK, hD⟩, hS.F ht⟩) hS.2.2 dX7_register_71
  · refine lv_iconst (v := (-1)) hx hb dX7_register_12 (by decide) ?_
    exact W.iret (v := (-1)) hx hb hr (fun t ht hW => ⟨⟨(-1), (I, J), rfl, ⟨⟨hML.mono (by omega), hMD, hMU⟩, by have e9 : qRg σ xk = (σ, (-1)) := (by rw [qRg, if_pos c320065]); show MR w I J _; rw [e9]; exact hMR, by have e9 : qRg σ xk = (σ, (-1)) := (by rw [qRg, if_pos c320065]); show _ = _; rw [e9]⟩, by rw [ht]; exact hP, va_K.moved hW.alike hK, hD⟩, hS.F ht⟩) hS.2.2 dX7_register_13
set_option maxHeartbeats 4000000 in
set_option maxRecDepth 100000 in
/-- member, exactly -/
theorem f_X7_member (l : Launch) (dC : Nat → ClassId) (dI : Nat → Nat → Nat) (cy : Nat → ClassId) (w : Nat → Nat) (L : List Nat) (K N : Nat → Nat) (T : Nat → Nat → Nat) (Q : Nat → Nat → Option Nat) (I J : Nat → Nat → Int32) (sz : Nat) (E : Int) (xg : Int32) (xm : Int32) (σ : SG) (hM : MS w L K N T Q) (hI : MI w E I J) (hE : E ≤ 1000) (hMR : MR w I J σ) : Met l yX7_member wsX7_member ({ frames := 1, cells := 0, slots := 0, locals := 27 }) (va_Pc [.ref (w 0), .int xg, .int xm] (mW dC dI cy L (wF cy K N T I Q J) sz)) (va_Qi (fun (r : Int32) (d : (Nat → Nat → Int32) × (Nat → Nat → Int32)) => MI w (E + 5) d.1 d.2 ∧ MR w d.1 d.2 (qMb σ xg xm).1 ∧ r = (qMb σ xg xm).2) (fun (d : (Nat → Nat → Int32) × (Nat → Nat → Int32)) t => va_P (dC, dI) vwCl (va_pl L (wF cy K N T d.1 Q d.2)) t.heap ∧ va_K (dC, dI) vwCl (mTy cy) t ∧ va_D (va_A (va_pl L (wF cy K N T I Q J)) sz) (va_pl L (wF cy K N T d.1 Q d.2))) (va_A (va_pl L (wF cy K N T I Q J)) sz)) 0 0 (va_A (va_pl L (wF cy K N T I Q J)) sz) := by
  refine Met.ofW (cc := cX7_member) (maxL := 3) (ret := (some .int)) (by decide) rfl ?_
  intro p e s m args below meth c s₁ B hml hv
  obtain ⟨rfl, hsz, ⟨hP, hK⟩, hD0⟩ := hv
  have hx := B.exec
  have hb := B.bytes
  have hr := B.returns
  have hts := atoms_spec (ws := wsX7_member) B.pre
  have hown : s.vm.findClass RX7 = some m.cls := findClass_of_methodNamed B.named
  have hlocks := B.notSynchronized
  have hi7 : ∀ w ∈ wsX70, w ∈ wsX7_member := by decide +kernel
  have hl := lv_entry ([.ref (w 0), .int xg, .int xm]) (n := 3) (Nat.le_of_ble_eq_true rfl)
  rw [lg_entry_eq]
  generalize (lg_sl ([.ref (w 0), .int xg, .int xm]) ++ List.replicate (3 - (lg_sl ([.ref (w 0), .int xg, .int xm])).length) Slot.unset).toArray = ls at hl ⊢
  have hl : lv_has ls 3 [(0, .ref (w 0)), (1, .int xg), (2, .int xm)] := hl
  subst hsz
  have hD := hD0.self (sz := s.heap.size)
  generalize hAe : va_A (va_pl L (wF cy K N T I Q J)) s.heap.size = A at hD ⊢
  have hA : ∀ q : Nat, s.heap.size ≤ q → A q := fun q h => by rw [← hAe]; exact Or.inr h
  have hS : va_S A s.heap s.heap [] := va_S.rf
  have hR : RM w [13, 14] I J I J := RM.rf
  obtain ⟨hML, hMD, hMU⟩ := hI
  refine lv_iload_n hx hb dX7_member_0 rfl (lv_at hl 1 rfl) ?_
  refine lv_i2l (v := xg.toInt64) hx hb dX7_member_1 rfl ?_
  refine lv_lconst (v := 0) hx hb dX7_member_2 (by decide) ?_
  refine lv_ldc2 hx hb hown (hts (.constantLong RX7 80 3) (by decide +kernel)) dX7_member_3 ?_
  refine vp_callSi (W.runS (As := [.long xg.toInt64, .long 0, .long 3]) (rest := []) ⟨hx, hb, hml, hown, hts⟩ (c_X7_in l xg.toInt64 0 3) (va_cwS 3 hts gX7_member_X7_in rfl rfl rfl (by decide +kernel) ⟨Nat.le_of_ble_eq_true rfl, Nat.le_of_ble_eq_true rfl⟩) preEq rfl rfl hl.1 rfl (lv_room (Nat.le_of_ble_eq_true rfl)) dX7_member_6 ⟨Nat.le_of_ble_eq_true rfl, Nat.le_of_ble_eq_true rfl⟩) (fun r320110 hr320110 => ?_)
  subst hr320110
  refine lv_if_eq (tgt := 24) hx hb dX7_member_9 (by decide) (fun c320111 => ?_) (fun c320111 => ?_)
  · refine lv_iconst (v := (-1)) hx hb dX7_member_24 (by decide) ?_
    exact W.iret (v := (-1)) hx hb hr (fun t ht hW => ⟨⟨(-1), (I, J), rfl, ⟨⟨hML.mono (by omega), hMD, hMU⟩, by have e9 : qMb σ xg xm = (σ, (-1)) := (by rw [qMb, if_pos c320111]); show MR w I J _; rw [e9]; exact hMR, by have e9 : qMb σ xg xm = (σ, (-1)) := (by rw [qMb, if_pos c320111]); show _ = _; rw [e9]⟩, by rw [ht]; exact hP, va_K.moved hW.alike hK, hD⟩, hS.F ht⟩) hS.2.2 dX7_member_25
  · have hin320112 : vp_in xg 4 := xin_sp c320111 (by decide)
    refine lv_iload_n hx hb dX7_member_12 rfl (lv_at hl 2 rfl) ?_
    refine lv_i2l (v := xm.toInt64) hx hb dX7_member_13 rfl ?_
    refine lv_lconst (v := 0) hx hb dX7_member_14 (by decide) ?_
    refine lv_ldc2 hx hb hown (hts (.constantLong RX7 173 7) (by decide +kernel)) dX7_member_15 ?_
    refine vp_callSi (W.runS (As := [.long xm.toInt64, .long 0, .long 7]) (rest := []) ⟨hx, hb, hml, hown, hts⟩ (c_X7_in l xm.toInt64 0 7) (va_cwS 3 hts gX7_member_X7_in rfl rfl rfl (by decide +kernel) ⟨Nat.le_of_ble_eq_true rfl, Nat.le_of_ble_eq_true rfl⟩) preEq rfl rfl hl.1 rfl (lv_room (Nat.le_of_ble_eq_true rfl)) dX7_member_18 ⟨Nat.le_of_ble_eq_true rfl, Nat.le_of_ble_eq_true rfl⟩) (fun r320113 hr320113 => ?_)
    subst hr320113
    refine lv_if_ne (tgt := 26) hx hb dX7_member_21 (by decide) (fun c320114 => ?_) (fun c320114 => ?_)
    · have hin320115 : vp_in xm 8 := xin_sp c320114 (by decide)
      refine lv_aload_n hx hb dX7_member_26 rfl (lv_at hl 0 rfl) ?_
      obtain ⟨j320116, hj320116⟩ := wG_7 (cy := cy) (N := N) (T := T) (I := I) (Q := Q) (J := J) (hM.at 0 (by decide)) (hM.k 0 (by decide) rfl)
      refine va_get (D := (dC, dI)) (ci := 7) (v := .ref (T (w 0) 12)) (C := RX7) (T := TX7) (N := 18) hx hb hts hi7 hown hK hP j320116 hj320116 rfl 12 (by decide) (hts (.fieldLink RX7 49 "TallyLogsModel" "members" "[I") (by decide +kernel)) (fun _ h9 => h9) rfl dX7_member_27 ?_
      refine W.eq (g2 := F0 m 30 ls [.ref (w 13)]) (by rw [hM.t 12 (by decide)]) ?_
      refine lv_iload_n hx hb dX7_member_30 rfl (lv_at hl 1 rfl) ?_
      refine lv_dup2_11 hx hb dX7_member_31 rfl rfl ?_
      obtain ⟨j320117, hj320117⟩ := wG_20 (cy := cy) (N := N) (T := T) (I := I) (Q := Q) (J := J) (hM.at 13 (by decide)) (hM.k 13 (by decide) rfl)
      refine va_iald hx hb hK hP j320117 1 hj320117 rfl (hM.inN (n := 4) 13 (by decide) rfl rfl hin320112) dX7_member_32 ?_
      refine lv_topi (fun x320118 ex320118 => ?_)
      have sx320118 : x320118 = σ.1 13 xg.toNatClampNeg := ex320118.trans (hMR.a (k := 13) (by decide) (by decide) (show _ < 4 from vp_lt (n := 4) hin320112))
      refine lv_iconst (v := 1) hx hb dX7_member_33 (by decide) ?_
      refine lv_iload_n hx hb dX7_member_34 rfl (lv_at hl 2 rfl) ?_
      refine lv_ishl hx hb dX7_member_35 ?_
      refine lv_topi (fun v320119 ev320119 => ?_)
      refine lv_ixor hx hb dX7_member_36 ?_
      refine lv_topi (fun v320120 ev320120 => ?_)
      obtain ⟨j320121, hj320121⟩ := wG_20 (cy := cy) (N := N) (T := T) (I := I) (Q := Q) (J := J) (hM.at 13 (by decide)) (hM.k 13 (by decide) rfl)
      have hDo := hD
      refine va_iast (x := v320120) hx hb hK hP hD hS j320121 1 hj320121 rfl (hM.inN (n := 4) 13 (by decide) rfl rfl hin320112) dX7_member_37 (fun H locs hP hD hS => ?_)
      have hP := Eq.mp (congrArg (fun w => va_P (dC, dI) vwCl w H) (wS_20 hDo (hM.at 13 (by decide)) (hM.k 13 (by decide) rfl) hj320121)) hP
      obtain ⟨J320122, eJ320122⟩ : ∃ z, z = va_up J (w 13) (upd (J (w 13)) xg.toNatClampNeg v320120) := ⟨_, rfl⟩
      rw [← eJ320122] at hP
      have hR : RM w [13, 14] I J I J320122 := by rw [eJ320122]; exact hR.pj hM (by decide) (by decide)
      have hMD : MD w J320122 := by rw [eJ320122]; exact hMD.pj hM (by decide) (by decide)
      have hD : va_D A (va_pl L (wF cy K N T I Q J320122)) := pD hDo
      obtain ⟨sg320123, esg320123⟩ : ∃ z, z = sA σ 13 xg.toNatClampNeg v320120 := ⟨_, rfl⟩
      have hMR : MR w I J320122 sg320123 := by rw [eJ320122, esg320123]; exact hMR.wa hM (by decide) (by decide)
      refine lv_aload_n hx hb dX7_member_38 rfl (lv_at hl 0 rfl) ?_
      obtain ⟨j320124, hj320124⟩ := wG_7 (cy := cy) (N := N) (T := T) (I := I) (Q := Q) (J := J320122) (hM.at 0 (by decide)) (hM.k 0 (by decide) rfl)
      refine va_get (D := (dC, dI)) (ci := 7) (v := .ref (T (w 0) 13)) (C := RX7) (T := TX7) (N := 18) hx hb hts hi7 hown hK hP j320124 hj320124 rfl 13 (by decide) (hts (.fieldLink RX7 52 "TallyLogsModel" "round" "[I") (by decide +kernel)) (fun _ h9 => h9) rfl dX7_member_39 ?_
      refine W.eq (g2 := F0 m 42 ls [.ref (w 14)]) (by rw [hM.t 13 (by decide)]) ?_
      refine lv_iload_n hx hb dX7_member_42 rfl (lv_at hl 1 rfl) ?_
      refine lv_dup2_11 hx hb dX7_member_43 rfl rfl ?_
      obtain ⟨j320125, hj320125⟩ := wG_20 (cy := cy) (N := N) (T := T) (I := I) (Q := Q) (J := J320122) (hM.at 14 (by decide)) (hM.k 14 (by decide) rfl)
      refine va_iald hx hb hK hP j320125 1 hj320125 rfl (hM.inN (n := 4) 14 (by decide) rfl rfl hin320112) dX7_member_44 ?_
      refine lv_topi (fun x320126 ex320126 => ?_)
      have sx320126 : x320126 = sg320123.1 14 xg.toNatClampNeg := ex320126.trans (hMR.a (k := 14) (by decide) (by decide) (show _ < 4 from vp_lt (n := 4) hin320112))
      refine lv_iconst (v := 1) hx hb dX7_member_45 (by decide) ?_
      refine lv_iadd hx hb dX7_member_46 ?_
      refine lv_topi (fun v320127 ev320127 => ?_)
      obtain ⟨j320128, hj320128⟩ := wG_20 (cy := cy) (N := N) (T := T) (I := I) (Q := Q) (J := J320122) (hM.at 14 (by decide)) (hM.k 14 (by decide) rfl)
      have hDo := hD
      refine va_iast (x := v320127) hx hb hK hP hD hS j320128 1 hj320128 rfl (hM.inN (n := 4) 14 (by decide) rfl rfl hin320112) dX7_member_47 (fun H locs hP hD hS => ?_)
      have hP := Eq.mp (congrArg (fun w => va_P (dC, dI) vwCl w H) (wS_20 hDo (hM.at 14 (by decide)) (hM.k 14 (by decide) rfl) hj320128)) hP
      obtain ⟨J320129, eJ320129⟩ : ∃ z, z = va_up J320122 (w 14) (upd (J320122 (w 14)) xg.toNatClampNeg v320127) := ⟨_, rfl⟩
      rw [← eJ320129] at hP
      have hR : RM w [13, 14] I J I J320129 := by rw [eJ320129]; exact hR.pj hM (by decide) (by decide)
      have hMD : MD w J320129 := by rw [eJ320129]; exact hMD.pj hM (by decide) (by decide)
      have hD : va_D A (va_pl L (wF cy K N T I Q J320129)) := pD hDo
      obtain ⟨sg320130, esg320130⟩ : ∃ z, z = sA sg320123 14 xg.toNatClampNeg v320127 := ⟨_, rfl⟩
      have hMR : MR w I J320129 sg320130 := by rw [eJ320129, esg320130]; exact hMR.wa hM (by decide) (by decide)
      refine lv_aload_n hx hb dX7_member_48 rfl (lv_at hl 0 rfl) ?_
      obtain ⟨j320131, hj320131⟩ := wG_7 (cy := cy) (N := N) (T := T) (I := I) (Q := Q) (J := J320129) (hM.at 0 (by decide)) (hM.k 0 (by decide) rfl)
      refine va_get (D := (dC, dI)) (ci := 7) (v := .ref (T (w 0) 13)) (C := RX7) (T := TX7) (N := 18) hx hb hts hi7 hown hK hP j320131 hj320131 rfl 13 (by decide) (hts (.fieldLink RX7 52 "TallyLogsModel" "round" "[I") (by decide +kernel)) (fun _ h9 => h9) rfl dX7_member_49 ?_
      refine W.eq (g2 := F0 m 52 ls [.ref (w 14)]) (by rw [hM.t 13 (by decide)]) ?_
      refine lv_iload_n hx hb dX7_member_52 rfl (lv_at hl 1 rfl) ?_
      obtain ⟨j320132, hj320132⟩ := wG_20 (cy := cy) (N := N) (T := T) (I := I) (Q := Q) (J := J320129) (hM.at 14 (by decide)) (hM.k 14 (by decide) rfl)
      refine va_iald hx hb hK hP j320132 1 hj320132 rfl (hM.inN (n := 4) 14 (by decide) rfl rfl hin320112) dX7_member_53 ?_
      refine lv_topi (fun x320133 ex320133 => ?_)
      have sx320133 : x320133 = sg320130.1 14 xg.toNatClampNeg := ex320133.trans (hMR.a (k := 14) (by decide) (by decide) (show _ < 4 from vp_lt (n := 4) hin320112))
      exact W.iret (v := x320133) hx hb hr (fun t ht hW => ⟨⟨x320133, (I, J320129), rfl, ⟨⟨hML.mono (by omega), hMD, hMU⟩, by have e9 : qMb σ xg xm = (sg320130, x320133) := (by rw [qMb, if_neg c320111, if_neg c320114]; simp only [esg320130, esg320123, ev320127, sx320126, ev320120, sx320118, ev320119, sx320133, sA_s, sA_n, sA_2, sG_1, gTwo_1, nar1, not_false_eq_true] <;> rfl); show MR w I J320129 _; rw [e9]; exact hMR, by have e9 : qMb σ xg xm = (sg320130, x320133) := (by rw [qMb, if_neg c320111, if_neg c320114]; simp only [esg320130, esg320123, ev320127, sx320126, ev320120, sx320118, ev320119, sx320133, sA_s, sA_n, sA_2, sG_1, gTwo_1, nar1, not_false_eq_true] <;> rfl); show _ = _; rw [e9]⟩, by rw [ht]; exact hP, va_K.moved hW.alike hK, hD⟩, hS.F ht⟩) hS.2.2 dX7_member_54
    · refine lv_iconst (v := (-1)) hx hb dX7_member_24 (by decide) ?_
      exact W.iret (v := (-1)) hx hb hr (fun t ht hW => ⟨⟨(-1), (I, J), rfl, ⟨⟨hML.mono (by omega), hMD, hMU⟩, by have e9 : qMb σ xg xm = (σ, (-1)) := (by rw [qMb, if_neg c320111, if_pos c320114]); show MR w I J _; rw [e9]; exact hMR, by have e9 : qMb σ xg xm = (σ, (-1)) := (by rw [qMb, if_neg c320111, if_pos c320114]); show _ = _; rw [e9]⟩, by rw [ht]; exact hP, va_K.moved hW.alike hK, hD⟩, hS.F ht⟩) hS.2.2 dX7_member_25
set_option maxHeartbeats 4000000 in
set_option maxRecDepth 100000 in
/-- safe, exactly -/
theorem f_X7_safe (l : Launch) (dC : Nat → ClassId) (dI : Nat → Nat → Nat) (cy : Nat → ClassId) (w : Nat → Nat) (L : List Nat) (K N : Nat → Nat) (T : Nat → Nat → Nat) (Q : Nat → Nat → Option Nat) (I J : Nat → Nat → Int32) (xp : Int32) (xo : Int32) (σ : SG) (hM : MS w L K N T Q) (hMR : MR w I J σ) : Met l yX7_safe wsX7_safe ({ frames := 3, cells := 0, slots := 0, locals := 73 }) (va_Pc [.ref (w 0), .int xp, .int xo] (mB dC dI cy L (wF cy K N T I Q J))) (vp_Si (fun r => r = aSf σ xp xo)) 0 0 (fun _ => False) := by
  refine Met.ofW (cc := cX7_safe) (maxL := 4) (ret := (some .int)) (by decide) rfl ?_
  intro p e s m args below meth c s₁ B hml hv
  obtain ⟨rfl, hP, hK⟩ := hv
  have hx := B.exec
  have hb := B.bytes
  have hr := B.returns
  have hts := atoms_spec (ws := wsX7_safe) B.pre
  have hown : s.vm.findClass RX7 = some m.cls := findClass_of_methodNamed B.named
  have hlocks := B.notSynchronized
  have hi7 : ∀ w ∈ wsX70, w ∈ wsX7_safe := by decide +kernel
  have hi6 : ∀ w ∈ wsX60, w ∈ wsX7_safe := by decide +kernel
  have hl := lv_entry ([.ref (w 0), .int xp, .int xo]) (n := 4) (Nat.le_of_ble_eq_true rfl)
  rw [lg_entry_eq]
  generalize (lg_sl ([.ref (w 0), .int xp, .int xo]) ++ List.replicate (4 - (lg_sl ([.ref (w 0), .int xp, .int xo])).length) Slot.unset).toArray = ls at hl ⊢
  have hl : lv_has ls 4 [(0, .ref (w 0)), (1, .int xp), (2, .int xo)] := hl
  refine lv_aload_n hx hb dX7_safe_0 rfl (lv_at hl 0 rfl) ?_
  refine lv_iload_n hx hb dX7_safe_1 rfl (lv_at hl 1 rfl) ?_
  obtain ⟨j320135, hj320135⟩ := wG_7 (cy := cy) (N := N) (T := T) (I := I) (Q := Q) (J := J) (hM.at 0 (by decide)) (hM.k 0 (by decide) rfl)
  refine vp_callSi (W.runV (As := [.int xp]) (rest := []) ⟨hx, hb, hml, hown, hts⟩ (c_X7_isThere l dC dI cy w L K N T Q I J xp hM) (cwV 1 hts gX7_safe_X7_isThere rfl rfl rfl (by decide +kernel) ⟨Nat.le_of_ble_eq_true rfl, Nat.le_of_ble_eq_true rfl⟩) ⟨mb_blind, va_recv hK hP (ci := 7) (q0 := j320135) rfl hj320135, fun U hU hW => ⟨rfl, mb_pre hP hK hU hW⟩⟩ rfl rfl hl.1 rfl (lv_room (Nat.le_of_ble_eq_true rfl)) dX7_safe_2 ⟨Nat.le_of_ble_eq_true rfl, Nat.le_of_ble_eq_true rfl⟩) (fun r320134 hr320134 => ?_)
  refine lv_if_ne (tgt := 10) hx hb dX7_safe_5 (by decide) (fun c320136 => ?_) (fun c320136 => ?_)
  · have hth320137 := sp_it1 (by rw [← hr320134]; exact c320136)
    have kc320136 : ¬ (r320134.toInt = 0) := by have h9 := c320136; rw [xk_eq, xk_0] at h9; exact h9
    refine lv_aload_n hx hb dX7_safe_10 rfl (lv_at hl 0 rfl) ?_
    refine lv_iload_n hx hb dX7_safe_11 rfl (lv_at hl 1 rfl) ?_
    obtain ⟨j320139, hj320139⟩ := wG_7 (cy := cy) (N := N) (T := T) (I := I) (Q := Q) (J := J) (hM.at 0 (by decide)) (hM.k 0 (by decide) rfl)
    refine va_csq (W.runV (As := [.int xp]) (rest := []) ⟨hx, hb, hml, hown, hts⟩ (c_X7_own l dC dI cy w L K N T Q I J xp hM hth320137.1) (cwV 1 hts gX7_safe_X7_own rfl rfl rfl (by decide +kernel) ⟨Nat.le_of_ble_eq_true rfl, Nat.le_of_ble_eq_true rfl⟩) ⟨mb_blind, va_recv hK hP (ci := 7) (q0 := j320139) rfl hj320139, fun U hU hW => ⟨rfl, mb_pre hP hK hU hW⟩⟩ rfl rfl hl.1 rfl (lv_room (Nat.le_of_ble_eq_true rfl)) dX7_safe_12 ⟨Nat.le_of_ble_eq_true rfl, Nat.le_of_ble_eq_true rfl⟩) (fun r320138 hr320138 => ?_)
    subst hr320138
    rcases sp_ow_cs w (I (w 0) 16) (J (w 4) xp.toNatClampNeg) xp.toNatClampNeg with hon320140 | ⟨n320140, hnn320140, eln320140, hubn320140, hon320140⟩
    · refine W.eq (g2 := F0 m 15 ls [.null]) (by rw [hon320140]; rfl) ?_
      have oqn320140 := oOw_no hMR (vp_lt (n := 4) hth320137.1) hon320140
      refine lv_astore_nN (lv' := [(3, .null), (0, .ref (w 0)), (1, .int xp), (2, .int xo)]) hx hb dX7_safe_15 rfl hl (by decide) rfl (fun ls hl => ?_)
      refine lv_aload_nN hx hb dX7_safe_16 rfl (lv_at hl 0 rfl) ?_
      refine lv_ifnonnullN hx hb dX7_safe_17 ?_
      refine lv_bipush (v := (-2)) hx hb dX7_safe_20 (by decide) ?_
      exact W.iret (v := (-2)) hx hb hr (fun t ht hW => ⟨(-2), rfl, by show _ = _; rw [aSf, if_neg (fun q => c320136 (by rw [hr320134, hMR.it]; exact q)), oqn320140], ht⟩) (fun _ h => by cases h) dX7_safe_22
    · have hjn320140 : (5 * xp.toNatClampNeg + n320140) < 20 := by have h1 := vp_lt (n := 4) hth320137.1; omega
      refine W.eq (g2 := F0 m 15 ls [.ref (w (21 + (5 * xp.toNatClampNeg + n320140)))]) (by rw [hon320140]; rfl) ?_
      have oqn320140 := oOw_of hM hMR (vp_lt (n := 4) hth320137.1) hnn320140 eln320140 hubn320140
      refine lv_astore_n (lv' := [(3, .ref (w (21 + (5 * xp.toNatClampNeg + n320140)))), (0, .ref (w 0)), (1, .int xp), (2, .int xo)]) hx hb dX7_safe_15 rfl hl (by decide) rfl (fun ls hl => ?_)
      refine lv_aload_n hx hb dX7_safe_16 rfl (lv_at hl 0 rfl) ?_
      refine lv_ifnonnull (tgt := 23) hx hb dX7_safe_17 (by decide) ?_
      refine lv_iload_n hx hb dX7_safe_23 rfl (lv_at hl 3 rfl) ?_
      refine lv_aload_n hx hb dX7_safe_24 rfl (lv_at hl 0 rfl) ?_
      obtain ⟨j320141, hj320141⟩ := wG_6 (cy := cy) (N := N) (T := T) (I := I) (Q := Q) (J := J) (hM.lg hjn320140).1 (hM.lg hjn320140).2
      refine va_get (D := (dC, dI)) (ci := 6) (v := .int (I (w (21 + (5 * xp.toNatClampNeg + n320140))) 3)) (C := RX6) (T := TX6) (N := 7) hx hb hts hi6 hown hK hP j320141 hj320141 rfl 3 (by decide) (hts (.fieldLink RX7 109 "TallyLogsModel$Log" "high" "I") (by decide +kernel)) (fun _ h9 => h9) rfl dX7_safe_25 ?_
      refine lv_topi (fun x320142 ex320142 => ?_)
      have sx320142 : x320142 = σ.2.1 (5 * xp.toNatClampNeg + n320140) 3 := ex320142.trans (hMR.g hjn320140 (by decide) (by decide))
      have tx320142 : x320142.toInt = (I (w (21 + (5 * xp.toNatClampNeg + n320140))) 3).toInt := congrArg Int32.toInt ex320142
      refine lv_icmp_ge (tgt := 35) hx hb dX7_safe_28 (by decide) (fun c320143 => ?_) (fun c320143 => ?_)
      · have kc320143 : x320142.toInt ≤ xo.toInt := by have h9 := c320143; rw [xk_le] at h9; exact h9
        refine lv_iconst (v := 0) hx hb dX7_safe_35 (by decide) ?_
        exact W.iret (v := 0) hx hb hr (fun t ht hW => ⟨0, rfl, by show _ = _; rw [aSf, if_neg (fun q => c320136 (by rw [hr320134, hMR.it]; exact q)), oqn320140]; show _ = if _ then _ else _; rw [if_pos (by have k9 := c320143; simp only [sx320142] at k9; exact k9)], ht⟩) (fun _ h => by cases h) dX7_safe_36
      · have kc320143 : ¬ (x320142.toInt ≤ xo.toInt) := by have h9 := c320143; rw [xk_le] at h9; exact h9
        refine lv_iconst (v := 1) hx hb dX7_safe_31 (by decide) ?_
        refine lv_goto (tgt := 36) hx hb dX7_safe_32 (by decide) ?_
        exact W.iret (v := 1) hx hb hr (fun t ht hW => ⟨1, rfl, by show _ = _; rw [aSf, if_neg (fun q => c320136 (by rw [hr320134, hMR.it]; exact q)), oqn320140]; show _ = if _ then _ else _; rw [if_neg (by have k9 := c320143; simp only [sx320142] at k9; exact k9)], ht⟩) (fun _ h => by cases h) dX7_safe_36
  · have kc320136 : r320134.toInt = 0 := by have h9 := c320136; rw [xk_eq, xk_0] at h9; exact h9
    refine lv_iconst (v := (-1)) hx hb dX7_safe_8 (by decide) ?_
    exact W.iret (v := (-1)) hx hb hr (fun t ht hW => ⟨(-1), rfl, by show _ = _; rw [aSf, if_pos (by rw [← hMR.it, ← hr320134]; exact c320136)], ht⟩) (fun _ h => by cases h) dX7_safe_9
set_option maxHeartbeats 4000000 in
set_option maxRecDepth 100000 in
/-- seen, exactly -/
theorem f_X7_seen (l : Launch) (dC : Nat → ClassId) (dI : Nat → Nat → Nat) (cy : Nat → ClassId) (w : Nat → Nat) (L : List Nat) (K N : Nat → Nat) (T : Nat → Nat → Nat) (Q : Nat → Nat → Option Nat) (I J : Nat → Nat → Int32) (wh : Int32) (σ : SG) (hM : MS w L K N T Q) (hMR : MR w I J σ) : Met l yX7_seen wsX7_seen ({ frames := 1, cells := 0, slots := 0, locals := 27 }) (va_Pc [.ref (w 0), .int wh] (mB dC dI cy L (wF cy K N T I Q J))) (vp_Si (fun r => r = aSn σ wh)) 0 0 (fun _ => False) := by
  refine Met.ofW (cc := cX7_seen) (maxL := 2) (ret := (some .int)) (by decide) rfl ?_
  intro p e s m args below meth c s₁ B hml hv
  obtain ⟨rfl, hP, hK⟩ := hv
  have hx := B.exec
  have hb := B.bytes
  have hr := B.returns
  have hts := atoms_spec (ws := wsX7_seen) B.pre
  have hown : s.vm.findClass RX7 = some m.cls := findClass_of_methodNamed B.named
  have hlocks := B.notSynchronized
  have hi7 : ∀ w ∈ wsX70, w ∈ wsX7_seen := by decide +kernel
  have hl := lv_entry ([.ref (w 0), .int wh]) (n := 2) (Nat.le_of_ble_eq_true rfl)
  rw [lg_entry_eq]
  generalize (lg_sl ([.ref (w 0), .int wh]) ++ List.replicate (2 - (lg_sl ([.ref (w 0), .int wh])).length) Slot.unset).toArray = ls at hl ⊢
  have hl : lv_has ls 2 [(0, .ref (w 0)), (1, .int wh)] := hl
  refine lv_iload_n hx hb dX7_seen_0 rfl (lv_at hl 1 rfl) ?_
  refine lv_i2l (v := wh.toInt64) hx hb dX7_seen_1 rfl ?_
  refine lv_lconst (v := 0) hx hb dX7_seen_2 (by decide) ?_
  refine lv_ldc2 hx hb hown (hts (.constantLong RX7 129 5) (by decide +kernel)) dX7_seen_3 ?_
  refine vp_callSi (W.runS (As := [.long wh.toInt64, .long 0, .long 5]) (rest := []) ⟨hx, hb, hml, hown, hts⟩ (c_X7_in l wh.toInt64 0 5) (va_cwS 3 hts gX7_seen_X7_in rfl rfl rfl (by decide +kernel) ⟨Nat.le_of_ble_eq_true rfl, Nat.le_of_ble_eq_true rfl⟩) preEq rfl rfl hl.1 rfl (lv_room (Nat.le_of_ble_eq_true rfl)) dX7_seen_6 ⟨Nat.le_of_ble_eq_true rfl, Nat.le_of_ble_eq_true rfl⟩) (fun r320144 hr320144 => ?_)
  subst hr320144
  refine lv_if_eq (tgt := 21) hx hb dX7_seen_9 (by decide) (fun c320145 => ?_) (fun c320145 => ?_)
  · refine lv_iconst (v := 0) hx hb dX7_seen_21 (by decide) ?_
    exact W.iret (v := 0) hx hb hr (fun t ht hW => ⟨0, rfl, by show _ = _; rw [aSn, if_pos c320145], ht⟩) (fun _ h => by cases h) dX7_seen_22
  · have hin320146 : vp_in wh 6 := xin_sp c320145 (by decide)
    refine lv_aload_n hx hb dX7_seen_12 rfl (lv_at hl 0 rfl) ?_
    obtain ⟨j320147, hj320147⟩ := wG_7 (cy := cy) (N := N) (T := T) (I := I) (Q := Q) (J := J) (hM.at 0 (by decide)) (hM.k 0 (by decide) rfl)
    refine va_get (D := (dC, dI)) (ci := 7) (v := .ref (T (w 0) 15)) (C := RX7) (T := TX7) (N := 18) hx hb hts hi7 hown hK hP j320147 hj320147 rfl 15 (by decide) (hts (.fieldLink RX7 58 "TallyLogsModel" "seen" "[I") (by decide +kernel)) (fun _ h9 => h9) rfl dX7_seen_13 ?_
    refine W.eq (g2 := F0 m 16 ls [.ref (w 16)]) (by rw [hM.t 15 (by decide)]) ?_
    refine lv_iload_n hx hb dX7_seen_16 rfl (lv_at hl 1 rfl) ?_
    obtain ⟨j320148, hj320148⟩ := wG_20 (cy := cy) (N := N) (T := T) (I := I) (Q := Q) (J := J) (hM.at 16 (by decide)) (hM.k 16 (by decide) rfl)
    refine va_iald hx hb hK hP j320148 1 hj320148 rfl (hM.inN (n := 6) 16 (by decide) rfl rfl hin320146) dX7_seen_17 ?_
    refine lv_topi (fun x320149 ex320149 => ?_)
    have sx320149 : x320149 = σ.1 16 wh.toNatClampNeg := ex320149.trans (hMR.a (k := 16) (by decide) (by decide) (show _ < 6 from vp_lt (n := 6) hin320146))
    refine lv_goto (tgt := 22) hx hb dX7_seen_18 (by decide) ?_
    exact W.iret (v := x320149) hx hb hr (fun t ht hW => ⟨x320149, rfl, by show _ = _; rw [aSn, if_neg c320145]; exact sx320149, ht⟩) (fun _ h => by cases h) dX7_seen_22
set_option maxHeartbeats 4000000 in
set_option maxRecDepth 100000 in
/-- count, exactly -/
theorem f_X7_count (l : Launch) (dC : Nat → ClassId) (dI : Nat → Nat → Nat) (cy : Nat → ClassId) (w : Nat → Nat) (L : List Nat) (K N : Nat → Nat) (T : Nat → Nat → Nat) (Q : Nat → Nat → Option Nat) (I J : Nat → Nat → Int32) (wh : Int32) (σ : SG) (hM : MS w L K N T Q) (hMR : MR w I J σ) : Met l yX7_count wsX7_count ({ frames := 1, cells := 0, slots := 0, locals := 27 }) (va_Pc [.ref (w 0), .int wh] (mB dC dI cy L (wF cy K N T I Q J))) (vp_Si (fun r => r = aCn σ wh)) 0 0 (fun _ => False) := by
  refine Met.ofW (cc := cX7_count) (maxL := 2) (ret := (some .int)) (by decide) rfl ?_
  intro p e s m args below meth c s₁ B hml hv
  obtain ⟨rfl, hP, hK⟩ := hv
  have hx := B.exec
  have hb := B.bytes
  have hr := B.returns
  have hts := atoms_spec (ws := wsX7_count) B.pre
  have hown : s.vm.findClass RX7 = some m.cls := findClass_of_methodNamed B.named
  have hlocks := B.notSynchronized
  have hi7 : ∀ w ∈ wsX70, w ∈ wsX7_count := by decide +kernel
  have hl := lv_entry ([.ref (w 0), .int wh]) (n := 2) (Nat.le_of_ble_eq_true rfl)
  rw [lg_entry_eq]
  generalize (lg_sl ([.ref (w 0), .int wh]) ++ List.replicate (2 - (lg_sl ([.ref (w 0), .int wh])).length) Slot.unset).toArray = ls at hl ⊢
  have hl : lv_has ls 2 [(0, .ref (w 0)), (1, .int wh)] := hl
  refine lv_iload_n hx hb dX7_count_0 rfl (lv_at hl 1 rfl) ?_
  refine lv_i2l (v := wh.toInt64) hx hb dX7_count_1 rfl ?_
  refine lv_lconst (v := 0) hx hb dX7_count_2 (by decide) ?_
  refine lv_ldc2 hx hb hown (hts (.constantLong RX7 173 7) (by decide +kernel)) dX7_count_3 ?_
  refine vp_callSi (W.runS (As := [.long wh.toInt64, .long 0, .long 7]) (rest := []) ⟨hx, hb, hml, hown, hts⟩ (c_X7_in l wh.toInt64 0 7) (va_cwS 3 hts gX7_count_X7_in rfl rfl rfl (by decide +kernel) ⟨Nat.le_of_ble_eq_true rfl, Nat.le_of_ble_eq_true rfl⟩) preEq rfl rfl hl.1 rfl (lv_room (Nat.le_of_ble_eq_true rfl)) dX7_count_6 ⟨Nat.le_of_ble_eq_true rfl, Nat.le_of_ble_eq_true rfl⟩) (fun r320150 hr320150 => ?_)
  subst hr320150
  refine lv_if_ne (tgt := 14) hx hb dX7_count_9 (by decide) (fun c320151 => ?_) (fun c320151 => ?_)
  · have hin320152 : vp_in wh 8 := xin_sp c320151 (by decide)
    refine lv_iload_n hx hb dX7_count_14 rfl (lv_at hl 1 rfl) ?_
    refine lv_if_ne (tgt := 25) hx hb dX7_count_15 (by decide) (fun c320153 => ?_) (fun c320153 => ?_)
    · have kc320153 : ¬ (wh.toInt = 0) := by have h9 := c320153; rw [xk_eq, xk_0] at h9; exact h9
      refine lv_iload_n hx hb dX7_count_25 rfl (lv_at hl 1 rfl) ?_
      refine lv_iconst (v := 1) hx hb dX7_count_26 (by decide) ?_
      refine lv_icmp_ne (tgt := 37) hx hb dX7_count_27 (by decide) (fun c320154 => ?_) (fun c320154 => ?_)
      · have kc320154 : ¬ (wh.toInt = 1) := by have h9 := c320154; rw [xk_eq, xk_1] at h9; exact h9
        refine lv_aload_n hx hb dX7_count_37 rfl (lv_at hl 0 rfl) ?_
        obtain ⟨j320155, hj320155⟩ := wG_7 (cy := cy) (N := N) (T := T) (I := I) (Q := Q) (J := J) (hM.at 0 (by decide)) (hM.k 0 (by decide) rfl)
        refine va_get (D := (dC, dI)) (ci := 7) (v := .ref (T (w 0) 8)) (C := RX7) (T := TX7) (N := 18) hx hb hts hi7 hown hK hP j320155 hj320155 rfl 8 (by decide) (hts (.fieldLink RX7 37 "TallyLogsModel" "mode" "[I") (by decide +kernel)) (fun _ h9 => h9) rfl dX7_count_38 ?_
        refine W.eq (g2 := F0 m 41 ls [.ref (w 9)]) (by rw [hM.t 8 (by decide)]) ?_
        refine lv_iload_n hx hb dX7_count_41 rfl (lv_at hl 1 rfl) ?_
        refine lv_iconst (v := 2) hx hb dX7_count_42 (by decide) ?_
        refine lv_isub hx hb dX7_count_43 ?_
        refine lv_topi (fun v320156 ev320156 => ?_)
        have hin320157 : vp_in v320156 6 := by have h9 := vp_in_iff.mp hin320152; rw [ev320156]; exact xin_of (by rw [xsub (by rw [xk_2]; omega) (by rw [xk_2]; omega), xk_2]; omega) (by rw [xsub (by rw [xk_2]; omega) (by rw [xk_2]; omega), xk_2]; omega)
        obtain ⟨j320158, hj320158⟩ := wG_20 (cy := cy) (N := N) (T := T) (I := I) (Q := Q) (J := J) (hM.at 9 (by decide)) (hM.k 9 (by decide) rfl)
        refine va_iald hx hb hK hP j320158 1 hj320158 rfl (hM.inN (n := 6) 9 (by decide) rfl rfl hin320157) dX7_count_44 ?_
        refine lv_topi (fun x320159 ex320159 => ?_)
        have sx320159 : x320159 = σ.1 9 v320156.toNatClampNeg := ex320159.trans (hMR.a (k := 9) (by decide) (by decide) (show _ < 6 from vp_lt (n := 6) hin320157))
        exact W.iret (v := x320159) hx hb hr (fun t ht hW => ⟨x320159, rfl, by show _ = _; rw [aCn, if_neg c320151, if_neg c320153, if_neg c320154, sx320159, ev320156], ht⟩) (fun _ h => by cases h) dX7_count_45
      · have kc320154 : wh.toInt = 1 := by have h9 := c320154; rw [xk_eq, xk_1] at h9; exact h9
        refine lv_aload_n hx hb dX7_count_30 rfl (lv_at hl 0 rfl) ?_
        obtain ⟨j320160, hj320160⟩ := wG_7 (cy := cy) (N := N) (T := T) (I := I) (Q := Q) (J := J) (hM.at 0 (by decide)) (hM.k 0 (by decide) rfl)
        refine va_get (D := (dC, dI)) (ci := 7) (v := .int (I (w 0) 16)) (C := RX7) (T := TX7) (N := 18) hx hb hts hi7 hown hK hP j320160 hj320160 rfl 16 (by decide) (hts (.fieldLink RX7 61 "TallyLogsModel" "up" "I") (by decide +kernel)) (fun _ h9 => h9) rfl dX7_count_31 ?_
        refine lv_topi (fun x320161 ex320161 => ?_)
        have sx320161 : x320161 = σ.1 0 0 := ex320161.trans hMR.1.1
        have tx320161 : x320161.toInt = (I (w 0) 16).toInt := congrArg Int32.toInt ex320161
        refine lv_goto (tgt := 45) hx hb dX7_count_34 (by decide) ?_
        exact W.iret (v := x320161) hx hb hr (fun t ht hW => ⟨x320161, rfl, by show _ = _; rw [aCn, if_neg c320151, if_neg c320153, if_pos c320154]; exact sx320161, ht⟩) (fun _ h => by cases h) dX7_count_45
    · have kc320153 : wh.toInt = 0 := by have h9 := c320153; rw [xk_eq, xk_0] at h9; exact h9
      refine lv_aload_n hx hb dX7_count_18 rfl (lv_at hl 0 rfl) ?_
      obtain ⟨j320162, hj320162⟩ := wG_7 (cy := cy) (N := N) (T := T) (I := I) (Q := Q) (J := J) (hM.at 0 (by decide)) (hM.k 0 (by decide) rfl)
      refine va_get (D := (dC, dI)) (ci := 7) (v := .int (I (w 0) 17)) (C := RX7) (T := TX7) (N := 18) hx hb hts hi7 hown hK hP j320162 hj320162 rfl 17 (by decide) (hts (.fieldLink RX7 119 "TallyLogsModel" "now" "I") (by decide +kernel)) (fun _ h9 => h9) rfl dX7_count_19 ?_
      refine lv_topi (fun x320163 ex320163 => ?_)
      have sx320163 : x320163 = σ.1 0 1 := ex320163.trans hMR.1.2
      have tx320163 : x320163.toInt = (I (w 0) 17).toInt := congrArg Int32.toInt ex320163
      refine lv_goto (tgt := 45) hx hb dX7_count_22 (by decide) ?_
      exact W.iret (v := x320163) hx hb hr (fun t ht hW => ⟨x320163, rfl, by show _ = _; rw [aCn, if_neg c320151, if_pos c320153]; exact sx320163, ht⟩) (fun _ h => by cases h) dX7_count_45
  · refine lv_iconst (v := (-1)) hx hb dX7_count_12 (by decide) ?_
    exact W.iret (v := (-1)) hx hb hr (fun t ht hW => ⟨(-1), rfl, by show _ = _; rw [aCn, if_pos c320151], ht⟩) (fun _ h => by cases h) dX7_count_13
