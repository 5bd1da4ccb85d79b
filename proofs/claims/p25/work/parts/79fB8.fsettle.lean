set_option maxHeartbeats 4000000 in
set_option maxRecDepth 100000 in
/-- settle, exactly -/
theorem f_X7_settle (l : Launch) (dC : Nat → ClassId) (dI : Nat → Nat → Nat) (cy : Nat → ClassId) (w : Nat → Nat) (L : List Nat) (K N : Nat → Nat) (T : Nat → Nat → Nat) (Q : Nat → Nat → Option Nat) (I J : Nat → Nat → Int32) (sz : Nat) (E : Int) (xk : Int32) (σ : SG) (hM : MS w L K N T Q) (hI : MI w E I J) (hE : E ≤ 1000) (hMR : MR w I J σ) : Met l yX7_settle wsX7_settle ({ frames := 4, cells := 0, slots := 0, locals := 99 }) (va_Pc [.ref (w 0), .int xk] (mW dC dI cy L (wF cy K N T I Q J) sz)) (va_Qi (fun (r : Int32) (d : (Nat → Nat → Int32) × (Nat → Nat → Int32)) => MI w (E + 5) d.1 d.2 ∧ MR w d.1 d.2 (qSt σ xk).1 ∧ r = (qSt σ xk).2) (fun (d : (Nat → Nat → Int32) × (Nat → Nat → Int32)) t => va_P (dC, dI) vwCl (va_pl L (wF cy K N T d.1 Q d.2)) t.heap ∧ va_K (dC, dI) vwCl (mTy cy) t ∧ va_D (va_A (va_pl L (wF cy K N T I Q J)) sz) (va_pl L (wF cy K N T d.1 Q d.2))) (va_A (va_pl L (wF cy K N T I Q J)) sz)) 0 0 (va_A (va_pl L (wF cy K N T I Q J)) sz) := by
  refine Met.ofW (cc := cX7_settle) (maxL := 4) (ret := (some .int)) (by decide) rfl ?_
  intro p e s m args below meth c s₁ B hml hv
  obtain ⟨rfl, hsz, ⟨hP, hK⟩, hD0⟩ := hv
  have hx := B.exec
  have hb := B.bytes
  have hr := B.returns
  have hts := atoms_spec (ws := wsX7_settle) B.pre
  have hown : s.vm.findClass RX7 = some m.cls := findClass_of_methodNamed B.named
  have hlocks := B.notSynchronized
  have hi7 : ∀ w ∈ wsX70, w ∈ wsX7_settle := by decide +kernel
  have hl := lv_entry ([.ref (w 0), .int xk]) (n := 4) (Nat.le_of_ble_eq_true rfl)
  rw [lg_entry_eq]
  generalize (lg_sl ([.ref (w 0), .int xk]) ++ List.replicate (4 - (lg_sl ([.ref (w 0), .int xk])).length) Slot.unset).toArray = ls at hl ⊢
  have hl : lv_has ls 4 [(0, .ref (w 0)), (1, .int xk)] := hl
  subst hsz
  have hD := hD0.self (sz := s.heap.size)
  generalize hAe : va_A (va_pl L (wF cy K N T I Q J)) s.heap.size = A at hD ⊢
  have hA : ∀ q : Nat, s.heap.size ≤ q → A q := fun q h => by rw [← hAe]; exact Or.inr h
  have hS : va_S A s.heap s.heap [] := va_S.rf
  have hR : RM w [] I J I J := RM.rf
  obtain ⟨hML, hMD, hMU⟩ := hI
  refine lv_iload_n hx hb dX7_settle_0 rfl (lv_at hl 1 rfl) ?_
  refine lv_i2l (v := xk.toInt64) hx hb dX7_settle_1 rfl ?_
  refine lv_lconst (v := 0) hx hb dX7_settle_2 (by decide) ?_
  refine lv_ldc2 hx hb hown (hts (.constantLong RX7 129 5) (by decide +kernel)) dX7_settle_3 ?_
  refine vp_callSi (W.runS (As := [.long xk.toInt64, .long 0, .long 5]) (rest := []) ⟨hx, hb, hml, hown, hts⟩ (c_X7_in l xk.toInt64 0 5) (va_cwS 3 hts gX7_settle_X7_in rfl rfl rfl (by decide +kernel) ⟨Nat.le_of_ble_eq_true rfl, Nat.le_of_ble_eq_true rfl⟩) preEq rfl rfl hl.1 rfl (lv_room (Nat.le_of_ble_eq_true rfl)) dX7_settle_6 ⟨Nat.le_of_ble_eq_true rfl, Nat.le_of_ble_eq_true rfl⟩) (fun r350066 hr350066 => ?_)
  subst hr350066
  refine lv_if_ne (tgt := 14) hx hb dX7_settle_9 (by decide) (fun c350067 => ?_) (fun c350067 => ?_)
  · have hin350068 : vp_in xk 6 := xin_sp c350067 (by decide)
    refine lv_aload_n hx hb dX7_settle_14 rfl (lv_at hl 0 rfl) ?_
    obtain ⟨j350069, hj350069⟩ := wG_7 (cy := cy) (N := N) (T := T) (I := I) (Q := Q) (J := J) (hM.at 0 (by decide)) (hM.k 0 (by decide) rfl)
    refine va_get (D := (dC, dI)) (ci := 7) (v := .ref (T (w 0) 8)) (C := RX7) (T := TX7) (N := 18) hx hb hts hi7 hown hK hP j350069 hj350069 rfl 8 (by decide) (hts (.fieldLink RX7 37 "TallyLogsModel" "mode" "[I") (by decide +kernel)) (fun _ h9 => h9) rfl dX7_settle_15 ?_
    refine W.eq (g2 := F0 m 18 ls [.ref (w 9)]) (by rw [hM.t 8 (by decide)]) ?_
    refine lv_iload_n hx hb dX7_settle_18 rfl (lv_at hl 1 rfl) ?_
    obtain ⟨j350070, hj350070⟩ := wG_20 (cy := cy) (N := N) (T := T) (I := I) (Q := Q) (J := J) (hM.at 9 (by decide)) (hM.k 9 (by decide) rfl)
    refine va_iald hx hb hK hP j350070 1 hj350070 rfl (hM.inN (n := 6) 9 (by decide) rfl rfl hin350068) dX7_settle_19 ?_
    refine lv_topi (fun x350071 ex350071 => ?_)
    have sx350071 : x350071 = σ.1 9 xk.toNatClampNeg := ex350071.trans (hMR.a (k := 9) (by decide) (by decide) (show _ < 6 from vp_lt (n := 6) hin350068))
    refine lv_iconst (v := 2) hx hb dX7_settle_20 (by decide) ?_
    refine lv_icmp_eq (tgt := 27) hx hb dX7_settle_21 (by decide) (fun c350072 => ?_) (fun c350072 => ?_)
    · have kc350072 : x350071.toInt = 2 := by have h9 := c350072; rw [xk_eq, xk_2] at h9; exact h9
      refine lv_iconst (v := 0) hx hb dX7_settle_27 (by decide) ?_
      refine lv_istore_n (lv' := [(2, .int 0), (0, .ref (w 0)), (1, .int xk)]) hx hb dX7_settle_28 rfl hl (by decide) rfl (fun ls hl => ?_)
      have hkx : nI xk.toNatClampNeg = xk := (xnI hin350068 (by decide)).symm
      refine wq_gen (fun Qz hQz => ?_)
      have hLP350073 : ∀ (n k350073 : Nat) (Ia350073 Ja350073 : Nat → Nat → Int32) (H : Heap) (locs : List Loc) (ls : Array Slot), k350073 + n = 4 → (True) → RM w [] I J Ia350073 Ja350073 → ML w (E + (k350073 : Nat)) Ia350073 → MD w Ja350073 → MU w Ia350073 → MR w Ia350073 Ja350073 (oSn σ xk.toNatClampNeg k350073) →  va_P (dC, dI) vwCl (va_pl L (wF cy K N T Ia350073 Q Ja350073)) H → va_D A (va_pl L (wF cy K N T Ia350073 Q Ja350073)) → va_S A s.heap H locs → lv_has ls 4 [(2, .int (nI k350073)), (0, .ref (w 0)), (1, .int xk)] → W p l e (headSpec wsX7_settle ({ frames := 4, cells := 0, slots := 0, locals := 99 })).room s m ([.ref (w 0), .int xk] : List Value).toArray below meth c H locs 0 0 Qz (F0 m 29 ls []) := by
        intro n
        induction n with
        | zero =>
          intro k350073  Ia350073 Ja350073 H locs ls hkn350073 hiv350073 hR hML hMD hMU hMR hP hD hS hl
          obtain rfl : k350073 = 4 := by omega
          refine lv_iload_n hx hb dX7_settle_29 rfl (lv_at hl 0 rfl) ?_
          refine lv_iconst (v := 4) hx hb dX7_settle_30 (by decide) ?_
          refine lv_icmp_ge (tgt := 124) hx hb dX7_settle_31 (by decide) (fun c350074 => ?_) (fun c350074 => ?_)
          rotate_left
          · exact absurd (by decide) c350074
          refine lv_aload_n hx hb dX7_settle_124 rfl (lv_at hl 1 rfl) ?_
          obtain ⟨j350075, hj350075⟩ := wG_7 (cy := cy) (N := N) (T := T) (I := Ia350073) (Q := Q) (J := Ja350073) (hM.at 0 (by decide)) (hM.k 0 (by decide) rfl)
          refine va_get (D := (dC, dI)) (ci := 7) (v := .ref (T (w 0) 9)) (C := RX7) (T := TX7) (N := 18) hx hb hts hi7 hown hK hP j350075 hj350075 rfl 9 (by decide) (hts (.fieldLink RX7 40 "TallyLogsModel" "bound" "[I") (by decide +kernel)) (fun _ h9 => h9) rfl dX7_settle_125 ?_
          refine W.eq (g2 := F0 m 128 ls [.ref (w 10)]) (by rw [hM.t 9 (by decide)]) ?_
          refine lv_iload_n hx hb dX7_settle_128 rfl (lv_at hl 2 rfl) ?_
          obtain ⟨j350076, hj350076⟩ := wG_20 (cy := cy) (N := N) (T := T) (I := Ia350073) (Q := Q) (J := Ja350073) (hM.at 10 (by decide)) (hM.k 10 (by decide) rfl)
          refine va_iald hx hb hK hP j350076 1 hj350076 rfl (hM.inN (n := 6) 10 (by decide) rfl rfl hin350068) dX7_settle_129 ?_
          refine lv_topi (fun x350077 ex350077 => ?_)
          have sx350077 : x350077 = (oSn σ xk.toNatClampNeg 4).1 10 xk.toNatClampNeg := ex350077.trans (hMR.a (k := 10) (by decide) (by decide) (show _ < 6 from vp_lt (n := 6) hin350068))
          refine lv_if_ne (tgt := 140) hx hb dX7_settle_130 (by decide) (fun c350078 => ?_) (fun c350078 => ?_)
          · have kc350078 : ¬ (x350077.toInt = 0) := by have h9 := c350078; rw [xk_eq, xk_0] at h9; exact h9
            refine lv_aload_n hx hb dX7_settle_140 rfl (lv_at hl 1 rfl) ?_
            obtain ⟨j350079, hj350079⟩ := wG_7 (cy := cy) (N := N) (T := T) (I := Ia350073) (Q := Q) (J := Ja350073) (hM.at 0 (by decide)) (hM.k 0 (by decide) rfl)
            refine va_get (D := (dC, dI)) (ci := 7) (v := .ref (T (w 0) 9)) (C := RX7) (T := TX7) (N := 18) hx hb hts hi7 hown hK hP j350079 hj350079 rfl 9 (by decide) (hts (.fieldLink RX7 40 "TallyLogsModel" "bound" "[I") (by decide +kernel)) (fun _ h9 => h9) rfl dX7_settle_141 ?_
            refine W.eq (g2 := F0 m 144 ls [.ref (w 10)]) (by rw [hM.t 9 (by decide)]) ?_
            refine lv_iload_n hx hb dX7_settle_144 rfl (lv_at hl 2 rfl) ?_
            obtain ⟨j350080, hj350080⟩ := wG_20 (cy := cy) (N := N) (T := T) (I := Ia350073) (Q := Q) (J := Ja350073) (hM.at 10 (by decide)) (hM.k 10 (by decide) rfl)
            refine va_iald hx hb hK hP j350080 1 hj350080 rfl (hM.inN (n := 6) 10 (by decide) rfl rfl hin350068) dX7_settle_145 ?_
            refine lv_topi (fun x350081 ex350081 => ?_)
            have sx350081 : x350081 = (oSn σ xk.toNatClampNeg 4).1 10 xk.toNatClampNeg := ex350081.trans (hMR.a (k := 10) (by decide) (by decide) (show _ < 6 from vp_lt (n := 6) hin350068))
            refine vp_callSi (W.runS (As := [.int x350081]) (rest := []) ⟨hx, hb, hml, hown, hts⟩ (c_J6_bitCount_0f7a4 l x350081) (va_cwS 1 hts gX7_settle_J6_bitCount_0f7a4 rfl rfl rfl (by decide +kernel) ⟨Nat.le_of_ble_eq_true rfl, Nat.le_of_ble_eq_true rfl⟩) preEq rfl rfl hl.1 rfl (lv_room (Nat.le_of_ble_eq_true rfl)) dX7_settle_146 ⟨Nat.le_of_ble_eq_true rfl, Nat.le_of_ble_eq_true rfl⟩) (fun r350082 hr350082 => ?_)
            subst hr350082
            rw [hQz]
            exact W.iret (v := (sp_bc x350081)) hx hb hr (fun t ht hW => ⟨⟨(sp_bc x350081), (Ia350073, Ja350073), rfl, ⟨⟨hML.mono (by omega), hMD, hMU⟩, by have e9 : qSt σ xk = ((oSn σ xk.toNatClampNeg 4), (sp_bc x350081)) := (by rw [qSt, if_neg c350067, if_neg (fun q => q (by have k9 := c350072; simp only [sx350071] at k9; exact k9)), if_neg (by have k9 := c350078; simp only [sx350077] at k9; exact k9)]; simp only [sx350081, sA_s, sA_n, sA_2, sG_1, gTwo_1, nar1, not_false_eq_true] <;> rfl); show MR w Ia350073 Ja350073 _; rw [e9]; exact hMR, by have e9 : qSt σ xk = ((oSn σ xk.toNatClampNeg 4), (sp_bc x350081)) := (by rw [qSt, if_neg c350067, if_neg (fun q => q (by have k9 := c350072; simp only [sx350071] at k9; exact k9)), if_neg (by have k9 := c350078; simp only [sx350077] at k9; exact k9)]; simp only [sx350081, sA_s, sA_n, sA_2, sG_1, gTwo_1, nar1, not_false_eq_true] <;> rfl); show _ = _; rw [e9]⟩, by rw [ht]; exact hP, va_K.moved hW.alike hK, hD⟩, hS.F ht⟩) hS.2.2 dX7_settle_149
          · have kc350078 : x350077.toInt = 0 := by have h9 := c350078; rw [xk_eq, xk_0] at h9; exact h9
            refine lv_aload_n hx hb dX7_settle_133 rfl (lv_at hl 1 rfl) ?_
            obtain ⟨j350083, hj350083⟩ := wG_7 (cy := cy) (N := N) (T := T) (I := Ia350073) (Q := Q) (J := Ja350073) (hM.at 0 (by decide)) (hM.k 0 (by decide) rfl)
            refine va_get (D := (dC, dI)) (ci := 7) (v := .ref (T (w 0) 8)) (C := RX7) (T := TX7) (N := 18) hx hb hts hi7 hown hK hP j350083 hj350083 rfl 8 (by decide) (hts (.fieldLink RX7 37 "TallyLogsModel" "mode" "[I") (by decide +kernel)) (fun _ h9 => h9) rfl dX7_settle_134 ?_
            refine W.eq (g2 := F0 m 137 ls [.ref (w 9)]) (by rw [hM.t 8 (by decide)]) ?_
            refine lv_iload_n hx hb dX7_settle_137 rfl (lv_at hl 2 rfl) ?_
            refine lv_iconst (v := 0) hx hb dX7_settle_138 (by decide) ?_
            obtain ⟨j350084, hj350084⟩ := wG_20 (cy := cy) (N := N) (T := T) (I := Ia350073) (Q := Q) (J := Ja350073) (hM.at 9 (by decide)) (hM.k 9 (by decide) rfl)
            have hDo := hD
            refine va_iast (x := 0) hx hb hK hP hD hS j350084 1 hj350084 rfl (hM.inN (n := 6) 9 (by decide) rfl rfl hin350068) dX7_settle_139 (fun H locs hP hD hS => ?_)
            have hP := Eq.mp (congrArg (fun w => va_P (dC, dI) vwCl w H) (wS_20 hDo (hM.at 9 (by decide)) (hM.k 9 (by decide) rfl) hj350084)) hP
            obtain ⟨J350085, eJ350085⟩ : ∃ z, z = va_up Ja350073 (w 9) (upd (Ja350073 (w 9)) xk.toNatClampNeg 0) := ⟨_, rfl⟩
            rw [← eJ350085] at hP
            have hR : RM w [] I J Ia350073 J350085 := by rw [eJ350085]; exact hR.pj hM (by decide) (by decide)
            have hMD : MD w J350085 := by rw [eJ350085]; exact hMD.pj hM (by decide) (by decide)
            have hD : va_D A (va_pl L (wF cy K N T Ia350073 Q J350085)) := pD hDo
            obtain ⟨sg350086, esg350086⟩ : ∃ z, z = sA (oSn σ xk.toNatClampNeg 4) 9 xk.toNatClampNeg 0 := ⟨_, rfl⟩
            have hMR : MR w Ia350073 J350085 sg350086 := by rw [eJ350085, esg350086]; exact hMR.wa hM (by decide) (by decide)
            refine lv_aload_n hx hb dX7_settle_140 rfl (lv_at hl 1 rfl) ?_
            obtain ⟨j350087, hj350087⟩ := wG_7 (cy := cy) (N := N) (T := T) (I := Ia350073) (Q := Q) (J := J350085) (hM.at 0 (by decide)) (hM.k 0 (by decide) rfl)
            refine va_get (D := (dC, dI)) (ci := 7) (v := .ref (T (w 0) 9)) (C := RX7) (T := TX7) (N := 18) hx hb hts hi7 hown hK hP j350087 hj350087 rfl 9 (by decide) (hts (.fieldLink RX7 40 "TallyLogsModel" "bound" "[I") (by decide +kernel)) (fun _ h9 => h9) rfl dX7_settle_141 ?_
            refine W.eq (g2 := F0 m 144 ls [.ref (w 10)]) (by rw [hM.t 9 (by decide)]) ?_
            refine lv_iload_n hx hb dX7_settle_144 rfl (lv_at hl 2 rfl) ?_
            obtain ⟨j350088, hj350088⟩ := wG_20 (cy := cy) (N := N) (T := T) (I := Ia350073) (Q := Q) (J := J350085) (hM.at 10 (by decide)) (hM.k 10 (by decide) rfl)
            refine va_iald hx hb hK hP j350088 1 hj350088 rfl (hM.inN (n := 6) 10 (by decide) rfl rfl hin350068) dX7_settle_145 ?_
            refine lv_topi (fun x350089 ex350089 => ?_)
            have sx350089 : x350089 = sg350086.1 10 xk.toNatClampNeg := ex350089.trans (hMR.a (k := 10) (by decide) (by decide) (show _ < 6 from vp_lt (n := 6) hin350068))
            refine vp_callSi (W.runS (As := [.int x350089]) (rest := []) ⟨hx, hb, hml, hown, hts⟩ (c_J6_bitCount_0f7a4 l x350089) (va_cwS 1 hts gX7_settle_J6_bitCount_0f7a4 rfl rfl rfl (by decide +kernel) ⟨Nat.le_of_ble_eq_true rfl, Nat.le_of_ble_eq_true rfl⟩) preEq rfl rfl hl.1 rfl (lv_room (Nat.le_of_ble_eq_true rfl)) dX7_settle_146 ⟨Nat.le_of_ble_eq_true rfl, Nat.le_of_ble_eq_true rfl⟩) (fun r350090 hr350090 => ?_)
            subst hr350090
            rw [hQz]
            exact W.iret (v := (sp_bc x350089)) hx hb hr (fun t ht hW => ⟨⟨(sp_bc x350089), (Ia350073, J350085), rfl, ⟨⟨hML.mono (by omega), hMD, hMU⟩, by have e9 : qSt σ xk = (sg350086, (sp_bc x350089)) := (by rw [qSt, if_neg c350067, if_neg (fun q => q (by have k9 := c350072; simp only [sx350071] at k9; exact k9)), if_pos (by have k9 := c350078; simp only [sx350077] at k9; exact k9)]; simp only [esg350086, sx350089, sA_s, sA_n, sA_2, sG_1, gTwo_1, nar1, not_false_eq_true] <;> rfl); show MR w Ia350073 J350085 _; rw [e9]; exact hMR, by have e9 : qSt σ xk = (sg350086, (sp_bc x350089)) := (by rw [qSt, if_neg c350067, if_neg (fun q => q (by have k9 := c350072; simp only [sx350071] at k9; exact k9)), if_pos (by have k9 := c350078; simp only [sx350077] at k9; exact k9)]; simp only [esg350086, sx350089, sA_s, sA_n, sA_2, sG_1, gTwo_1, nar1, not_false_eq_true] <;> rfl); show _ = _; rw [e9]⟩, by rw [ht]; exact hP, va_K.moved hW.alike hK, hD⟩, hS.F ht⟩) hS.2.2 dX7_settle_149
        | succ n ih350073 =>
          intro k350073  Ia350073 Ja350073 H locs ls hkn350073 hiv350073 hR hML hMD hMU hMR hP hD hS hl
          have hkc350073 : (nI k350073).toNatClampNeg = k350073 := nI_clamp (by omega)
          have hki350073 : vp_in (nI k350073) 4 := nI_in (by omega) (by decide)
          refine lv_iload_n hx hb dX7_settle_29 rfl (lv_at hl 0 rfl) ?_
          refine lv_iconst (v := 4) hx hb dX7_settle_30 (by decide) ?_
          refine lv_icmp_ge (tgt := 124) hx hb dX7_settle_31 (by decide) (fun c350091 => ?_) (fun c350091 => ?_)
          · exact absurd c350091 (nI_ge (b := 4) (by omega) (by decide))
          refine lv_aload_n hx hb dX7_settle_34 rfl (lv_at hl 1 rfl) ?_
          obtain ⟨j350092, hj350092⟩ := wG_7 (cy := cy) (N := N) (T := T) (I := Ia350073) (Q := Q) (J := Ja350073) (hM.at 0 (by decide)) (hM.k 0 (by decide) rfl)
          refine va_get (D := (dC, dI)) (ci := 7) (v := .ref (T (w 0) 9)) (C := RX7) (T := TX7) (N := 18) hx hb hts hi7 hown hK hP j350092 hj350092 rfl 9 (by decide) (hts (.fieldLink RX7 40 "TallyLogsModel" "bound" "[I") (by decide +kernel)) (fun _ h9 => h9) rfl dX7_settle_35 ?_
          refine W.eq (g2 := F0 m 38 ls [.ref (w 10)]) (by rw [hM.t 9 (by decide)]) ?_
          refine lv_iload_n hx hb dX7_settle_38 rfl (lv_at hl 2 rfl) ?_
          obtain ⟨j350093, hj350093⟩ := wG_20 (cy := cy) (N := N) (T := T) (I := Ia350073) (Q := Q) (J := Ja350073) (hM.at 10 (by decide)) (hM.k 10 (by decide) rfl)
          refine va_iald hx hb hK hP j350093 1 hj350093 rfl (hM.inN (n := 6) 10 (by decide) rfl rfl hin350068) dX7_settle_39 ?_
          refine lv_topi (fun x350094 ex350094 => ?_)
          have sx350094 : x350094 = (oSn σ xk.toNatClampNeg k350073).1 10 xk.toNatClampNeg := ex350094.trans (hMR.a (k := 10) (by decide) (by decide) (show _ < 6 from vp_lt (n := 6) hin350068))
          refine lv_iload_n hx hb dX7_settle_40 rfl (lv_at hl 0 rfl) ?_
          refine lv_ishr hx hb dX7_settle_41 ?_
          refine lv_topi (fun v350095 ev350095 => ?_)
          refine lv_iconst (v := 1) hx hb dX7_settle_42 (by decide) ?_
          refine lv_iand hx hb dX7_settle_43 ?_
          refine lv_topi (fun v350096 ev350096 => ?_)
          refine lv_if_ne (tgt := 50) hx hb dX7_settle_44 (by decide) (fun c350097 => ?_) (fun c350097 => ?_)
          · have kc350097 : ¬ (v350096.toInt = 0) := by have h9 := c350097; rw [xk_eq, xk_0] at h9; exact h9
            refine lv_aload_n hx hb dX7_settle_50 rfl (lv_at hl 1 rfl) ?_
            refine lv_iload_n hx hb dX7_settle_51 rfl (lv_at hl 0 rfl) ?_
            obtain ⟨j350099, hj350099⟩ := wG_7 (cy := cy) (N := N) (T := T) (I := Ia350073) (Q := Q) (J := Ja350073) (hM.at 0 (by decide)) (hM.k 0 (by decide) rfl)
            refine va_csq (W.runV (As := [.int (nI k350073)]) (rest := []) ⟨hx, hb, hml, hown, hts⟩ (c_X7_own l dC dI cy w L K N T Q Ia350073 Ja350073 (nI k350073) hM hki350073) (cwV 1 hts gX7_settle_X7_own rfl rfl rfl (by decide +kernel) ⟨Nat.le_of_ble_eq_true rfl, Nat.le_of_ble_eq_true rfl⟩) ⟨mb_blind, va_recv hK hP (ci := 7) (q0 := j350099) rfl hj350099, fun U hU hW => ⟨rfl, mb_pre hP hK hU hW⟩⟩ rfl rfl hl.1 rfl (lv_room (Nat.le_of_ble_eq_true rfl)) dX7_settle_52 ⟨Nat.le_of_ble_eq_true rfl, Nat.le_of_ble_eq_true rfl⟩) (fun r350098 hr350098 => ?_)
            subst hr350098
            rcases sp_ow_cs w (Ia350073 (w 0) 16) (Ja350073 (w 4) (nI k350073).toNatClampNeg) (nI k350073).toNatClampNeg with hon350100 | ⟨n350100, hnn350100, eln350100, hubn350100, hon350100⟩
            · refine W.eq (g2 := F0 m 55 ls [.null]) (by rw [hon350100]; rfl) ?_
              have oqn350100 := oOw_no hMR (vp_lt (n := 4) hki350073) hon350100
              refine lv_astore_nN (lv' := [(3, .null), (2, .int (nI k350073)), (0, .ref (w 0)), (1, .int xk)]) hx hb dX7_settle_55 rfl hl (by decide) rfl (fun ls hl => ?_)
              refine lv_aload_nN hx hb dX7_settle_56 rfl (lv_at hl 0 rfl) ?_
              refine lv_ifnullN (tgt := 118) hx hb dX7_settle_57 (by decide) ?_
              obtain ⟨v350101, ev350101⟩ : ∃ y : Int32, y = (nI k350073) + Int32.ofInt 1 := ⟨_, rfl⟩
              refine lv_iinc (v := v350101) (lv' := [(2, .int v350101), (3, .null), (0, .ref (w 0)), (1, .int xk)]) hx hb dX7_settle_118 hl (k := 1) rfl ev350101.symm (by decide) rfl (fun ls hl => ?_)
              refine lv_goto (tgt := 29) hx hb dX7_settle_121 (by decide) ?_
              obtain rfl : v350101 = nI (k350073 + 1) := ev350101.trans (nI_add k350073 1)
              have oq9 := oqn350100
              rw [hkc350073] at oq9
              have e9 : oSn σ xk.toNatClampNeg (k350073 + 1) = (oSn σ xk.toNatClampNeg k350073) := by show oS1 (oSn σ xk.toNatClampNeg k350073) xk.toNatClampNeg k350073 = _; rw [oS1, if_neg (by have k9 := c350097; simp only [ev350096, ev350095, sx350094, hkc350073] at k9; exact k9), oq9]
              exact ih350073 (k350073 + 1)  _ _ _ _ _ (by omega) (trivial) hR (hML.mono (by omega)) hMD hMU (by rw [e9]; exact hMR) hP hD hS (lv_sub hl [0, 2, 3] rfl)
            · have hjn350100 : (5 * (nI k350073).toNatClampNeg + n350100) < 20 := by have h1 := vp_lt (n := 4) hki350073; omega
              refine W.eq (g2 := F0 m 55 ls [.ref (w (21 + (5 * (nI k350073).toNatClampNeg + n350100)))]) (by rw [hon350100]; rfl) ?_
              have oqn350100 := oOw_of hM hMR (vp_lt (n := 4) hki350073) hnn350100 eln350100 hubn350100
              refine lv_astore_n (lv' := [(3, .ref (w (21 + (5 * (nI k350073).toNatClampNeg + n350100)))), (2, .int (nI k350073)), (0, .ref (w 0)), (1, .int xk)]) hx hb dX7_settle_55 rfl hl (by decide) rfl (fun ls hl => ?_)
              refine lv_aload_n hx hb dX7_settle_56 rfl (lv_at hl 0 rfl) ?_
              refine lv_ifnull hx hb dX7_settle_57 ?_
              refine lv_aload_n hx hb dX7_settle_60 rfl (lv_at hl 0 rfl) ?_
              obtain ⟨j350103, hj350103⟩ := wG_6 (cy := cy) (N := N) (T := T) (I := Ia350073) (Q := Q) (J := Ja350073) (hM.lg hjn350100).1 (hM.lg hjn350100).2
              refine vp_callSi (W.runV (As := []) (rest := []) ⟨hx, hb, hml, hown, hts⟩ (c_X6_many l dC dI cy w L K N T Q Ia350073 Ja350073 (5 * (nI k350073).toNatClampNeg + n350100) hM hjn350100) (cwV 0 hts gX7_settle_X6_many rfl rfl rfl (by decide +kernel) ⟨Nat.le_of_ble_eq_true rfl, Nat.le_of_ble_eq_true rfl⟩) ⟨mb_blind, va_recv hK hP (ci := 6) (q0 := j350103) rfl hj350103, fun U hU hW => ⟨rfl, mb_pre hP hK hU hW⟩⟩ rfl rfl hl.1 rfl (lv_room (Nat.le_of_ble_eq_true rfl)) dX7_settle_61 ⟨Nat.le_of_ble_eq_true rfl, Nat.le_of_ble_eq_true rfl⟩) (fun r350102 hr350102 => ?_)
              obtain ⟨ha350104, hb350104, hc350104, hd350104, he350104, hf350104⟩ := hML (5 * (nI k350073).toNatClampNeg + n350100) hjn350100
              have tr350102 : r350102.toInt = (Ia350073 (w (21 + (5 * (nI k350073).toNatClampNeg + n350100))) 2).toInt - (Ia350073 (w (21 + (5 * (nI k350073).toNatClampNeg + n350100))) 1).toInt := by rw [hr350102]; exact xsub (by omega) (by omega)
              have hir350102 : r350102 = (oSn σ xk.toNatClampNeg k350073).2.1 (5 * (nI k350073).toNatClampNeg + n350100) 2 - (oSn σ xk.toNatClampNeg k350073).2.1 (5 * (nI k350073).toNatClampNeg + n350100) 1 := by rw [hr350102, hMR.g hjn350100 (by decide) (by decide), hMR.g hjn350100 (by decide) (by decide)]
              refine lv_bipush (v := 60) hx hb dX7_settle_64 (by decide) ?_
              refine lv_icmp_lt (tgt := 72) hx hb dX7_settle_66 (by decide) (fun c350105 => ?_) (fun c350105 => ?_)
              · have kc350105 : r350102.toInt < 60 := by have h9 := c350105; rw [xk_lt, (show (60 : Int32).toInt = 60 by decide)] at h9; exact h9
                refine lv_aload_n hx hb dX7_settle_72 rfl (lv_at hl 0 rfl) ?_
                refine lv_aload_n hx hb dX7_settle_73 rfl (lv_at hl 2 rfl) ?_
                obtain ⟨j350106, hj350106⟩ := wG_7 (cy := cy) (N := N) (T := T) (I := Ia350073) (Q := Q) (J := Ja350073) (hM.at 0 (by decide)) (hM.k 0 (by decide) rfl)
                refine va_get (D := (dC, dI)) (ci := 7) (v := .ref (T (w 0) 4)) (C := RX7) (T := TX7) (N := 18) hx hb hts hi7 hown hK hP j350106 hj350106 rfl 4 (by decide) (hts (.fieldLink RX7 25 "TallyLogsModel" "epoch" "[I") (by decide +kernel)) (fun _ h9 => h9) rfl dX7_settle_74 ?_
                refine W.eq (g2 := F0 m 77 ls [.ref (w 5), .ref (w (21 + (5 * (nI k350073).toNatClampNeg + n350100)))]) (by rw [hM.t 4 (by decide)]) ?_
                refine lv_iload_n hx hb dX7_settle_77 rfl (lv_at hl 1 rfl) ?_
                obtain ⟨j350107, hj350107⟩ := wG_20 (cy := cy) (N := N) (T := T) (I := Ia350073) (Q := Q) (J := Ja350073) (hM.at 5 (by decide)) (hM.k 5 (by decide) rfl)
                refine va_iald hx hb hK hP j350107 1 hj350107 rfl (hM.inN (n := 4) 5 (by decide) rfl rfl hki350073) dX7_settle_78 ?_
                refine lv_topi (fun x350108 ex350108 => ?_)
                have sx350108 : x350108 = (oSn σ xk.toNatClampNeg k350073).1 5 ((nI k350073).toNatClampNeg) := ex350108.trans (hMR.a (k := 5) (by decide) (by decide) (show _ < 4 from vp_lt (n := 4) hki350073))
                refine lv_aload_n hx hb dX7_settle_79 rfl (lv_at hl 2 rfl) ?_
                obtain ⟨j350109, hj350109⟩ := wG_7 (cy := cy) (N := N) (T := T) (I := Ia350073) (Q := Q) (J := Ja350073) (hM.at 0 (by decide)) (hM.k 0 (by decide) rfl)
                refine va_get (D := (dC, dI)) (ci := 7) (v := .ref (T (w 0) 11)) (C := RX7) (T := TX7) (N := 18) hx hb hts hi7 hown hK hP j350109 hj350109 rfl 11 (by decide) (hts (.fieldLink RX7 46 "TallyLogsModel" "endKind" "[I") (by decide +kernel)) (fun _ h9 => h9) rfl dX7_settle_80 ?_
                refine W.eq (g2 := F0 m 83 ls [.ref (w 12), .int x350108, .ref (w (21 + (5 * (nI k350073).toNatClampNeg + n350100)))]) (by rw [hM.t 11 (by decide)]) ?_
                refine lv_iload_n hx hb dX7_settle_83 rfl (lv_at hl 3 rfl) ?_
                obtain ⟨j350110, hj350110⟩ := wG_20 (cy := cy) (N := N) (T := T) (I := Ia350073) (Q := Q) (J := Ja350073) (hM.at 12 (by decide)) (hM.k 12 (by decide) rfl)
                refine va_iald hx hb hK hP j350110 1 hj350110 rfl (hM.inN (n := 6) 12 (by decide) rfl rfl hin350068) dX7_settle_84 ?_
                refine lv_topi (fun x350111 ex350111 => ?_)
                have sx350111 : x350111 = (oSn σ xk.toNatClampNeg k350073).1 12 xk.toNatClampNeg := ex350111.trans (hMR.a (k := 12) (by decide) (by decide) (show _ < 6 from vp_lt (n := 6) hin350068))
                refine lv_iload_n hx hb dX7_settle_85 rfl (lv_at hl 3 rfl) ?_
                refine lv_aload_n hx hb dX7_settle_86 rfl (lv_at hl 2 rfl) ?_
                obtain ⟨j350112, hj350112⟩ := wG_7 (cy := cy) (N := N) (T := T) (I := Ia350073) (Q := Q) (J := Ja350073) (hM.at 0 (by decide)) (hM.k 0 (by decide) rfl)
                refine va_get (D := (dC, dI)) (ci := 7) (v := .ref (T (w 0) 10)) (C := RX7) (T := TX7) (N := 18) hx hb hts hi7 hown hK hP j350112 hj350112 rfl 10 (by decide) (hts (.fieldLink RX7 43 "TallyLogsModel" "endGeneration" "[I") (by decide +kernel)) (fun _ h9 => h9) rfl dX7_settle_87 ?_
                refine W.eq (g2 := F0 m 90 ls [.ref (w 11), .int xk, .int x350111, .int x350108, .ref (w (21 + (5 * (nI k350073).toNatClampNeg + n350100)))]) (by rw [hM.t 10 (by decide)]) ?_
                refine lv_iload_n hx hb dX7_settle_90 rfl (lv_at hl 3 rfl) ?_
                obtain ⟨j350113, hj350113⟩ := wG_20 (cy := cy) (N := N) (T := T) (I := Ia350073) (Q := Q) (J := Ja350073) (hM.at 11 (by decide)) (hM.k 11 (by decide) rfl)
                refine va_iald hx hb hK hP j350113 1 hj350113 rfl (hM.inN (n := 6) 11 (by decide) rfl rfl hin350068) dX7_settle_91 ?_
                refine lv_topi (fun x350114 ex350114 => ?_)
                have sx350114 : x350114 = (oSn σ xk.toNatClampNeg k350073).1 11 xk.toNatClampNeg := ex350114.trans (hMR.a (k := 11) (by decide) (by decide) (show _ < 6 from vp_lt (n := 6) hin350068))
                refine lv_iconst (v := (-1)) hx hb dX7_settle_92 (by decide) ?_
                refine lv_iconst (v := 0) hx hb dX7_settle_93 (by decide) ?_
                refine lv_iconst (v := 0) hx hb dX7_settle_94 (by decide) ?_
                refine lv_iconst (v := 0) hx hb dX7_settle_95 (by decide) ?_
                obtain ⟨j350115, hj350115⟩ := wG_6 (cy := cy) (N := N) (T := T) (I := Ia350073) (Q := Q) (J := Ja350073) (hM.lg hjn350100).1 (hM.lg hjn350100).2
                have hFc := pfree hD hS hA
                refine va_callv (va_runV (As := [.int x350108, .int x350111, .int xk, .int x350114, .int (-1), .int 0, .int 0, .int 0]) (rest := []) ⟨hx, hb, hml, hown, hts⟩ (f_X6_add l dC dI cy w L K N T Q Ia350073 Ja350073 H.size (5 * (nI k350073).toNatClampNeg + n350100) x350108 x350111 xk x350114 (-1) 0 0 0 (oSn σ xk.toNatClampNeg k350073) hM hjn350100 (by omega) (by omega) (by omega) (by omega) hMR) (cwV 8 hts gX7_settle_X6_add rfl rfl rfl (by decide +kernel) ⟨Nat.le_of_ble_eq_true rfl, Nat.le_of_ble_eq_true rfl⟩) ⟨mw_blind, va_recv hK hP (ci := 6) (q0 := j350115) rfl hj350115, fun U hU hW => ⟨rfl, mw_pre hP hK hD hU hW⟩⟩ rfl rfl hl.1 rfl (lv_room (Nat.le_of_ble_eq_true rfl)) dX7_settle_96 ⟨Nat.le_of_ble_eq_true rfl, Nat.le_of_ble_eq_true rfl⟩) hS (fun q _ h => hFc q h) hFc (fun d9 t H1 locs ht hvm hw hB hz1 hk1 hS => ?_)
                obtain ⟨I350116, J350116⟩ := d9
                obtain ⟨hP, hK1, hD1⟩ := hB
                rw [ht] at hP
                have hD := hD1.weaken (fun _ _ _ h => hFc _ h)
                generalize H1 = H at hP hS ⊢
                have hP : va_P (dC, dI) vwCl (va_pl L (wF cy K N T I350116 Q J350116)) H := hP
                have hD : va_D A (va_pl L (wF cy K N T I350116 Q J350116)) := hD
                have hMRn := hw.1
                have hw := hw.2
                have hw350118 : LW w Ia350073 Ja350073 I350116 J350116 (5 * (nI k350073).toNatClampNeg + n350100) _ _ := hw
                have hR : RM w [] I J I350116 J350116 := hR.lw hM hjn350100 hw350118
                have hMD : MD w J350116 := hMD.lw hM hjn350100 hw350118
                have hMU : MU w I350116 := hMU.lw hM hjn350100 hw350118
                have q1hw350118 : (I350116 (w (21 + (5 * (nI k350073).toNatClampNeg + n350100))) 1).toInt = _ := hw350118.2.2.1
                have q2hw350118 : (I350116 (w (21 + (5 * (nI k350073).toNatClampNeg + n350100))) 2).toInt = _ := hw350118.2.2.2
                have q3hw350118 : (I350116 (w (21 + (5 * (nI k350073).toNatClampNeg + n350100))) 3).toInt = _ := congrArg Int32.toInt hw350118.f3
                have q4hw350118 : (I350116 (w (21 + (5 * (nI k350073).toNatClampNeg + n350100))) 4).toInt = _ := congrArg Int32.toInt hw350118.f4
                have hML : ML w ((E + (k350073 : Nat)) + 1) I350116 := hML.lw hM hjn350100 hw350118 (by omega) ⟨by omega, by omega, by omega, by omega, by omega, by omega⟩
                obtain ⟨sg350119, esg350119⟩ : ∃ z, z = oAd (oSn σ xk.toNatClampNeg k350073) (5 * (nI k350073).toNatClampNeg + n350100) (r8 x350108 x350111 xk x350114 (-1) 0 0 0) := ⟨_, rfl⟩
                have hMR : MR w I350116 J350116 sg350119 := by rw [esg350119]; exact hMRn
                refine lv_aload_n hx hb dX7_settle_99 rfl (lv_at hl 2 rfl) ?_
                obtain ⟨j350120, hj350120⟩ := wG_7 (cy := cy) (N := N) (T := T) (I := I350116) (Q := Q) (J := J350116) (hM.at 0 (by decide)) (hM.k 0 (by decide) rfl)
                refine va_get (D := (dC, dI)) (ci := 7) (v := .ref (T (w 0) 9)) (C := RX7) (T := TX7) (N := 18) hx hb hts hi7 hown hK hP j350120 hj350120 rfl 9 (by decide) (hts (.fieldLink RX7 40 "TallyLogsModel" "bound" "[I") (by decide +kernel)) (fun _ h9 => h9) rfl dX7_settle_100 ?_
                refine W.eq (g2 := F0 m 103 ls [.ref (w 10)]) (by rw [hM.t 9 (by decide)]) ?_
                refine lv_iload_n hx hb dX7_settle_103 rfl (lv_at hl 3 rfl) ?_
                refine lv_dup2_11 hx hb dX7_settle_104 rfl rfl ?_
                obtain ⟨j350121, hj350121⟩ := wG_20 (cy := cy) (N := N) (T := T) (I := I350116) (Q := Q) (J := J350116) (hM.at 10 (by decide)) (hM.k 10 (by decide) rfl)
                refine va_iald hx hb hK hP j350121 1 hj350121 rfl (hM.inN (n := 6) 10 (by decide) rfl rfl hin350068) dX7_settle_105 ?_
                refine lv_topi (fun x350122 ex350122 => ?_)
                have sx350122 : x350122 = sg350119.1 10 xk.toNatClampNeg := ex350122.trans (hMR.a (k := 10) (by decide) (by decide) (show _ < 6 from vp_lt (n := 6) hin350068))
                refine lv_iconst (v := 1) hx hb dX7_settle_106 (by decide) ?_
                refine lv_iload_n hx hb dX7_settle_107 rfl (lv_at hl 1 rfl) ?_
                refine lv_ishl hx hb dX7_settle_108 ?_
                refine lv_topi (fun v350123 ev350123 => ?_)
                refine lv_iconst (v := (-1)) hx hb dX7_settle_109 (by decide) ?_
                refine lv_ixor hx hb dX7_settle_110 ?_
                refine lv_topi (fun v350124 ev350124 => ?_)
                refine lv_iand hx hb dX7_settle_111 ?_
                refine lv_topi (fun v350125 ev350125 => ?_)
                obtain ⟨j350126, hj350126⟩ := wG_20 (cy := cy) (N := N) (T := T) (I := I350116) (Q := Q) (J := J350116) (hM.at 10 (by decide)) (hM.k 10 (by decide) rfl)
                have hDo := hD
                refine va_iast (x := v350125) hx hb hK hP hD hS j350126 1 hj350126 rfl (hM.inN (n := 6) 10 (by decide) rfl rfl hin350068) dX7_settle_112 (fun H locs hP hD hS => ?_)
                have hP := Eq.mp (congrArg (fun w => va_P (dC, dI) vwCl w H) (wS_20 hDo (hM.at 10 (by decide)) (hM.k 10 (by decide) rfl) hj350126)) hP
                obtain ⟨J350127, eJ350127⟩ : ∃ z, z = va_up J350116 (w 10) (upd (J350116 (w 10)) xk.toNatClampNeg v350125) := ⟨_, rfl⟩
                rw [← eJ350127] at hP
                have hR : RM w [] I J I350116 J350127 := by rw [eJ350127]; exact hR.pj hM (by decide) (by decide)
                have hMD : MD w J350127 := by rw [eJ350127]; exact hMD.pj hM (by decide) (by decide)
                have hD : va_D A (va_pl L (wF cy K N T I350116 Q J350127)) := pD hDo
                obtain ⟨sg350128, esg350128⟩ : ∃ z, z = sA sg350119 10 xk.toNatClampNeg v350125 := ⟨_, rfl⟩
                have hMR : MR w I350116 J350127 sg350128 := by rw [eJ350127, esg350128]; exact hMR.wa hM (by decide) (by decide)
                refine lv_aload_n hx hb dX7_settle_113 rfl (lv_at hl 2 rfl) ?_
                refine lv_iload_n hx hb dX7_settle_114 rfl (lv_at hl 1 rfl) ?_
                obtain ⟨j350129, hj350129⟩ := wG_7 (cy := cy) (N := N) (T := T) (I := I350116) (Q := Q) (J := J350127) (hM.at 0 (by decide)) (hM.k 0 (by decide) rfl)
                have hFc := pfree hD hS hA
                refine va_callv (va_runV (As := [.int (nI k350073)]) (rest := []) ⟨hx, hb, hml, hown, hts⟩ (f_X7_rise l dC dI cy w L K N T Q I350116 J350127 H.size (nI k350073) sg350128 hM hki350073 (hMD _ (vp_lt (n := 4) hki350073)) hMR) (cwV 1 hts gX7_settle_X7_rise rfl rfl rfl (by decide +kernel) ⟨Nat.le_of_ble_eq_true rfl, Nat.le_of_ble_eq_true rfl⟩) ⟨mw_blind, va_recv hK hP (ci := 7) (q0 := j350129) rfl hj350129, fun U hU hW => ⟨rfl, mw_pre hP hK hD hU hW⟩⟩ rfl rfl hl.1 rfl (lv_room (Nat.le_of_ble_eq_true rfl)) dX7_settle_115 ⟨Nat.le_of_ble_eq_true rfl, Nat.le_of_ble_eq_true rfl⟩) hS (fun q _ h => hFc q h) hFc (fun d9 t H1 locs ht hvm hw hB hz1 hk1 hS => ?_)
                obtain ⟨I350130, J350130⟩ := d9
                obtain ⟨hP, hK1, hD1⟩ := hB
                rw [ht] at hP
                have hD := hD1.weaken (fun _ _ _ h => hFc _ h)
                generalize H1 = H at hP hS ⊢
                have hP : va_P (dC, dI) vwCl (va_pl L (wF cy K N T I350130 Q J350130)) H := hP
                have hD : va_D A (va_pl L (wF cy K N T I350130 Q J350130)) := hD
                have hMRn := hw.1
                have hw := hw.2
                have hw350132 : RZ w I350116 J350127 I350130 J350130 (nI k350073).toNatClampNeg := hw
                have hR : RM w [] I J I350130 J350130 := hR.rz hM (vp_lt (n := 4) hki350073) hw350132
                have hMD : MD w J350130 := hMD.rz hw350132
                have hMU : MU w I350130 := hMU.rz hM (vp_lt (n := 4) hki350073) hw350132
                have hML : ML w ((E + (k350073 : Nat)) + 1) I350130 := hML.rz hM (vp_lt (n := 4) hki350073) hw350132
                obtain ⟨sg350133, esg350133⟩ : ∃ z, z = oRi sg350128 ((nI k350073).toNatClampNeg) := ⟨_, rfl⟩
                have hMR : MR w I350130 J350130 sg350133 := by rw [esg350133]; exact hMRn
                obtain ⟨v350134, ev350134⟩ : ∃ y : Int32, y = (nI k350073) + Int32.ofInt 1 := ⟨_, rfl⟩
                refine lv_iinc (v := v350134) (lv' := [(2, .int v350134), (3, .ref (w (21 + (5 * (nI k350073).toNatClampNeg + n350100)))), (0, .ref (w 0)), (1, .int xk)]) hx hb dX7_settle_118 hl (k := 1) rfl ev350134.symm (by decide) rfl (fun ls hl => ?_)
                refine lv_goto (tgt := 29) hx hb dX7_settle_121 (by decide) ?_
                obtain rfl : v350134 = nI (k350073 + 1) := ev350134.trans (nI_add k350073 1)
                have oq9 := oqn350100
                rw [hkc350073] at oq9
                have e9 : oSn σ xk.toNatClampNeg (k350073 + 1) = sg350133 := by show oS1 (oSn σ xk.toNatClampNeg k350073) xk.toNatClampNeg k350073 = _; rw [oS1, if_neg (by have k9 := c350097; simp only [ev350096, ev350095, sx350094, hkc350073] at k9; exact k9), oq9]; show (if _ then _ else _) = _; rw [if_pos (by have k9 := c350105; simp only [hir350102, hkc350073] at k9; exact k9)]; simp only [esg350133, esg350128, ev350125, sx350122, ev350124, ev350123, esg350119, sx350108, sx350111, sx350114, hkc350073, hkx] <;> rfl
                exact ih350073 (k350073 + 1)  _ _ _ _ _ (by omega) (trivial) hR (hML.mono (by omega)) hMD hMU (by rw [e9]; exact hMR) hP hD hS (lv_sub hl [0, 2, 3] rfl)
              · have kc350105 : ¬ (r350102.toInt < 60) := by have h9 := c350105; rw [xk_lt, (show (60 : Int32).toInt = 60 by decide)] at h9; exact h9
                refine lv_goto (tgt := 118) hx hb dX7_settle_69 (by decide) ?_
                obtain ⟨v350135, ev350135⟩ : ∃ y : Int32, y = (nI k350073) + Int32.ofInt 1 := ⟨_, rfl⟩
                refine lv_iinc (v := v350135) (lv' := [(2, .int v350135), (3, .ref (w (21 + (5 * (nI k350073).toNatClampNeg + n350100)))), (0, .ref (w 0)), (1, .int xk)]) hx hb dX7_settle_118 hl (k := 1) rfl ev350135.symm (by decide) rfl (fun ls hl => ?_)
                refine lv_goto (tgt := 29) hx hb dX7_settle_121 (by decide) ?_
                obtain rfl : v350135 = nI (k350073 + 1) := ev350135.trans (nI_add k350073 1)
                have oq9 := oqn350100
                rw [hkc350073] at oq9
                have e9 : oSn σ xk.toNatClampNeg (k350073 + 1) = (oSn σ xk.toNatClampNeg k350073) := by show oS1 (oSn σ xk.toNatClampNeg k350073) xk.toNatClampNeg k350073 = _; rw [oS1, if_neg (by have k9 := c350097; simp only [ev350096, ev350095, sx350094, hkc350073] at k9; exact k9), oq9]; show (if _ then _ else _) = _; rw [if_neg (by have k9 := c350105; simp only [hir350102, hkc350073] at k9; exact k9)]
                exact ih350073 (k350073 + 1)  _ _ _ _ _ (by omega) (trivial) hR (hML.mono (by omega)) hMD hMU (by rw [e9]; exact hMR) hP hD hS (lv_sub hl [0, 2, 3] rfl)
          · have kc350097 : v350096.toInt = 0 := by have h9 := c350097; rw [xk_eq, xk_0] at h9; exact h9
            refine lv_goto (tgt := 118) hx hb dX7_settle_47 (by decide) ?_
            obtain ⟨v350136, ev350136⟩ : ∃ y : Int32, y = (nI k350073) + Int32.ofInt 1 := ⟨_, rfl⟩
            refine lv_iinc (v := v350136) (lv' := [(2, .int v350136), (0, .ref (w 0)), (1, .int xk)]) hx hb dX7_settle_118 hl (k := 0) rfl ev350136.symm (by decide) rfl (fun ls hl => ?_)
            refine lv_goto (tgt := 29) hx hb dX7_settle_121 (by decide) ?_
            obtain rfl : v350136 = nI (k350073 + 1) := ev350136.trans (nI_add k350073 1)
            have e9 : oSn σ xk.toNatClampNeg (k350073 + 1) = (oSn σ xk.toNatClampNeg k350073) := by show oS1 (oSn σ xk.toNatClampNeg k350073) xk.toNatClampNeg k350073 = _; rw [oS1, if_pos (by have k9 := c350097; simp only [ev350096, ev350095, sx350094, hkc350073] at k9; exact k9)]
            exact ih350073 (k350073 + 1)  _ _ _ _ _ (by omega) (trivial) hR (hML.mono (by omega)) hMD hMU (by rw [e9]; exact hMR) hP hD hS (lv_sub hl [0, 1, 2] rfl)
      exact hLP350073 4 0  _ _ _ _ _ rfl (trivial) hR (hML.mono (by omega)) hMD hMU (hMR) hP hD hS (lv_sub hl [0, 1, 2] rfl)
    · have kc350072 : ¬ (x350071.toInt = 2) := by have h9 := c350072; rw [xk_eq, xk_2] at h9; exact h9
      refine lv_bipush (v := (-2)) hx hb dX7_settle_24 (by decide) ?_
      exact W.iret (v := (-2)) hx hb hr (fun t ht hW => ⟨⟨(-2), (I, J), rfl, ⟨⟨hML.mono (by omega), hMD, hMU⟩, by have e9 : qSt σ xk = (σ, (-2)) := (by rw [qSt, if_neg c350067, if_pos (by have k9 := c350072; simp only [sx350071] at k9; exact k9)]); show MR w I J _; rw [e9]; exact hMR, by have e9 : qSt σ xk = (σ, (-2)) := (by rw [qSt, if_neg c350067, if_pos (by have k9 := c350072; simp only [sx350071] at k9; exact k9)]); show _ = _; rw [e9]⟩, by rw [ht]; exact hP, va_K.moved hW.alike hK, hD⟩, hS.F ht⟩) hS.2.2 dX7_settle_26
  · refine lv_iconst (v := (-1)) hx hb dX7_settle_12 (by decide) ?_
    exact W.iret (v := (-1)) hx hb hr (fun t ht hW => ⟨⟨(-1), (I, J), rfl, ⟨⟨hML.mono (by omega), hMD, hMU⟩, by have e9 : qSt σ xk = (σ, (-1)) := (by rw [qSt, if_pos c350067]); show MR w I J _; rw [e9]; exact hMR, by have e9 : qSt σ xk = (σ, (-1)) := (by rw [qSt, if_pos c350067]); show _ = _; rw [e9]⟩, by rw [ht]; exact hP, va_K.moved hW.alike hK, hD⟩, hS.F ht⟩) hS.2.2 dX7_settle_13
