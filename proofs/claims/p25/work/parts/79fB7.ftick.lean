set_option maxHeartbeats 4000000 in
set_option maxRecDepth 100000 in
/-- tick, exactly -/
theorem f_X7_tick (l : Launch) (dC : Nat → ClassId) (dI : Nat → Nat → Nat) (cy : Nat → ClassId) (w : Nat → Nat) (L : List Nat) (K N : Nat → Nat) (T : Nat → Nat → Nat) (Q : Nat → Nat → Option Nat) (I J : Nat → Nat → Int32) (sz : Nat) (E : Int) (xn : Int32) (σ : SG) (hM : MS w L K N T Q) (hI : MI w E I J) (hE : E ≤ 1000) (hMR : MR w I J σ) : Met l yX7_tick wsX7_tick ({ frames := 4, cells := 0, slots := 0, locals := 99 }) (va_Pc [.ref (w 0), .int xn] (mW dC dI cy L (wF cy K N T I Q J) sz)) (va_Qi (fun (r : Int32) (d : (Nat → Nat → Int32) × (Nat → Nat → Int32)) => MI w (E + 5) d.1 d.2 ∧ MR w d.1 d.2 (qTk σ xn).1 ∧ r = (qTk σ xn).2) (fun (d : (Nat → Nat → Int32) × (Nat → Nat → Int32)) t => va_P (dC, dI) vwCl (va_pl L (wF cy K N T d.1 Q d.2)) t.heap ∧ va_K (dC, dI) vwCl (mTy cy) t ∧ va_D (va_A (va_pl L (wF cy K N T I Q J)) sz) (va_pl L (wF cy K N T d.1 Q d.2))) (va_A (va_pl L (wF cy K N T I Q J)) sz)) 0 0 (va_A (va_pl L (wF cy K N T I Q J)) sz) := by
  refine Met.ofW (cc := cX7_tick) (maxL := 5) (ret := (some .int)) (by decide) rfl ?_
  intro p e s m args below meth c s₁ B hml hv
  obtain ⟨rfl, hsz, ⟨hP, hK⟩, hD0⟩ := hv
  have hx := B.exec
  have hb := B.bytes
  have hr := B.returns
  have hts := atoms_spec (ws := wsX7_tick) B.pre
  have hown : s.vm.findClass RX7 = some m.cls := findClass_of_methodNamed B.named
  have hlocks := B.notSynchronized
  have hi7 : ∀ w ∈ wsX70, w ∈ wsX7_tick := by decide +kernel
  have hi6 : ∀ w ∈ wsX60, w ∈ wsX7_tick := by decide +kernel
  have hl := lv_entry ([.ref (w 0), .int xn]) (n := 5) (Nat.le_of_ble_eq_true rfl)
  rw [lg_entry_eq]
  generalize (lg_sl ([.ref (w 0), .int xn]) ++ List.replicate (5 - (lg_sl ([.ref (w 0), .int xn])).length) Slot.unset).toArray = ls at hl ⊢
  have hl : lv_has ls 5 [(0, .ref (w 0)), (1, .int xn)] := hl
  subst hsz
  have hD := hD0.self (sz := s.heap.size)
  generalize hAe : va_A (va_pl L (wF cy K N T I Q J)) s.heap.size = A at hD ⊢
  have hA : ∀ q : Nat, s.heap.size ≤ q → A q := fun q h => by rw [← hAe]; exact Or.inr h
  have hS : va_S A s.heap s.heap [] := va_S.rf
  have hR : RM w [] I J I J := RM.rf
  obtain ⟨hML, hMD, hMU⟩ := hI
  refine lv_iload_n hx hb dX7_tick_0 rfl (lv_at hl 1 rfl) ?_
  refine lv_i2l (v := xn.toInt64) hx hb dX7_tick_1 rfl ?_
  refine lv_lconst (v := 1) hx hb dX7_tick_2 (by decide) ?_
  refine lv_ldc2 hx hb hown (hts (.constantLong RX7 178 50) (by decide +kernel)) dX7_tick_3 ?_
  refine vp_callSi (W.runS (As := [.long xn.toInt64, .long 1, .long 50]) (rest := []) ⟨hx, hb, hml, hown, hts⟩ (c_X7_in l xn.toInt64 1 50) (va_cwS 3 hts gX7_tick_X7_in rfl rfl rfl (by decide +kernel) ⟨Nat.le_of_ble_eq_true rfl, Nat.le_of_ble_eq_true rfl⟩) preEq rfl rfl hl.1 rfl (lv_room (Nat.le_of_ble_eq_true rfl)) dX7_tick_6 ⟨Nat.le_of_ble_eq_true rfl, Nat.le_of_ble_eq_true rfl⟩) (fun r350001 hr350001 => ?_)
  subst hr350001
  refine lv_if_ne (tgt := 14) hx hb dX7_tick_9 (by decide) (fun c350002 => ?_) (fun c350002 => ?_)
  · refine lv_aload_n hx hb dX7_tick_14 rfl (lv_at hl 0 rfl) ?_
    refine lv_dup hx hb dX7_tick_15 rfl ?_
    obtain ⟨j350003, hj350003⟩ := wG_7 (cy := cy) (N := N) (T := T) (I := I) (Q := Q) (J := J) (hM.at 0 (by decide)) (hM.k 0 (by decide) rfl)
    refine va_get (D := (dC, dI)) (ci := 7) (v := .int (I (w 0) 17)) (C := RX7) (T := TX7) (N := 18) hx hb hts hi7 hown hK hP j350003 hj350003 rfl 17 (by decide) (hts (.fieldLink RX7 119 "TallyLogsModel" "now" "I") (by decide +kernel)) (fun _ h9 => h9) rfl dX7_tick_16 ?_
    refine lv_topi (fun x350004 ex350004 => ?_)
    have sx350004 : x350004 = σ.1 0 1 := ex350004.trans hMR.1.2
    have tx350004 : x350004.toInt = (I (w 0) 17).toInt := congrArg Int32.toInt ex350004
    refine lv_iload_n hx hb dX7_tick_19 rfl (lv_at hl 1 rfl) ?_
    refine lv_iadd hx hb dX7_tick_20 ?_
    refine lv_topi (fun v350005 ev350005 => ?_)
    obtain ⟨j350006, hj350006⟩ := wG_7 (cy := cy) (N := N) (T := T) (I := I) (Q := Q) (J := J) (hM.at 0 (by decide)) (hM.k 0 (by decide) rfl)
    have hDo := hD
    refine va_put (D := (dC, dI)) (ci := 7) (v := .int v350005) (ty := .int) (C := RX7) (T := TX7) (N := 18) hx hb hts hi7 tyX7 tyX7_ok nmX7 hown hK hP hD hS j350006 hj350006 rfl 17 (by decide) (hts (.fieldLink RX7 119 "TallyLogsModel" "now" "I") (by decide +kernel)) (fun _ h9 => h9) rfl (by decide +kernel) rfl rfl (Nat.le_of_ble_eq_true rfl) dX7_tick_21 (fun H locs hP hD hS => ?_)
    have hP := Eq.mp (congrArg (fun w => va_P (dC, dI) vwCl w H) (wP_7_17 (x := v350005) hDo (hM.at 0 (by decide)) (hM.k 0 (by decide) rfl) hj350006)) hP
    obtain ⟨I350007, eI350007⟩ : ∃ z, z = p2 I (w 0) 17 v350005 := ⟨_, rfl⟩
    rw [← eI350007] at hP
    have hD : va_D A (va_pl L (wF cy K N T I350007 Q J)) := pD hDo
    obtain ⟨sg350008, esg350008⟩ : ∃ z, z = sA σ 0 1 v350005 := ⟨_, rfl⟩
    have hMR : MR w I350007 J sg350008 := by rw [eI350007, esg350008]; exact hMR.w0 hM (f := 1) (by decide)
    have hR : RM w [] I J I350007 J := by rw [eI350007]; exact hR.pn
    have hMU : MU w I350007 := by rw [eI350007]; exact hMU.pn
    have hML : ML w E I350007 := by rw [eI350007]; exact hML.pm hM
    refine lv_iconst (v := 0) hx hb dX7_tick_24 (by decide) ?_
    refine lv_istore_n (lv' := [(2, .int 0), (0, .ref (w 0)), (1, .int xn)]) hx hb dX7_tick_25 rfl hl (by decide) rfl (fun ls hl => ?_)
    refine lv_iconst (v := 0) hx hb dX7_tick_26 (by decide) ?_
    refine lv_istore_n (lv' := [(3, .int 0), (2, .int 0), (0, .ref (w 0)), (1, .int xn)]) hx hb dX7_tick_27 rfl hl (by decide) rfl (fun ls hl => ?_)
    refine wq_gen (fun Qz hQz => ?_)
    have hLP350009 : ∀ (n k350009 : Nat) (y350010 : Int32) (Ia350009 Ja350009 : Nat → Nat → Int32) (H : Heap) (locs : List Loc) (ls : Array Slot), k350009 + n = 4 → (y350010 = (oT4 (sg350008, 0) k350009).2) → RM w [] I J Ia350009 Ja350009 → ML w E Ia350009 → MD w Ja350009 → MU w Ia350009 → MR w Ia350009 Ja350009 ((oT4 (sg350008, 0) k350009).1) →  va_P (dC, dI) vwCl (va_pl L (wF cy K N T Ia350009 Q Ja350009)) H → va_D A (va_pl L (wF cy K N T Ia350009 Q Ja350009)) → va_S A s.heap H locs → lv_has ls 5 [(3, .int (nI k350009)), (2, .int y350010), (0, .ref (w 0)), (1, .int xn)] → W p l e (headSpec wsX7_tick ({ frames := 4, cells := 0, slots := 0, locals := 99 })).room s m ([.ref (w 0), .int xn] : List Value).toArray below meth c H locs 0 0 Qz (F0 m 28 ls []) := by
      intro n
      induction n with
      | zero =>
        intro k350009 y350010 Ia350009 Ja350009 H locs ls hkn350009 hiv350009 hR hML hMD hMU hMR hP hD hS hl
        obtain rfl : k350009 = 4 := by omega
        refine lv_iload_n hx hb dX7_tick_28 rfl (lv_at hl 0 rfl) ?_
        refine lv_iconst (v := 4) hx hb dX7_tick_29 (by decide) ?_
        refine lv_icmp_ge (tgt := 147) hx hb dX7_tick_30 (by decide) (fun c350011 => ?_) (fun c350011 => ?_)
        rotate_left
        · exact absurd (by decide) c350011
        refine lv_iload_n hx hb dX7_tick_147 rfl (lv_at hl 1 rfl) ?_
        rw [hQz]
        exact W.iret (v := y350010) hx hb hr (fun t ht hW => ⟨⟨y350010, (Ia350009, Ja350009), rfl, ⟨⟨hML.mono (by omega), hMD, hMU⟩, by have e9 : qTk σ xn = ((oT4 (sg350008, 0) 4).1, y350010) := (by rw [qTk, if_neg c350002]; have eb : sA σ 0 1 (σ.1 0 1 + xn) = sg350008 := (by rw [esg350008]; simp only [ev350005, sx350004]); rw [eb]; exact Prod.ext rfl hiv350009.symm); show MR w Ia350009 Ja350009 _; rw [e9]; exact hMR, by have e9 : qTk σ xn = ((oT4 (sg350008, 0) 4).1, y350010) := (by rw [qTk, if_neg c350002]; have eb : sA σ 0 1 (σ.1 0 1 + xn) = sg350008 := (by rw [esg350008]; simp only [ev350005, sx350004]); rw [eb]; exact Prod.ext rfl hiv350009.symm); show _ = _; rw [e9]⟩, by rw [ht]; exact hP, va_K.moved hW.alike hK, hD⟩, hS.F ht⟩) hS.2.2 dX7_tick_148
      | succ n ih350009 =>
        intro k350009 y350010 Ia350009 Ja350009 H locs ls hkn350009 hiv350009 hR hML hMD hMU hMR hP hD hS hl
        have hkc350009 : (nI k350009).toNatClampNeg = k350009 := nI_clamp (by omega)
        have hki350009 : vp_in (nI k350009) 4 := nI_in (by omega) (by decide)
        refine lv_iload_n hx hb dX7_tick_28 rfl (lv_at hl 0 rfl) ?_
        refine lv_iconst (v := 4) hx hb dX7_tick_29 (by decide) ?_
        refine lv_icmp_ge (tgt := 147) hx hb dX7_tick_30 (by decide) (fun c350012 => ?_) (fun c350012 => ?_)
        · exact absurd c350012 (nI_ge (b := 4) (by omega) (by decide))
        refine lv_aload_n hx hb dX7_tick_33 rfl (lv_at hl 2 rfl) ?_
        obtain ⟨j350013, hj350013⟩ := wG_7 (cy := cy) (N := N) (T := T) (I := Ia350009) (Q := Q) (J := Ja350009) (hM.at 0 (by decide)) (hM.k 0 (by decide) rfl)
        refine va_get (D := (dC, dI)) (ci := 7) (v := .ref (T (w 0) 1)) (C := RX7) (T := TX7) (N := 18) hx hb hts hi7 hown hK hP j350013 hj350013 rfl 1 (by decide) (hts (.fieldLink RX7 14 "TallyLogsModel" "there" "[Z") (by decide +kernel)) (fun _ h9 => h9) rfl dX7_tick_34 ?_
        refine W.eq (g2 := F0 m 37 ls [.ref (w 2)]) (by rw [hM.t 1 (by decide)]) ?_
        refine lv_iload_n hx hb dX7_tick_37 rfl (lv_at hl 0 rfl) ?_
        obtain ⟨j350014, hj350014⟩ := wG_21 (cy := cy) (N := N) (T := T) (I := Ia350009) (Q := Q) (J := Ja350009) (hM.at 2 (by decide)) (hM.k 2 (by decide) rfl)
        refine va_zald hx hb hK hP j350014 0 hj350014 rfl hki350009 dX7_tick_38 ?_
        refine lv_topi (fun x350015 ex350015 => ?_)
        have sx350015 : x350015 = ((oT4 (sg350008, 0) k350009).1).1 2 ((nI k350009).toNatClampNeg) := ex350015.trans (hMR.a (k := 2) (by decide) (by decide) (show _ < 4 from vp_lt (n := 4) hki350009))
        refine lv_if_eq (tgt := 141) hx hb dX7_tick_39 (by decide) (fun c350016 => ?_) (fun c350016 => ?_)
        · have kc350016 : x350015.toInt = 0 := by have h9 := c350016; rw [xk_eq, xk_0] at h9; exact h9
          obtain ⟨v350017, ev350017⟩ : ∃ y : Int32, y = (nI k350009) + Int32.ofInt 1 := ⟨_, rfl⟩
          refine lv_iinc (v := v350017) (lv' := [(3, .int v350017), (2, .int y350010), (0, .ref (w 0)), (1, .int xn)]) hx hb dX7_tick_141 hl (k := 0) rfl ev350017.symm (by decide) rfl (fun ls hl => ?_)
          refine lv_goto (tgt := 28) hx hb dX7_tick_144 (by decide) ?_
          obtain rfl : v350017 = nI (k350009 + 1) := ev350017.trans (nI_add k350009 1)
          have e9 : oT4 (sg350008, 0) (k350009 + 1) = ((oT4 (sg350008, 0) k350009).1, y350010) := by show oT3 (oT4 (sg350008, 0) k350009) k350009 = _; rw [oT3, if_pos (by have k9 := c350016; simp only [sx350015, hkc350009] at k9; exact k9)]; exact Prod.ext rfl hiv350009.symm
          exact ih350009 (k350009 + 1) _ _ _ _ _ _ (by omega) (by rw [e9]) hR (hML.mono (by omega)) hMD hMU (by rw [e9]; exact hMR) hP hD hS (lv_sub hl [0, 1, 2, 3] rfl)
        · have kc350016 : ¬ (x350015.toInt = 0) := by have h9 := c350016; rw [xk_eq, xk_0] at h9; exact h9
          refine lv_aload_n hx hb dX7_tick_42 rfl (lv_at hl 2 rfl) ?_
          refine lv_iload_n hx hb dX7_tick_43 rfl (lv_at hl 0 rfl) ?_
          obtain ⟨j350019, hj350019⟩ := wG_7 (cy := cy) (N := N) (T := T) (I := Ia350009) (Q := Q) (J := Ja350009) (hM.at 0 (by decide)) (hM.k 0 (by decide) rfl)
          refine va_csq (W.runV (As := [.int (nI k350009)]) (rest := []) ⟨hx, hb, hml, hown, hts⟩ (c_X7_own l dC dI cy w L K N T Q Ia350009 Ja350009 (nI k350009) hM hki350009) (cwV 1 hts gX7_tick_X7_own rfl rfl rfl (by decide +kernel) ⟨Nat.le_of_ble_eq_true rfl, Nat.le_of_ble_eq_true rfl⟩) ⟨mb_blind, va_recv hK hP (ci := 7) (q0 := j350019) rfl hj350019, fun U hU hW => ⟨rfl, mb_pre hP hK hU hW⟩⟩ rfl rfl hl.1 rfl (lv_room (Nat.le_of_ble_eq_true rfl)) dX7_tick_44 ⟨Nat.le_of_ble_eq_true rfl, Nat.le_of_ble_eq_true rfl⟩) (fun r350018 hr350018 => ?_)
          subst hr350018
          rcases sp_ow_cs w (Ia350009 (w 0) 16) (Ja350009 (w 4) (nI k350009).toNatClampNeg) (nI k350009).toNatClampNeg with hon350020 | ⟨n350020, hnn350020, eln350020, hubn350020, hon350020⟩
          · refine W.eq (g2 := F0 m 47 ls [.null]) (by rw [hon350020]; rfl) ?_
            have oqn350020 := oOw_no hMR (vp_lt (n := 4) hki350009) hon350020
            refine lv_ifnonnullN hx hb dX7_tick_47 ?_
            refine lv_goto (tgt := 141) hx hb dX7_tick_50 (by decide) ?_
            obtain ⟨v350021, ev350021⟩ : ∃ y : Int32, y = (nI k350009) + Int32.ofInt 1 := ⟨_, rfl⟩
            refine lv_iinc (v := v350021) (lv' := [(3, .int v350021), (2, .int y350010), (0, .ref (w 0)), (1, .int xn)]) hx hb dX7_tick_141 hl (k := 0) rfl ev350021.symm (by decide) rfl (fun ls hl => ?_)
            refine lv_goto (tgt := 28) hx hb dX7_tick_144 (by decide) ?_
            obtain rfl : v350021 = nI (k350009 + 1) := ev350021.trans (nI_add k350009 1)
            have oq9 := oqn350020
            rw [hkc350009] at oq9
            have e9 : oT4 (sg350008, 0) (k350009 + 1) = ((oT4 (sg350008, 0) k350009).1, y350010) := by show oT3 (oT4 (sg350008, 0) k350009) k350009 = _; rw [oT3, if_neg (by have k9 := c350016; simp only [sx350015, hkc350009] at k9; exact k9), oq9]; exact Prod.ext rfl hiv350009.symm
            exact ih350009 (k350009 + 1) _ _ _ _ _ _ (by omega) (by rw [e9]) hR (hML.mono (by omega)) hMD hMU (by rw [e9]; exact hMR) hP hD hS (lv_sub hl [0, 1, 2, 3] rfl)
          · have hjn350020 : (5 * (nI k350009).toNatClampNeg + n350020) < 20 := by have h1 := vp_lt (n := 4) hki350009; omega
            refine W.eq (g2 := F0 m 47 ls [.ref (w (21 + (5 * (nI k350009).toNatClampNeg + n350020)))]) (by rw [hon350020]; rfl) ?_
            have oqn350020 := oOw_of hM hMR (vp_lt (n := 4) hki350009) hnn350020 eln350020 hubn350020
            refine lv_ifnonnull (tgt := 53) hx hb dX7_tick_47 (by decide) ?_
            refine lv_iconst (v := 0) hx hb dX7_tick_53 (by decide) ?_
            refine lv_istore (lv' := [(4, .int 0), (3, .int (nI k350009)), (2, .int y350010), (0, .ref (w 0)), (1, .int xn)]) hx hb dX7_tick_54 hl (by decide) rfl (fun ls hl => ?_)
            have hLP350022 : ∀ (n k350022 : Nat) (y350023 : Int32) (Ia350022 Ja350022 : Nat → Nat → Int32) (H : Heap) (locs : List Loc) (ls : Array Slot), k350022 + n = 5 → (Ja350022 (w 4) (nI k350009).toNatClampNeg = nI n350020 ∧ y350023 = (oT2 (oT4 (sg350008, 0) k350009) k350009 k350022).2) → RM w [] I J Ia350022 Ja350022 → ML w E Ia350022 → MD w Ja350022 → MU w Ia350022 → MR w Ia350022 Ja350022 ((oT2 (oT4 (sg350008, 0) k350009) k350009 k350022).1) →  va_P (dC, dI) vwCl (va_pl L (wF cy K N T Ia350022 Q Ja350022)) H → va_D A (va_pl L (wF cy K N T Ia350022 Q Ja350022)) → va_S A s.heap H locs → lv_has ls 5 [(4, .int (nI k350022)), (3, .int (nI k350009)), (2, .int y350023), (0, .ref (w 0)), (1, .int xn)] → W p l e (headSpec wsX7_tick ({ frames := 4, cells := 0, slots := 0, locals := 99 })).room s m ([.ref (w 0), .int xn] : List Value).toArray below meth c H locs 0 0 Qz (F0 m 56 ls []) := by
              intro n
              induction n with
              | zero =>
                intro k350022 y350023 Ia350022 Ja350022 H locs ls hkn350022 hiv350022 hR hML hMD hMU hMR hP hD hS hl
                obtain rfl : k350022 = 5 := by omega
                refine lv_iload hx hb dX7_tick_56 (lv_at hl 0 rfl) ?_
                refine lv_iconst (v := 5) hx hb dX7_tick_58 (by decide) ?_
                refine lv_icmp_ge (tgt := 136) hx hb dX7_tick_59 (by decide) (fun c350024 => ?_) (fun c350024 => ?_)
                rotate_left
                · exact absurd (by decide) c350024
                refine lv_aload_n hx hb dX7_tick_136 rfl (lv_at hl 3 rfl) ?_
                refine lv_iload_n hx hb dX7_tick_137 rfl (lv_at hl 1 rfl) ?_
                obtain ⟨j350025, hj350025⟩ := wG_7 (cy := cy) (N := N) (T := T) (I := Ia350022) (Q := Q) (J := Ja350022) (hM.at 0 (by decide)) (hM.k 0 (by decide) rfl)
                have hFc := pfree hD hS hA
                refine va_callv (va_runV (As := [.int (nI k350009)]) (rest := []) ⟨hx, hb, hml, hown, hts⟩ (f_X7_rise l dC dI cy w L K N T Q Ia350022 Ja350022 H.size (nI k350009) ((oT2 (oT4 (sg350008, 0) k350009) k350009 5).1) hM hki350009 (hMD _ (vp_lt (n := 4) hki350009)) hMR) (cwV 1 hts gX7_tick_X7_rise rfl rfl rfl (by decide +kernel) ⟨Nat.le_of_ble_eq_true rfl, Nat.le_of_ble_eq_true rfl⟩) ⟨mw_blind, va_recv hK hP (ci := 7) (q0 := j350025) rfl hj350025, fun U hU hW => ⟨rfl, mw_pre hP hK hD hU hW⟩⟩ rfl rfl hl.1 rfl (lv_room (Nat.le_of_ble_eq_true rfl)) dX7_tick_138 ⟨Nat.le_of_ble_eq_true rfl, Nat.le_of_ble_eq_true rfl⟩) hS (fun q _ h => hFc q h) hFc (fun d9 t H1 locs ht hvm hw hB hz1 hk1 hS => ?_)
                obtain ⟨I350026, J350026⟩ := d9
                obtain ⟨hP, hK1, hD1⟩ := hB
                rw [ht] at hP
                have hD := hD1.weaken (fun _ _ _ h => hFc _ h)
                generalize H1 = H at hP hS ⊢
                have hP : va_P (dC, dI) vwCl (va_pl L (wF cy K N T I350026 Q J350026)) H := hP
                have hD : va_D A (va_pl L (wF cy K N T I350026 Q J350026)) := hD
                have hMRn := hw.1
                have hw := hw.2
                have hw350028 : RZ w Ia350022 Ja350022 I350026 J350026 (nI k350009).toNatClampNeg := hw
                have hR : RM w [] I J I350026 J350026 := hR.rz hM (vp_lt (n := 4) hki350009) hw350028
                have hMD : MD w J350026 := hMD.rz hw350028
                have hMU : MU w I350026 := hMU.rz hM (vp_lt (n := 4) hki350009) hw350028
                have hML : ML w E I350026 := hML.rz hM (vp_lt (n := 4) hki350009) hw350028
                obtain ⟨sg350029, esg350029⟩ : ∃ z, z = oRi ((oT2 (oT4 (sg350008, 0) k350009) k350009 5).1) ((nI k350009).toNatClampNeg) := ⟨_, rfl⟩
                have hMR : MR w I350026 J350026 sg350029 := by rw [esg350029]; exact hMRn
                obtain ⟨v350030, ev350030⟩ : ∃ y : Int32, y = (nI k350009) + Int32.ofInt 1 := ⟨_, rfl⟩
                refine lv_iinc (v := v350030) (lv' := [(3, .int v350030), (4, .int (nI 5)), (2, .int y350023), (0, .ref (w 0)), (1, .int xn)]) hx hb dX7_tick_141 hl (k := 1) rfl ev350030.symm (by decide) rfl (fun ls hl => ?_)
                refine lv_goto (tgt := 28) hx hb dX7_tick_144 (by decide) ?_
                obtain rfl : v350030 = nI (k350009 + 1) := ev350030.trans (nI_add k350009 1)
                have oq9 := oqn350020
                rw [hkc350009] at oq9
                have e9 : oT4 (sg350008, 0) (k350009 + 1) = (sg350029, y350023) := by show oT3 (oT4 (sg350008, 0) k350009) k350009 = _; rw [oT3, if_neg (by have k9 := c350016; simp only [sx350015, hkc350009] at k9; exact k9), oq9]; show (_, _) = _; rw [esg350029, hkc350009, ← hiv350022.2]
                exact ih350009 (k350009 + 1) _ _ _ _ _ _ (by omega) (by rw [e9]) hR (hML.mono (by omega)) hMD hMU (by rw [e9]; exact hMR) hP hD hS (lv_sub hl [0, 2, 3, 4] rfl)
              | succ n ih350022 =>
                intro k350022 y350023 Ia350022 Ja350022 H locs ls hkn350022 hiv350022 hR hML hMD hMU hMR hP hD hS hl
                have hkc350022 : (nI k350022).toNatClampNeg = k350022 := nI_clamp (by omega)
                have hki350022 : vp_in (nI k350022) 5 := nI_in (by omega) (by decide)
                refine lv_iload hx hb dX7_tick_56 (lv_at hl 0 rfl) ?_
                refine lv_iconst (v := 5) hx hb dX7_tick_58 (by decide) ?_
                refine lv_icmp_ge (tgt := 136) hx hb dX7_tick_59 (by decide) (fun c350031 => ?_) (fun c350031 => ?_)
                · exact absurd c350031 (nI_ge (b := 5) (by omega) (by decide))
                refine lv_aload_n hx hb dX7_tick_62 rfl (lv_at hl 3 rfl) ?_
                obtain ⟨j350032, hj350032⟩ := wG_7 (cy := cy) (N := N) (T := T) (I := Ia350022) (Q := Q) (J := Ja350022) (hM.at 0 (by decide)) (hM.k 0 (by decide) rfl)
                refine va_get (D := (dC, dI)) (ci := 7) (v := .ref (T (w 0) 6)) (C := RX7) (T := TX7) (N := 18) hx hb hts hi7 hown hK hP j350032 hj350032 rfl 6 (by decide) (hts (.fieldLink RX7 31 "TallyLogsModel" "step" "[I") (by decide +kernel)) (fun _ h9 => h9) rfl dX7_tick_63 ?_
                refine W.eq (g2 := F0 m 66 ls [.ref (w 7)]) (by rw [hM.t 6 (by decide)]) ?_
                refine lv_iload_n hx hb dX7_tick_66 rfl (lv_at hl 1 rfl) ?_
                obtain ⟨j350033, hj350033⟩ := wG_20 (cy := cy) (N := N) (T := T) (I := Ia350022) (Q := Q) (J := Ja350022) (hM.at 7 (by decide)) (hM.k 7 (by decide) rfl)
                refine va_iald hx hb hK hP j350033 1 hj350033 rfl (hM.inN (n := 4) 7 (by decide) rfl rfl hki350009) dX7_tick_67 ?_
                refine lv_topi (fun x350034 ex350034 => ?_)
                have sx350034 : x350034 = ((oT2 (oT4 (sg350008, 0) k350009) k350009 k350022).1).1 7 ((nI k350009).toNatClampNeg) := ex350034.trans (hMR.a (k := 7) (by decide) (by decide) (show _ < 4 from vp_lt (n := 4) hki350009))
                refine lv_iload hx hb dX7_tick_68 (lv_at hl 0 rfl) ?_
                refine lv_ishr hx hb dX7_tick_70 ?_
                refine lv_topi (fun v350035 ev350035 => ?_)
                refine lv_iconst (v := 1) hx hb dX7_tick_71 (by decide) ?_
                refine lv_iand hx hb dX7_tick_72 ?_
                refine lv_topi (fun v350036 ev350036 => ?_)
                refine lv_if_eq (tgt := 130) hx hb dX7_tick_73 (by decide) (fun c350037 => ?_) (fun c350037 => ?_)
                · have kc350037 : v350036.toInt = 0 := by have h9 := c350037; rw [xk_eq, xk_0] at h9; exact h9
                  obtain ⟨v350038, ev350038⟩ : ∃ y : Int32, y = (nI k350022) + Int32.ofInt 1 := ⟨_, rfl⟩
                  refine lv_iinc (v := v350038) (lv' := [(4, .int v350038), (3, .int (nI k350009)), (2, .int y350023), (0, .ref (w 0)), (1, .int xn)]) hx hb dX7_tick_130 hl (k := 0) rfl ev350038.symm (by decide) rfl (fun ls hl => ?_)
                  refine lv_goto (tgt := 56) hx hb dX7_tick_133 (by decide) ?_
                  obtain rfl : v350038 = nI (k350022 + 1) := ev350038.trans (nI_add k350022 1)
                  have e9 : oT2 (oT4 (sg350008, 0) k350009) k350009 (k350022 + 1) = ((oT2 (oT4 (sg350008, 0) k350009) k350009 k350022).1, y350023) := by show oT1 (oT2 (oT4 (sg350008, 0) k350009) k350009 k350022) k350009 k350022 = _; rw [oT1, if_pos (by have k9 := c350037; simp only [ev350036, ev350035, sx350034, hkc350009, hkc350022] at k9; exact k9)]; exact Prod.ext rfl hiv350022.2.symm
                  exact ih350022 (k350022 + 1) _ _ _ _ _ _ (by omega) (⟨by exact hiv350022.1, by rw [e9]⟩) hR (hML.mono (by omega)) hMD hMU (by rw [e9]; exact hMR) hP hD hS (lv_sub hl [0, 1, 2, 3, 4] rfl)
                · have kc350037 : ¬ (v350036.toInt = 0) := by have h9 := c350037; rw [xk_eq, xk_0] at h9; exact h9
                  refine lv_iload hx hb dX7_tick_76 (lv_at hl 0 rfl) ?_
                  refine lv_aload_n hx hb dX7_tick_78 rfl (lv_at hl 3 rfl) ?_
                  obtain ⟨j350039, hj350039⟩ := wG_7 (cy := cy) (N := N) (T := T) (I := Ia350022) (Q := Q) (J := Ja350022) (hM.at 0 (by decide)) (hM.k 0 (by decide) rfl)
                  refine va_get (D := (dC, dI)) (ci := 7) (v := .ref (T (w 0) 3)) (C := RX7) (T := TX7) (N := 18) hx hb hts hi7 hown hK hP j350039 hj350039 rfl 3 (by decide) (hts (.fieldLink RX7 22 "TallyLogsModel" "leader" "[I") (by decide +kernel)) (fun _ h9 => h9) rfl dX7_tick_79 ?_
                  refine W.eq (g2 := F0 m 82 ls [.ref (w 4), .int (nI k350022)]) (by rw [hM.t 3 (by decide)]) ?_
                  refine lv_iload_n hx hb dX7_tick_82 rfl (lv_at hl 1 rfl) ?_
                  obtain ⟨j350040, hj350040⟩ := wG_20 (cy := cy) (N := N) (T := T) (I := Ia350022) (Q := Q) (J := Ja350022) (hM.at 4 (by decide)) (hM.k 4 (by decide) rfl)
                  refine va_iald hx hb hK hP j350040 1 hj350040 rfl (hM.inN (n := 4) 4 (by decide) rfl rfl hki350009) dX7_tick_83 ?_
                  refine lv_topi (fun x350041 ex350041 => ?_)
                  have sx350041 : x350041 = ((oT2 (oT4 (sg350008, 0) k350009) k350009 k350022).1).1 4 ((nI k350009).toNatClampNeg) := ex350041.trans (hMR.a (k := 4) (by decide) (by decide) (show _ < 4 from vp_lt (n := 4) hki350009))
                  refine lv_icmp_eq (tgt := 130) hx hb dX7_tick_84 (by decide) (fun c350042 => ?_) (fun c350042 => ?_)
                  · have kc350042 : (nI k350022).toInt = x350041.toInt := by have h9 := c350042; rw [xk_eq] at h9; exact h9
                    obtain ⟨v350043, ev350043⟩ : ∃ y : Int32, y = (nI k350022) + Int32.ofInt 1 := ⟨_, rfl⟩
                    refine lv_iinc (v := v350043) (lv' := [(4, .int v350043), (3, .int (nI k350009)), (2, .int y350023), (0, .ref (w 0)), (1, .int xn)]) hx hb dX7_tick_130 hl (k := 0) rfl ev350043.symm (by decide) rfl (fun ls hl => ?_)
                    refine lv_goto (tgt := 56) hx hb dX7_tick_133 (by decide) ?_
                    obtain rfl : v350043 = nI (k350022 + 1) := ev350043.trans (nI_add k350022 1)
                    have e9 : oT2 (oT4 (sg350008, 0) k350009) k350009 (k350022 + 1) = ((oT2 (oT4 (sg350008, 0) k350009) k350009 k350022).1, y350023) := by show oT1 (oT2 (oT4 (sg350008, 0) k350009) k350009 k350022) k350009 k350022 = _; rw [oT1, if_neg (by have k9 := c350037; simp only [ev350036, ev350035, sx350034, hkc350009, hkc350022] at k9; exact k9), if_pos (by have k9 := c350042; simp only [sx350041, hkc350009, hkc350022] at k9; exact k9)]; exact Prod.ext rfl hiv350022.2.symm
                    exact ih350022 (k350022 + 1) _ _ _ _ _ _ (by omega) (⟨by exact hiv350022.1, by rw [e9]⟩) hR (hML.mono (by omega)) hMD hMU (by rw [e9]; exact hMR) hP hD hS (lv_sub hl [0, 1, 2, 3, 4] rfl)
                  · have kc350042 : ¬ ((nI k350022).toInt = x350041.toInt) := by have h9 := c350042; rw [xk_eq] at h9; exact h9
                    refine lv_aload_n hx hb dX7_tick_87 rfl (lv_at hl 3 rfl) ?_
                    obtain ⟨j350044, hj350044⟩ := wG_7 (cy := cy) (N := N) (T := T) (I := Ia350022) (Q := Q) (J := Ja350022) (hM.at 0 (by decide)) (hM.k 0 (by decide) rfl)
                    refine va_get (D := (dC, dI)) (ci := 7) (v := .int (Ia350022 (w 0) 17)) (C := RX7) (T := TX7) (N := 18) hx hb hts hi7 hown hK hP j350044 hj350044 rfl 17 (by decide) (hts (.fieldLink RX7 119 "TallyLogsModel" "now" "I") (by decide +kernel)) (fun _ h9 => h9) rfl dX7_tick_88 ?_
                    refine lv_topi (fun x350045 ex350045 => ?_)
                    have sx350045 : x350045 = ((oT2 (oT4 (sg350008, 0) k350009) k350009 k350022).1).1 0 1 := ex350045.trans hMR.1.2
                    have tx350045 : x350045.toInt = (Ia350022 (w 0) 17).toInt := congrArg Int32.toInt ex350045
                    refine lv_aload_n hx hb dX7_tick_91 rfl (lv_at hl 3 rfl) ?_
                    obtain ⟨j350046, hj350046⟩ := wG_7 (cy := cy) (N := N) (T := T) (I := Ia350022) (Q := Q) (J := Ja350022) (hM.at 0 (by decide)) (hM.k 0 (by decide) rfl)
                    refine va_get (D := (dC, dI)) (ci := 7) (v := .ref (T (w 0) 0)) (C := RX7) (T := TX7) (N := 18) hx hb hts hi7 hown hK hP j350046 hj350046 rfl 0 (by decide) (hts (.fieldLink RX7 11 "TallyLogsModel" "log" "[[LTallyLogsModel$Log;") (by decide +kernel)) (fun _ h9 => h9) rfl dX7_tick_92 ?_
                    refine W.eq (g2 := F0 m 95 ls [.ref (w 1), .int x350045]) (by rw [hM.t 0 (by decide)]) ?_
                    refine lv_iload_n hx hb dX7_tick_95 rfl (lv_at hl 1 rfl) ?_
                    obtain ⟨j350047, hj350047⟩ := wG_22 (cy := cy) (N := N) (T := T) (I := Ia350022) (Q := Q) (J := Ja350022) (hM.at 1 (by decide)) (hM.k 1 (by decide) rfl)
                    refine xg_aldg hx hb hK hP j350047 2 hj350047 rfl hki350009 dX7_tick_96 ?_
                    refine W.eq (g2 := F0 m 97 ls [.ref (w (17 + (nI k350009).toNatClampNeg)), .int x350045]) (by rw [hM.qo (vp_lt (n := 4) hki350009)]; rfl) ?_
                    refine lv_iload hx hb dX7_tick_97 (lv_at hl 0 rfl) ?_
                    obtain ⟨j350048, hj350048⟩ := wG_23 (cy := cy) (N := N) (T := T) (I := Ia350022) (Q := Q) (J := Ja350022) (hM.row (vp_lt (n := 4) hki350009)).1 (hM.row (vp_lt (n := 4) hki350009)).2
                    refine va_aldq hx hb hK hP j350048 3 hj350048 rfl hki350022 dX7_tick_99 ?_
                    have hjl350049 : (5 * (nI k350009).toNatClampNeg + (nI k350022).toNatClampNeg) < 20 := by have h1 := (vp_lt (n := 4) hki350009); have h2 := (vp_lt (n := 5) hki350022); omega
                    refine W.eq (g2 := F0 m 100 ls [.ref (w (21 + (5 * (nI k350009).toNatClampNeg + (nI k350022).toNatClampNeg))), .int x350045]) (by rw [hM.qr (vp_lt (n := 4) hki350009) (vp_lt (n := 5) hki350022)]; rfl) ?_
                    obtain ⟨j350050, hj350050⟩ := wG_6 (cy := cy) (N := N) (T := T) (I := Ia350022) (Q := Q) (J := Ja350022) (hM.lg hjl350049).1 (hM.lg hjl350049).2
                    refine va_get (D := (dC, dI)) (ci := 6) (v := .int (Ia350022 (w (21 + (5 * (nI k350009).toNatClampNeg + (nI k350022).toNatClampNeg))) 6)) (C := RX6) (T := TX6) (N := 7) hx hb hts hi6 hown hK hP j350050 hj350050 rfl 6 (by decide) (hts (.fieldLink RX7 122 "TallyLogsModel$Log" "caught" "I") (by decide +kernel)) (fun _ h9 => h9) rfl dX7_tick_100 ?_
                    refine lv_topi (fun x350051 ex350051 => ?_)
                    have sx350051 : x350051 = ((oT2 (oT4 (sg350008, 0) k350009) k350009 k350022).1).2.1 (5 * (nI k350009).toNatClampNeg + (nI k350022).toNatClampNeg) 6 := ex350051.trans (hMR.g hjl350049 (by decide) (by decide))
                    have tx350051 : x350051.toInt = (Ia350022 (w (21 + (5 * (nI k350009).toNatClampNeg + (nI k350022).toNatClampNeg))) 6).toInt := congrArg Int32.toInt ex350051
                    refine lv_isub hx hb dX7_tick_103 ?_
                    refine lv_topi (fun v350052 ev350052 => ?_)
                    refine lv_bipush (v := 10) hx hb dX7_tick_104 (by decide) ?_
                    refine lv_icmp_gt (tgt := 112) hx hb dX7_tick_106 (by decide) (fun c350053 => ?_) (fun c350053 => ?_)
                    · have kc350053 : 10 < v350052.toInt := by have h9 := c350053; rw [xk_lt, (show (10 : Int32).toInt = 10 by decide)] at h9; exact h9
                      refine lv_aload_n hx hb dX7_tick_112 rfl (lv_at hl 3 rfl) ?_
                      obtain ⟨j350054, hj350054⟩ := wG_7 (cy := cy) (N := N) (T := T) (I := Ia350022) (Q := Q) (J := Ja350022) (hM.at 0 (by decide)) (hM.k 0 (by decide) rfl)
                      refine va_get (D := (dC, dI)) (ci := 7) (v := .ref (T (w 0) 6)) (C := RX7) (T := TX7) (N := 18) hx hb hts hi7 hown hK hP j350054 hj350054 rfl 6 (by decide) (hts (.fieldLink RX7 31 "TallyLogsModel" "step" "[I") (by decide +kernel)) (fun _ h9 => h9) rfl dX7_tick_113 ?_
                      refine W.eq (g2 := F0 m 116 ls [.ref (w 7)]) (by rw [hM.t 6 (by decide)]) ?_
                      refine lv_iload_n hx hb dX7_tick_116 rfl (lv_at hl 1 rfl) ?_
                      refine lv_dup2_11 hx hb dX7_tick_117 rfl rfl ?_
                      obtain ⟨j350055, hj350055⟩ := wG_20 (cy := cy) (N := N) (T := T) (I := Ia350022) (Q := Q) (J := Ja350022) (hM.at 7 (by decide)) (hM.k 7 (by decide) rfl)
                      refine va_iald hx hb hK hP j350055 1 hj350055 rfl (hM.inN (n := 4) 7 (by decide) rfl rfl hki350009) dX7_tick_118 ?_
                      refine lv_topi (fun x350056 ex350056 => ?_)
                      have sx350056 : x350056 = ((oT2 (oT4 (sg350008, 0) k350009) k350009 k350022).1).1 7 ((nI k350009).toNatClampNeg) := ex350056.trans (hMR.a (k := 7) (by decide) (by decide) (show _ < 4 from vp_lt (n := 4) hki350009))
                      refine lv_iconst (v := 1) hx hb dX7_tick_119 (by decide) ?_
                      refine lv_iload hx hb dX7_tick_120 (lv_at hl 0 rfl) ?_
                      refine lv_ishl hx hb dX7_tick_122 ?_
                      refine lv_topi (fun v350057 ev350057 => ?_)
                      refine lv_iconst (v := (-1)) hx hb dX7_tick_123 (by decide) ?_
                      refine lv_ixor hx hb dX7_tick_124 ?_
                      refine lv_topi (fun v350058 ev350058 => ?_)
                      refine lv_iand hx hb dX7_tick_125 ?_
                      refine lv_topi (fun v350059 ev350059 => ?_)
                      obtain ⟨j350060, hj350060⟩ := wG_20 (cy := cy) (N := N) (T := T) (I := Ia350022) (Q := Q) (J := Ja350022) (hM.at 7 (by decide)) (hM.k 7 (by decide) rfl)
                      have hDo := hD
                      refine va_iast (x := v350059) hx hb hK hP hD hS j350060 1 hj350060 rfl (hM.inN (n := 4) 7 (by decide) rfl rfl hki350009) dX7_tick_126 (fun H locs hP hD hS => ?_)
                      have hP := Eq.mp (congrArg (fun w => va_P (dC, dI) vwCl w H) (wS_20 hDo (hM.at 7 (by decide)) (hM.k 7 (by decide) rfl) hj350060)) hP
                      obtain ⟨J350061, eJ350061⟩ : ∃ z, z = va_up Ja350022 (w 7) (upd (Ja350022 (w 7)) (nI k350009).toNatClampNeg v350059) := ⟨_, rfl⟩
                      rw [← eJ350061] at hP
                      have hR : RM w [] I J Ia350022 J350061 := by rw [eJ350061]; exact hR.pj hM (by decide) (by decide)
                      have hMD : MD w J350061 := by
                        rw [eJ350061, ev350059, ex350056, ev350058, ev350057]
                        exact hMD.p7 hM ((hMD _ (vp_lt (n := 4) hki350009)).clr hki350022 (fun q => c350042 (by rw [ex350041]; exact q.symm)))
                      have hD : va_D A (va_pl L (wF cy K N T Ia350022 Q J350061)) := pD hDo
                      obtain ⟨sg350062, esg350062⟩ : ∃ z, z = sA ((oT2 (oT4 (sg350008, 0) k350009) k350009 k350022).1) 7 ((nI k350009).toNatClampNeg) v350059 := ⟨_, rfl⟩
                      have hMR : MR w Ia350022 J350061 sg350062 := by rw [eJ350061, esg350062]; exact hMR.wa hM (by decide) (by decide)
                      obtain ⟨v350063, ev350063⟩ : ∃ y : Int32, y = y350023 + Int32.ofInt 1 := ⟨_, rfl⟩
                      refine lv_iinc (v := v350063) (lv' := [(2, .int v350063), (4, .int (nI k350022)), (3, .int (nI k350009)), (0, .ref (w 0)), (1, .int xn)]) hx hb dX7_tick_127 hl (k := 2) rfl ev350063.symm (by decide) rfl (fun ls hl => ?_)
                      obtain ⟨v350064, ev350064⟩ : ∃ y : Int32, y = (nI k350022) + Int32.ofInt 1 := ⟨_, rfl⟩
                      refine lv_iinc (v := v350064) (lv' := [(4, .int v350064), (2, .int v350063), (3, .int (nI k350009)), (0, .ref (w 0)), (1, .int xn)]) hx hb dX7_tick_130 hl (k := 1) rfl ev350064.symm (by decide) rfl (fun ls hl => ?_)
                      refine lv_goto (tgt := 56) hx hb dX7_tick_133 (by decide) ?_
                      obtain rfl : v350064 = nI (k350022 + 1) := ev350064.trans (nI_add k350022 1)
                      have e9 : oT2 (oT4 (sg350008, 0) k350009) k350009 (k350022 + 1) = (sg350062, v350063) := by show oT1 (oT2 (oT4 (sg350008, 0) k350009) k350009 k350022) k350009 k350022 = _; rw [oT1, if_neg (by have k9 := c350037; simp only [ev350036, ev350035, sx350034, hkc350009, hkc350022] at k9; exact k9), if_neg (by have k9 := c350042; simp only [sx350041, hkc350009, hkc350022] at k9; exact k9), if_pos (by have k9 := c350053; simp only [ev350052, sx350045, sx350051, hkc350009, hkc350022] at k9; exact k9)]; rw [esg350062, ev350063, ← hiv350022.2]; simp only [ev350059, sx350056, ev350058, ev350057, hkc350009, hkc350022] <;> rfl
                      exact ih350022 (k350022 + 1) _ _ _ _ _ _ (by omega) (⟨by rw [eJ350061, va_up_ne _ _ (hM.ne (by decide) (by decide) (by decide))]; exact hiv350022.1, by rw [e9]⟩) hR (hML.mono (by omega)) hMD hMU (by rw [e9]; exact hMR) hP hD hS (lv_sub hl [0, 2, 1, 3, 4] rfl)
                    · have kc350053 : ¬ (10 < v350052.toInt) := by have h9 := c350053; rw [xk_lt, (show (10 : Int32).toInt = 10 by decide)] at h9; exact h9
                      refine lv_goto (tgt := 130) hx hb dX7_tick_109 (by decide) ?_
                      obtain ⟨v350065, ev350065⟩ : ∃ y : Int32, y = (nI k350022) + Int32.ofInt 1 := ⟨_, rfl⟩
                      refine lv_iinc (v := v350065) (lv' := [(4, .int v350065), (3, .int (nI k350009)), (2, .int y350023), (0, .ref (w 0)), (1, .int xn)]) hx hb dX7_tick_130 hl (k := 0) rfl ev350065.symm (by decide) rfl (fun ls hl => ?_)
                      refine lv_goto (tgt := 56) hx hb dX7_tick_133 (by decide) ?_
                      obtain rfl : v350065 = nI (k350022 + 1) := ev350065.trans (nI_add k350022 1)
                      have e9 : oT2 (oT4 (sg350008, 0) k350009) k350009 (k350022 + 1) = ((oT2 (oT4 (sg350008, 0) k350009) k350009 k350022).1, y350023) := by show oT1 (oT2 (oT4 (sg350008, 0) k350009) k350009 k350022) k350009 k350022 = _; rw [oT1, if_neg (by have k9 := c350037; simp only [ev350036, ev350035, sx350034, hkc350009, hkc350022] at k9; exact k9), if_neg (by have k9 := c350042; simp only [sx350041, hkc350009, hkc350022] at k9; exact k9), if_neg (by have k9 := c350053; simp only [ev350052, sx350045, sx350051, hkc350009, hkc350022] at k9; exact k9)]; exact Prod.ext rfl hiv350022.2.symm
                      exact ih350022 (k350022 + 1) _ _ _ _ _ _ (by omega) (⟨by exact hiv350022.1, by rw [e9]⟩) hR (hML.mono (by omega)) hMD hMU (by rw [e9]; exact hMR) hP hD hS (lv_sub hl [0, 1, 2, 3, 4] rfl)
            exact hLP350022 5 0 _ _ _ _ _ _ rfl (⟨eln350020, hiv350009⟩) hR (hML.mono (by omega)) hMD hMU (hMR) hP hD hS (lv_sub hl [0, 1, 2, 3, 4] rfl)
    exact hLP350009 4 0 _ _ _ _ _ _ rfl (rfl) hR (hML.mono (by omega)) hMD hMU (hMR) hP hD hS (lv_sub hl [0, 1, 2, 3] rfl)
  · refine lv_iconst (v := (-1)) hx hb dX7_tick_12 (by decide) ?_
    exact W.iret (v := (-1)) hx hb hr (fun t ht hW => ⟨⟨(-1), (I, J), rfl, ⟨⟨hML.mono (by omega), hMD, hMU⟩, by have e9 : qTk σ xn = (σ, (-1)) := (by rw [qTk, if_pos c350002]); show MR w I J _; rw [e9]; exact hMR, by have e9 : qTk σ xn = (σ, (-1)) := (by rw [qTk, if_pos c350002]); show _ = _; rw [e9]⟩, by rw [ht]; exact hP, va_K.moved hW.alike hK, hD⟩, hS.F ht⟩) hS.2.2 dX7_tick_13
