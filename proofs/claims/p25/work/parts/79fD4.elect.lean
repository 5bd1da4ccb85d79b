set_option maxHeartbeats 4000000 in
set_option maxRecDepth 100000 in
/-- elect, exactly -/
theorem g_X5_elect (l : Launch) (dC : Nat → ClassId) (dI : Nat → Nat → Nat) (cy : Nat → ClassId) (v : Nat → Nat) (L : List Nat) (K N : Nat → Nat) (T : Nat → Nat → Nat) (I : Nat → Nat → Int32) (Q : Nat → Nat → Option Nat) (J : Nat → Nat → Int32) (sz : Nat) (pa ra : Nat → Nat) (kx : Nat → Prop) (σ : SG) (E : Int) (xp un : Int32) (hE : REP v pa ra L K N T I Q J kx σ) (hkx : kx = kxo σ) (hSK : SK σ) (hLA : LA E σ) (hE9 : E < 1900) (hB : B5 (σ.1 0 0)) : Met l yX5_elect wsX5_elect ({ frames := 4, cells := 0, slots := 0, locals := 90 }) (va_Pc [.ref (v 0), .int xp, .int un] (pW dC dI cy L (pF cy K N T I Q J) sz)) (va_Qi (fun (r : Int32) (d : (Nat → Nat → Int32) × (Nat → Nat → Option Nat) × (Nat → Nat → Int32)) => (REP v pa ra L K N T d.1 d.2.1 d.2.2 (kxo (qEl σ xp un).1) (qEl σ xp un).1) ∧ r = (qEl σ xp un).2) (fun (d : (Nat → Nat → Int32) × (Nat → Nat → Option Nat) × (Nat → Nat → Int32)) t => va_P (dC, dI) vwCl (va_pl L (pF cy K N T d.1 d.2.1 d.2.2)) t.heap ∧ va_K (dC, dI) vwCl (pTy cy) t ∧ va_D (va_A (va_pl L (pF cy K N T I Q J)) sz) (va_pl L (pF cy K N T d.1 d.2.1 d.2.2))) (va_A (va_pl L (pF cy K N T I Q J)) sz)) 0 0 (va_A (va_pl L (pF cy K N T I Q J)) sz) := by
  refine Met.ofW (cc := cX5_elect) (maxL := 5) (ret := (some .int)) (by decide) rfl ?_
  intro p e s m args below meth c s₁ B hml hv
  obtain ⟨rfl, hsz, ⟨hP, hK, hN⟩, hD0⟩ := hv
  have hx := B.exec
  have hb := B.bytes
  have hr := B.returns
  have hts := atoms_spec (ws := wsX5_elect) B.pre
  have hown : s.vm.findClass RX5 = some m.cls := findClass_of_methodNamed B.named
  have hlocks := B.notSynchronized
  have hi5 : ∀ w ∈ wsX50, w ∈ wsX5_elect := by decide +kernel
  have hi2 : ∀ w ∈ wsX20, w ∈ wsX5_elect := by decide +kernel
  have hl := lv_entry ([.ref (v 0), .int xp, .int un]) (n := 5) (Nat.le_of_ble_eq_true rfl)
  rw [lg_entry_eq]
  generalize (lg_sl ([.ref (v 0), .int xp, .int un]) ++ List.replicate (5 - (lg_sl ([.ref (v 0), .int xp, .int un])).length) Slot.unset).toArray = ls at hl ⊢
  have hl : lv_has ls 5 [(0, .ref (v 0)), (1, .int xp), (2, .int un)] := hl
  subst hsz
  have hD := hD0.self (sz := s.heap.size)
  generalize hAe : va_A (va_pl L (pF cy K N T I Q J)) s.heap.size = A at hD ⊢
  have hA : ∀ q : Nat, s.heap.size ≤ q → A q := fun q h => by rw [← hAe]; exact Or.inr h
  have hS : va_S A s.heap s.heap [] := va_S.rf
  have hR : RS v I Q J I Q J := RS.rf
  have hn28 := hN.1
  have hn30 := hN.2.1
  have hn37 := hN.2.2.1
  have hC := hE.ct
  subst hkx
  refine lv_aload_n hx hb dX5_elect_0 rfl (lv_at hl 0 rfl) ?_
  refine lv_iload_n hx hb dX5_elect_1 rfl (lv_at hl 1 rfl) ?_
  obtain ⟨j620047, hj620047⟩ := pG_5 (cy := cy) (N := N) (T := T) (I := I) (Q := Q) (J := J) (hC.at 0 (by decide)) (hC.k 0 (by decide) rfl)
  refine va_csq (W.runV (As := [.int xp]) (rest := []) ⟨hx, hb, hml, hown, hts⟩ (g_X5_partitionAt l dC dI cy v L K N T I Q J pa ra (kxo σ) σ xp hE) (cwV 1 hts gX5_elect_X5_partitionAt rfl rfl rfl (by decide +kernel) ⟨Nat.le_of_ble_eq_true rfl, Nat.le_of_ble_eq_true rfl⟩) ⟨pb_blind, va_recv hK hP (ci := 5) (q0 := j620047) rfl hj620047, fun U hU hW => ⟨rfl, pb_pre hP hK hN hU hW⟩⟩ rfl rfl hl.1 rfl (lv_room (Nat.le_of_ble_eq_true rfl)) dX5_elect_2 ⟨Nat.le_of_ble_eq_true rfl, Nat.le_of_ble_eq_true rfl⟩) (fun r620046 hr620046 => ?_)
  rcases hr620046 with ⟨rfl, hpn620048⟩ | ⟨P620048, hP620048, eP620048, htP620048, rfl⟩
  · refine W.eq (g2 := F0 m 5 ls [.null]) rfl ?_
    refine lv_astore_nN (lv' := [(3, .null), (0, .ref (v 0)), (1, .int xp), (2, .int un)]) hx hb dX5_elect_5 rfl hl (by decide) rfl (fun ls hl => ?_)
    refine lv_aload_nN hx hb dX5_elect_6 rfl (lv_at hl 0 rfl) ?_
    refine lv_ifnonnullN hx hb dX5_elect_7 ?_
    refine lv_iconst (v := (-1)) hx hb dX5_elect_10 (by decide) ?_
    have e9 : qEl σ xp un = (σ, (-1)) := by unfold qEl; rw [if_pos hpn620048]
    have hk9 : kxo σ = (kxo σ) := rfl
    exact W.iret (v := (-1)) hx hb hr (fun t ht hW => ⟨⟨(-1), (I, Q, J), rfl, ⟨by show REP v pa ra L K N T I Q J (kxo (qEl σ xp un).1) (qEl σ xp un).1; rw [e9]; show REP v pa ra L K N T I Q J (kxo σ) σ; rw [hk9]; exact hE, by show _ = _; rw [e9]⟩, by rw [ht]; exact hP, va_K.moved hW.alike hK, hD⟩, hS.F ht⟩) hS.2.2 dX5_elect_11
  · refine W.eq (g2 := F0 m 5 ls [.ref (pa P620048)]) rfl ?_
    have hit620048 := sp_it_y (f := σ.1 2) hP620048 eP620048 htP620048
    have cP620048 := nI_cl (by omega) eP620048
    have hPI620048 := hSK.1 P620048 hP620048
    have hPL620048 := hPI620048.pl htP620048
    have htO620048 := htP620048
    refine lv_astore_n (lv' := [(3, .ref (pa P620048)), (0, .ref (v 0)), (1, .int xp), (2, .int un)]) hx hb dX5_elect_5 rfl hl (by decide) rfl (fun ls hl => ?_)
    refine lv_aload_n hx hb dX5_elect_6 rfl (lv_at hl 0 rfl) ?_
    refine lv_ifnonnull (tgt := 12) hx hb dX5_elect_7 (by decide) ?_
    refine lv_aload_n hx hb dX5_elect_12 rfl (lv_at hl 0 rfl) ?_
    obtain ⟨j620049, hj620049⟩ := pG_2 (cy := cy) (N := N) (T := T) (I := I) (Q := Q) (J := J) (hE.pL hP620048 htP620048).1 (hE.pL hP620048 htP620048).2
    refine va_get (D := (dC, dI)) (ci := 2) (v := .int (I (pa P620048) 5)) (C := RX2) (T := TX2) (N := 6) hx hb hts hi2 hown hK hP j620049 hj620049 rfl 5 (by decide) (hts (.fieldLink RX5 58 "TallyLogs$Partition" "inStep" "I") (by decide +kernel)) (fun _ h9 => h9) rfl dX5_elect_13 ?_
    refine lv_topi (fun x620050 ex620050 => ?_)
    have sx620050 : x620050 = σ.1 7 P620048 := ex620050.trans ((hE.pt P620048 hP620048).2 htP620048).2.1.2.2.2.2
    refine lv_aload_n hx hb dX5_elect_16 rfl (lv_at hl 1 rfl) ?_
    obtain ⟨j620051, hj620051⟩ := pG_5 (cy := cy) (N := N) (T := T) (I := I) (Q := Q) (J := J) (hC.at 0 (by decide)) (hC.k 0 (by decide) rfl)
    refine va_get (D := (dC, dI)) (ci := 5) (v := .int (I (v 0) 3)) (C := RX5) (T := TX5) (N := 6) hx hb hts hi5 hown hK hP j620051 hj620051 rfl 3 (by decide) (hts (.fieldLink RX5 27 "TallyLogs" "up" "I") (by decide +kernel)) (fun _ h9 => h9) rfl dX5_elect_17 ?_
    refine lv_topi (fun x620052 ex620052 => ?_)
    have sx620052 : x620052 = σ.1 0 0 := ex620052.trans hE.up
    refine lv_iand hx hb dX5_elect_20 ?_
    refine lv_topi (fun v620053 ev620053 => ?_)
    refine vp_callSi (W.runS (As := [.int v620053]) (rest := []) ⟨hx, hb, hml, hown, hts⟩ (c_X5_leastOf l v620053) (va_cwS 1 hts gX5_elect_X5_leastOf rfl rfl rfl (by decide +kernel) ⟨Nat.le_of_ble_eq_true rfl, Nat.le_of_ble_eq_true rfl⟩) preEq rfl rfl hl.1 rfl (lv_room (Nat.le_of_ble_eq_true rfl)) dX5_elect_21 ⟨Nat.le_of_ble_eq_true rfl, Nat.le_of_ble_eq_true rfl⟩) (fun r620054 hr620054 => ?_)
    have hv620055 : v620053 = σ.1 7 P620048 &&& σ.1 0 0 := by rw [ev620053, sx620050, sx620052]
    have hB620055 : B5 v620053 := by rw [hv620055]; exact B5.and' hB
    by_cases hz620055 : v620053 = 0
    · have hr620055z : r620054 = -1 := by rw [hr620054, hz620055]; exact sp_lo_0
      refine lv_istore (lv' := [(4, .int r620054), (3, .ref (pa P620048)), (0, .ref (v 0)), (1, .int xp), (2, .int un)]) hx hb dX5_elect_24 hl (by decide) rfl (fun ls hl => ?_)
      refine lv_iload hx hb dX5_elect_26 (lv_at hl 0 rfl) ?_
      refine lv_iconst (v := (-1)) hx hb dX5_elect_28 (by decide) ?_
      refine lv_icmp_ne (tgt := 64) hx hb dX5_elect_29 (by decide) (fun c620056 => ?_) (fun c620056 => ?_)
      · exact absurd hr620055z c620056
      refine lv_iload_n hx hb dX5_elect_32 rfl (lv_at hl 4 rfl) ?_
      refine lv_if_eq (tgt := 64) hx hb dX5_elect_33 (by decide) (fun c620057 => ?_) (fun c620057 => ?_)
      · have kc620057 : un.toInt = 0 := by have h9 := c620057; rw [xk_eq, xk_0] at h9; exact h9
        refine lv_iload hx hb dX5_elect_64 (lv_at hl 0 rfl) ?_
        refine lv_iconst (v := (-1)) hx hb dX5_elect_66 (by decide) ?_
        refine lv_icmp_ne (tgt := 73) hx hb dX5_elect_67 (by decide) (fun c620058 => ?_) (fun c620058 => ?_)
        · exact absurd hr620055z c620058
        refine lv_bipush (v := (-2)) hx hb dX5_elect_70 (by decide) ?_
        have e9 : qEl σ xp un = (σ, (-2)) := by have hm9 : oMay σ P620048 un = 0 := (by rw [oMay, if_pos (by rw [← hv620055]; exact hz620055), if_pos c620057, ← hv620055]; exact hz620055); unfold qEl; rw [if_neg hit620048, cP620048, if_pos hm9]
        have hk9 : kxo σ = (kxo σ) := rfl
        exact W.iret (v := (-2)) hx hb hr (fun t ht hW => ⟨⟨(-2), (I, Q, J), rfl, ⟨by show REP v pa ra L K N T I Q J (kxo (qEl σ xp un).1) (qEl σ xp un).1; rw [e9]; show REP v pa ra L K N T I Q J (kxo σ) σ; rw [hk9]; exact hE, by show _ = _; rw [e9]⟩, by rw [ht]; exact hP, va_K.moved hW.alike hK, hD⟩, hS.F ht⟩) hS.2.2 dX5_elect_72
      · have kc620057 : ¬ (un.toInt = 0) := by have h9 := c620057; rw [xk_eq, xk_0] at h9; exact h9
        refine lv_aload_n hx hb dX5_elect_36 rfl (lv_at hl 1 rfl) ?_
        obtain ⟨j620059, hj620059⟩ := pG_2 (cy := cy) (N := N) (T := T) (I := I) (Q := Q) (J := J) (hE.pL hP620048 htP620048).1 (hE.pL hP620048 htP620048).2
        refine va_get (D := (dC, dI)) (ci := 2) (v := .int (I (pa P620048) 0)) (C := RX2) (T := TX2) (N := 6) hx hb hts hi2 hown hK hP j620059 hj620059 rfl 0 (by decide) (hts (.fieldLink RX5 64 "TallyLogs$Partition" "mask" "I") (by decide +kernel)) (fun _ h9 => h9) rfl dX5_elect_37 ?_
        refine lv_topi (fun x620060 ex620060 => ?_)
        have sx620060 : x620060 = σ.1 3 P620048 := ex620060.trans ((hE.pt P620048 hP620048).2 htP620048).2.1.1
        refine lv_aload_n hx hb dX5_elect_40 rfl (lv_at hl 2 rfl) ?_
        obtain ⟨j620061, hj620061⟩ := pG_5 (cy := cy) (N := N) (T := T) (I := I) (Q := Q) (J := J) (hC.at 0 (by decide)) (hC.k 0 (by decide) rfl)
        refine va_get (D := (dC, dI)) (ci := 5) (v := .int (I (v 0) 3)) (C := RX5) (T := TX5) (N := 6) hx hb hts hi5 hown hK hP j620061 hj620061 rfl 3 (by decide) (hts (.fieldLink RX5 27 "TallyLogs" "up" "I") (by decide +kernel)) (fun _ h9 => h9) rfl dX5_elect_41 ?_
        refine lv_topi (fun x620062 ex620062 => ?_)
        have sx620062 : x620062 = σ.1 0 0 := ex620062.trans hE.up
        refine lv_iand hx hb dX5_elect_44 ?_
        refine lv_topi (fun v620063 ev620063 => ?_)
        refine vp_callSi (W.runS (As := [.int v620063]) (rest := []) ⟨hx, hb, hml, hown, hts⟩ (c_X5_leastOf l v620063) (va_cwS 1 hts gX5_elect_X5_leastOf rfl rfl rfl (by decide +kernel) ⟨Nat.le_of_ble_eq_true rfl, Nat.le_of_ble_eq_true rfl⟩) preEq rfl rfl hl.1 rfl (lv_room (Nat.le_of_ble_eq_true rfl)) dX5_elect_45 ⟨Nat.le_of_ble_eq_true rfl, Nat.le_of_ble_eq_true rfl⟩) (fun r620064 hr620064 => ?_)
        have hv620065 : v620063 = σ.1 3 P620048 &&& σ.1 0 0 := by rw [ev620063, sx620060, sx620062]
        have hB620065 : B5 v620063 := by rw [hv620065]; exact B5.and' hB
        by_cases hz620065 : v620063 = 0
        · have hr620065z : r620064 = -1 := by rw [hr620064, hz620065]; exact sp_lo_0
          refine lv_istore (lv' := [(4, .int r620064), (3, .ref (pa P620048)), (0, .ref (v 0)), (1, .int xp), (2, .int un)]) hx hb dX5_elect_48 hl (by decide) rfl (fun ls hl => ?_)
          refine lv_iload hx hb dX5_elect_50 (lv_at hl 0 rfl) ?_
          refine lv_iconst (v := (-1)) hx hb dX5_elect_52 (by decide) ?_
          refine lv_icmp_eq (tgt := 64) hx hb dX5_elect_53 (by decide) (fun c620066 => ?_) (fun c620066 => ?_)
          rotate_left
          · exact absurd hr620065z c620066
          refine lv_iload hx hb dX5_elect_64 (lv_at hl 0 rfl) ?_
          refine lv_iconst (v := (-1)) hx hb dX5_elect_66 (by decide) ?_
          refine lv_icmp_ne (tgt := 73) hx hb dX5_elect_67 (by decide) (fun c620067 => ?_) (fun c620067 => ?_)
          · exact absurd hr620065z c620067
          refine lv_bipush (v := (-2)) hx hb dX5_elect_70 (by decide) ?_
          have e9 : qEl σ xp un = (σ, (-2)) := by have hm9 : oMay σ P620048 un = 0 := (by rw [oMay, if_pos (by rw [← hv620055]; exact hz620055), if_neg c620057, ← hv620065]; exact hz620065); unfold qEl; rw [if_neg hit620048, cP620048, if_pos hm9]
          have hk9 : kxo σ = (kxo σ) := rfl
          exact W.iret (v := (-2)) hx hb hr (fun t ht hW => ⟨⟨(-2), (I, Q, J), rfl, ⟨by show REP v pa ra L K N T I Q J (kxo (qEl σ xp un).1) (qEl σ xp un).1; rw [e9]; show REP v pa ra L K N T I Q J (kxo σ) σ; rw [hk9]; exact hE, by show _ = _; rw [e9]⟩, by rw [ht]; exact hP, va_K.moved hW.alike hK, hD⟩, hS.F ht⟩) hS.2.2 dX5_elect_72
        · obtain ⟨m620065, hm620065, em620065, hbm620065⟩ := B5.nz hB620065 hz620065
          have hrm620065 : r620064 = nI m620065 := by rw [hr620064, B5.lo hB620065 hz620065]; exact em620065
          have hne620065 : ¬ r620064 = -1 := by rw [hrm620065]; exact nI_n1 hm620065
          refine lv_istore (lv' := [(4, .int r620064), (3, .ref (pa P620048)), (0, .ref (v 0)), (1, .int xp), (2, .int un)]) hx hb dX5_elect_48 hl (by decide) rfl (fun ls hl => ?_)
          refine lv_iload hx hb dX5_elect_50 (lv_at hl 0 rfl) ?_
          refine lv_iconst (v := (-1)) hx hb dX5_elect_52 (by decide) ?_
          refine lv_icmp_eq (tgt := 64) hx hb dX5_elect_53 (by decide) (fun c620068 => ?_) (fun c620068 => ?_)
          · exact absurd c620068 hne620065
          refine lv_aload_n hx hb dX5_elect_56 rfl (lv_at hl 1 rfl) ?_
          refine lv_iconst (v := 1) hx hb dX5_elect_57 (by decide) ?_
          refine lv_iload hx hb dX5_elect_58 (lv_at hl 0 rfl) ?_
          refine lv_ishl hx hb dX5_elect_60 ?_
          refine lv_topi (fun v620069 ev620069 => ?_)
          obtain ⟨j620070, hj620070⟩ := pG_2 (cy := cy) (N := N) (T := T) (I := I) (Q := Q) (J := J) (hE.pL hP620048 htP620048).1 (hE.pL hP620048 htP620048).2
          have hDo := hD
          refine va_put (D := (dC, dI)) (ci := 2) (v := .int v620069) (ty := .int) (C := RX2) (T := TX2) (N := 6) hx hb hts hi2 tyX2 tyX2_ok nmX2 hown hK hP hD hS j620070 hj620070 rfl 5 (by decide) (hts (.fieldLink RX5 58 "TallyLogs$Partition" "inStep" "I") (by decide +kernel)) (fun _ h9 => h9) rfl (by decide +kernel) rfl rfl (Nat.le_of_ble_eq_true rfl) dX5_elect_61 (fun H locs hP hD hS => ?_)
          have hP := Eq.mp (congrArg (fun w => va_P (dC, dI) vwCl w H) (pP_2_5 (x := v620069) hDo (hE.pL hP620048 htP620048).1 (hE.pL hP620048 htP620048).2 hj620070)) hP
          obtain ⟨I620071, eI620071⟩ : ∃ z, z = p2 I (pa P620048) 5 v620069 := ⟨_, rfl⟩
          rw [← eI620071] at hP
          have hR : RS v I620071 Q J I620071 Q J := RS.rf
          obtain ⟨sg620072, esg620072⟩ : ∃ z, z = sA σ 7 P620048 v620069 := ⟨_, rfl⟩
          have hE : REP v pa ra L K N T I620071 Q J (kxo σ) sg620072 := by rw [esg620072, eI620071]; exact hE.wp hP620048 htP620048 (by decide)
          have htP620048 : ¬ sg620072.1 2 P620048 = 0 := by rw [esg620072, sA_n (by decide)]; exact htP620048
          have hC : CT v L K N T I620071 Q := by rw [eI620071]; exact hC.pi (by rw [(hE.pL hP620048 htP620048).2]; decide)
          have hD : va_D A (va_pl L (pF cy K N T I620071 Q J)) := pD hDo
          refine lv_iload hx hb dX5_elect_64 (lv_at hl 0 rfl) ?_
          refine lv_iconst (v := (-1)) hx hb dX5_elect_66 (by decide) ?_
          refine lv_icmp_ne (tgt := 73) hx hb dX5_elect_67 (by decide) (fun c620073 => ?_) (fun c620073 => ?_)
          rotate_left
          · exact absurd c620073 hne620065
          refine lv_aload_n hx hb dX5_elect_73 rfl (lv_at hl 1 rfl) ?_
          refine lv_iload hx hb dX5_elect_74 (lv_at hl 0 rfl) ?_
          refine lv_aload_n hx hb dX5_elect_76 rfl (lv_at hl 2 rfl) ?_
          obtain ⟨j620074, hj620074⟩ := pG_5 (cy := cy) (N := N) (T := T) (I := I620071) (Q := Q) (J := J) (hC.at 0 (by decide)) (hC.k 0 (by decide) rfl)
          refine va_get (D := (dC, dI)) (ci := 5) (v := .int (I620071 (v 0) 4)) (C := RX5) (T := TX5) (N := 6) hx hb hts hi5 hown hK hP j620074 hj620074 rfl 4 (by decide) (hts (.fieldLink RX5 31 "TallyLogs" "now" "I") (by decide +kernel)) (fun _ h9 => h9) rfl dX5_elect_77 ?_
          refine lv_topi (fun x620075 ex620075 => ?_)
          have sx620075 : x620075 = sg620072.1 0 1 := ex620075.trans hE.nw
          have hbm6200652 := hbm620065; rw [hv620065] at hbm6200652
          obtain ⟨hbs620065, hbu620065⟩ := bt_and.mp hbm6200652
          have hb3620065 := hbs620065
          have hnb620065 : ¬ bt (σ.1 7 P620048) m620065 := fun z => bt_0 m620065 hm620065 (by rw [← hz620055, hv620055]; exact bt_and.mpr ⟨z, hbu620065⟩)
          have hu620065 : v620069 = 1 <<< (nI m620065 &&& 31) := by rw [ev620069, hrm620065]
          have hmay : oMay σ P620048 un = v620063 := by rw [oMay, if_pos (by rw [← hv620055]; exact hz620055), if_neg c620057]; exact hv620065.symm
          have hx9 : (if bt (σ.1 7 P620048) m620065 then σ else sA σ 7 P620048 (1 <<< (nI m620065 &&& 31))) = sg620072 := by rw [if_neg hnb620065, esg620072, hu620065]
          have hs0 : sg620072.1 0 0 = σ.1 0 0 := by rw [esg620072, sA_q (by omega)]
          have hs4 : ∀ q, sg620072.1 4 q = σ.1 4 q := fun q => by rw [esg620072, sA_q (by omega)]
          have hs5 : sg620072.1 5 P620048 = σ.1 5 P620048 := by rw [esg620072, sA_q (by omega)]
          have hs01 : sg620072.1 0 1 = σ.1 0 1 := by rw [esg620072, sA_q (by omega)]
          have hRH9 := oPl_rh (σ := σ) (σ' := sg620072) (p := P620048) (m := m620065) (nw := x620075) hPI620048 htO620048 hm620065 hb3620065 hbu620065 hs0 (by rw [esg620072, sA_q (by omega)]) (by rw [esg620072, sA_q (by omega)]) (by rw [if_neg hnb620065, esg620072, sA_s, hu620065]) (fun q hq => by rw [esg620072, sA_2]; exact (hLA (5 * P620048 + q) (by omega)).ln (by omega))
          obtain ⟨j620076, hj620076⟩ := pG_2 (cy := cy) (N := N) (T := T) (I := I620071) (Q := Q) (J := J) (hE.pL hP620048 htP620048).1 (hE.pL hP620048 htP620048).2
          have hFc := pfree hD hS hA
          refine va_callv (va_runV (As := [.int r620064, .int x620075]) (rest := []) ⟨hx, hb, hml, hown, hts⟩ (g_X2_putLeader l dC dI cy v L K N T I620071 Q J H.size pa ra (kxo σ) sg620072 P620048 m620065 r620064 x620075 (kxo (oPl sg620072 P620048 r620064 x620075)) hE hP620048 htP620048 hm620065 hrm620065 (oPl_kx1 hs0 hs4) (by rw [hrm620065]; exact oPl_kx2 hm620065) (by rw [hrm620065]; exact hRH9)) (cwV 2 hts gX5_elect_X2_putLeader rfl rfl rfl (by decide +kernel) ⟨Nat.le_of_ble_eq_true rfl, Nat.le_of_ble_eq_true rfl⟩) ⟨pw_blind, va_recv hK hP (ci := 2) (q0 := j620076) rfl hj620076, fun U hU hW => ⟨rfl, pw_pre hP hK hN hD hU hW⟩⟩ rfl rfl hl.1 rfl (lv_room (Nat.le_of_ble_eq_true rfl)) dX5_elect_80 ⟨Nat.le_of_ble_eq_true rfl, Nat.le_of_ble_eq_true rfl⟩) hS (fun q _ h => hFc q h) hFc (fun d9 t H1 locs ht hvm hw hB hz1 hk1 hS => ?_)
          obtain ⟨I620077, Q620077, J620077⟩ := d9
          obtain ⟨hP, hK1, hD1⟩ := hB
          rw [ht] at hP
          have hD := hD1.weaken (fun _ _ _ h => hFc _ h)
          generalize H1 = H at hP hS ⊢
          have hP : va_P (dC, dI) vwCl (va_pl L (pF cy K N T I620077 Q620077 J620077)) H := hP
          have hD : va_D A (va_pl L (pF cy K N T I620077 Q620077 J620077)) := hD
          obtain ⟨sg620078, esg620078⟩ : ∃ z, z = oRi (oPl sg620072 P620048 r620064 x620075) P620048 := ⟨_, rfl⟩
          have hE : REP v pa ra L K N T I620077 Q620077 J620077 (kxo (oPl sg620072 P620048 r620064 x620075)) sg620078 := by rw [esg620078]; exact hw
          refine lv_iload hx hb dX5_elect_83 (lv_at hl 0 rfl) ?_
          have e9 : qEl σ xp un = (sg620078, r620064) := by unfold qEl; rw [if_neg hit620048, cP620048, hmay, if_neg hz620065, em620065, hrm620065]; refine Prod.ext ?_ rfl; show oEl σ P620048 (nI m620065) = _; unfold oEl; rw [oElx, hx9, esg620078, hrm620065]; unfold oPl; rw [hs5, sx620075, hs01]
          have hk9 : kxo sg620078 = (kxo (oPl sg620072 P620048 r620064 x620075)) := kxo_c (by rw [esg620078, oRi_1]) (fun q => by rw [esg620078, oRi_1])
          exact W.iret (v := r620064) hx hb hr (fun t ht hW => ⟨⟨r620064, (I620077, Q620077, J620077), rfl, ⟨by show REP v pa ra L K N T I620077 Q620077 J620077 (kxo (qEl σ xp un).1) (qEl σ xp un).1; rw [e9]; show REP v pa ra L K N T I620077 Q620077 J620077 (kxo sg620078) sg620078; rw [hk9]; exact hE, by show _ = _; rw [e9]⟩, by rw [ht]; exact hP, va_K.moved hW.alike hK, hD⟩, hS.F ht⟩) hS.2.2 dX5_elect_85
    · obtain ⟨m620055, hm620055, em620055, hbm620055⟩ := B5.nz hB620055 hz620055
      have hrm620055 : r620054 = nI m620055 := by rw [hr620054, B5.lo hB620055 hz620055]; exact em620055
      have hne620055 : ¬ r620054 = -1 := by rw [hrm620055]; exact nI_n1 hm620055
      refine lv_istore (lv' := [(4, .int r620054), (3, .ref (pa P620048)), (0, .ref (v 0)), (1, .int xp), (2, .int un)]) hx hb dX5_elect_24 hl (by decide) rfl (fun ls hl => ?_)
      refine lv_iload hx hb dX5_elect_26 (lv_at hl 0 rfl) ?_
      refine lv_iconst (v := (-1)) hx hb dX5_elect_28 (by decide) ?_
      refine lv_icmp_ne (tgt := 64) hx hb dX5_elect_29 (by decide) (fun c620079 => ?_) (fun c620079 => ?_)
      rotate_left
      · exact absurd c620079 hne620055
      refine lv_iload hx hb dX5_elect_64 (lv_at hl 0 rfl) ?_
      refine lv_iconst (v := (-1)) hx hb dX5_elect_66 (by decide) ?_
      refine lv_icmp_ne (tgt := 73) hx hb dX5_elect_67 (by decide) (fun c620080 => ?_) (fun c620080 => ?_)
      rotate_left
      · exact absurd c620080 hne620055
      refine lv_aload_n hx hb dX5_elect_73 rfl (lv_at hl 1 rfl) ?_
      refine lv_iload hx hb dX5_elect_74 (lv_at hl 0 rfl) ?_
      refine lv_aload_n hx hb dX5_elect_76 rfl (lv_at hl 2 rfl) ?_
      obtain ⟨j620081, hj620081⟩ := pG_5 (cy := cy) (N := N) (T := T) (I := I) (Q := Q) (J := J) (hC.at 0 (by decide)) (hC.k 0 (by decide) rfl)
      refine va_get (D := (dC, dI)) (ci := 5) (v := .int (I (v 0) 4)) (C := RX5) (T := TX5) (N := 6) hx hb hts hi5 hown hK hP j620081 hj620081 rfl 4 (by decide) (hts (.fieldLink RX5 31 "TallyLogs" "now" "I") (by decide +kernel)) (fun _ h9 => h9) rfl dX5_elect_77 ?_
      refine lv_topi (fun x620082 ex620082 => ?_)
      have sx620082 : x620082 = σ.1 0 1 := ex620082.trans hE.nw
      have hbm6200552 := hbm620055; rw [hv620055] at hbm6200552
      obtain ⟨hbs620055, hbu620055⟩ := bt_and.mp hbm6200552
      have hb3620055 : bt (σ.1 3 P620048) m620055 := (hPI620048.2 htO620048).2.1 m620055 hm620055 hbs620055
      have hmay : oMay σ P620048 un = v620053 := by rw [oMay, if_neg (by rw [← hv620055]; exact hz620055)]; exact hv620055.symm
      have hx9 : (if bt (σ.1 7 P620048) m620055 then σ else sA σ 7 P620048 (1 <<< (nI m620055 &&& 31))) = σ := if_pos hbs620055
      have hs0 : σ.1 0 0 = σ.1 0 0 := rfl
      have hs4 : ∀ q, σ.1 4 q = σ.1 4 q := fun q => rfl
      have hs5 : σ.1 5 P620048 = σ.1 5 P620048 := rfl
      have hs01 : σ.1 0 1 = σ.1 0 1 := rfl
      have hRH9 := oPl_rh (σ := σ) (σ' := σ) (p := P620048) (m := m620055) (nw := x620082) hPI620048 htO620048 hm620055 hb3620055 hbu620055 hs0 (rfl) (rfl) ((if_pos hbs620055).symm) (fun q hq => (hLA (5 * P620048 + q) (by omega)).ln (by omega))
      obtain ⟨j620083, hj620083⟩ := pG_2 (cy := cy) (N := N) (T := T) (I := I) (Q := Q) (J := J) (hE.pL hP620048 htP620048).1 (hE.pL hP620048 htP620048).2
      have hFc := pfree hD hS hA
      refine va_callv (va_runV (As := [.int r620054, .int x620082]) (rest := []) ⟨hx, hb, hml, hown, hts⟩ (g_X2_putLeader l dC dI cy v L K N T I Q J s.heap.size pa ra (kxo σ) σ P620048 m620055 r620054 x620082 (kxo (oPl σ P620048 r620054 x620082)) hE hP620048 htP620048 hm620055 hrm620055 (oPl_kx1 hs0 hs4) (by rw [hrm620055]; exact oPl_kx2 hm620055) (by rw [hrm620055]; exact hRH9)) (cwV 2 hts gX5_elect_X2_putLeader rfl rfl rfl (by decide +kernel) ⟨Nat.le_of_ble_eq_true rfl, Nat.le_of_ble_eq_true rfl⟩) ⟨pw_blind, va_recv hK hP (ci := 2) (q0 := j620083) rfl hj620083, fun U hU hW => ⟨rfl, pw_pre hP hK hN hD hU hW⟩⟩ rfl rfl hl.1 rfl (lv_room (Nat.le_of_ble_eq_true rfl)) dX5_elect_80 ⟨Nat.le_of_ble_eq_true rfl, Nat.le_of_ble_eq_true rfl⟩) hS (fun q _ h => hFc q h) hFc (fun d9 t H1 locs ht hvm hw hB hz1 hk1 hS => ?_)
      obtain ⟨I620084, Q620084, J620084⟩ := d9
      obtain ⟨hP, hK1, hD1⟩ := hB
      rw [ht] at hP
      have hD := hD1.weaken (fun _ _ _ h => hFc _ h)
      generalize H1 = H at hP hS ⊢
      have hP : va_P (dC, dI) vwCl (va_pl L (pF cy K N T I620084 Q620084 J620084)) H := hP
      have hD : va_D A (va_pl L (pF cy K N T I620084 Q620084 J620084)) := hD
      obtain ⟨sg620085, esg620085⟩ : ∃ z, z = oRi (oPl σ P620048 r620054 x620082) P620048 := ⟨_, rfl⟩
      have hE : REP v pa ra L K N T I620084 Q620084 J620084 (kxo (oPl σ P620048 r620054 x620082)) sg620085 := by rw [esg620085]; exact hw
      refine lv_iload hx hb dX5_elect_83 (lv_at hl 0 rfl) ?_
      have e9 : qEl σ xp un = (sg620085, r620054) := by unfold qEl; rw [if_neg hit620048, cP620048, hmay, if_neg hz620055, em620055, hrm620055]; refine Prod.ext ?_ rfl; show oEl σ P620048 (nI m620055) = _; unfold oEl; rw [oElx, hx9, esg620085, hrm620055]; unfold oPl; rw [hs5, sx620082]
      have hk9 : kxo sg620085 = (kxo (oPl σ P620048 r620054 x620082)) := kxo_c (by rw [esg620085, oRi_1]) (fun q => by rw [esg620085, oRi_1])
      exact W.iret (v := r620054) hx hb hr (fun t ht hW => ⟨⟨r620054, (I620084, Q620084, J620084), rfl, ⟨by show REP v pa ra L K N T I620084 Q620084 J620084 (kxo (qEl σ xp un).1) (qEl σ xp un).1; rw [e9]; show REP v pa ra L K N T I620084 Q620084 J620084 (kxo sg620085) sg620085; rw [hk9]; exact hE, by show _ = _; rw [e9]⟩, by rw [ht]; exact hP, va_K.moved hW.alike hK, hD⟩, hS.F ht⟩) hS.2.2 dX5_elect_85
