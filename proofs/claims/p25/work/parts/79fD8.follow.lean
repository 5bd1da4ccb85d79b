theorem oFf_0 {σ : SG} {F l : Nat} (hne : ¬ F = l) (h : LN (σ.2.1 F)) (hl : LN (σ.2.1 l)) : (oFf σ F l).1.1 = σ.1 := by
  have e4 : ∀ s : SG × Int32, s.1.1 = σ.1 → ∀ x, (sG s.1 F 3 x, s.2).1.1 = σ.1 := fun s h x => h
  have e1 := oDb_2 (σ := σ) (j := F) (o := σ.2.1 l 1)
  have e2 := oDb_n (σ := σ) (i := l) (j := F) (o := σ.2.1 l 1) (fun z => hne z.symm)
  obtain ⟨h1, h2, _, h4⟩ := h
  have e3 : ∀ k, (oTn (oDb σ F (σ.2.1 l 1)) F l k).1.1 = σ.1 := fun k => (oTn_fr (τ := oDb σ F (σ.2.1 l 1)) hne (by rw [e1]; omega) (by rw [e2]; exact hl.2.2.2) (by rw [e1]; exact h4) k).1.trans oDb_t
  unfold oFf
  exact e4 _ (e3 5) _
set_option maxHeartbeats 4000000 in
set_option maxRecDepth 100000 in
/-- follow, exactly -/
theorem g_X5_follow (l : Launch) (dC : Nat → ClassId) (dI : Nat → Nat → Nat) (cy : Nat → ClassId) (v : Nat → Nat) (L : List Nat) (K N : Nat → Nat) (T : Nat → Nat → Nat) (I : Nat → Nat → Int32) (Q : Nat → Nat → Option Nat) (J : Nat → Nat → Int32) (sz : Nat) (pa ra : Nat → Nat) (kx : Nat → Prop) (σ : SG) (E : Int) (xn xp : Int32) (hE : REP v pa ra L K N T I Q J kx σ) (hkx : kx = kxo σ) (hSK : SK σ) (hLA : LA E σ) (hE9 : E < 1900) (hB : B5 (σ.1 0 0)) : Met l yX5_follow wsX5_follow ({ frames := 4, cells := 0, slots := 0, locals := 89 }) (va_Pc [.ref (v 0), .int xn, .int xp] (pW dC dI cy L (pF cy K N T I Q J) sz)) (va_Qi (fun (r : Int32) (d : (Nat → Nat → Int32) × (Nat → Nat → Option Nat) × (Nat → Nat → Int32)) => (REP v pa ra L K N T d.1 d.2.1 d.2.2 (kxo (qFo σ xn xp).1) (qFo σ xn xp).1) ∧ r = (qFo σ xn xp).2) (fun (d : (Nat → Nat → Int32) × (Nat → Nat → Option Nat) × (Nat → Nat → Int32)) t => va_P (dC, dI) vwCl (va_pl L (pF cy K N T d.1 d.2.1 d.2.2)) t.heap ∧ va_K (dC, dI) vwCl (pTy cy) t ∧ va_D (va_A (va_pl L (pF cy K N T I Q J)) sz) (va_pl L (pF cy K N T d.1 d.2.1 d.2.2))) (va_A (va_pl L (pF cy K N T I Q J)) sz)) 0 0 (va_A (va_pl L (pF cy K N T I Q J)) sz) := by
  refine Met.ofW (cc := cX5_follow) (maxL := 6) (ret := (some .int)) (by decide) rfl ?_
  intro p e s m args below meth c s₁ B hml hv
  obtain ⟨rfl, hsz, ⟨hP, hK, hN⟩, hD0⟩ := hv
  have hx := B.exec
  have hb := B.bytes
  have hr := B.returns
  have hts := atoms_spec (ws := wsX5_follow) B.pre
  have hown : s.vm.findClass RX5 = some m.cls := findClass_of_methodNamed B.named
  have hlocks := B.notSynchronized
  have hi5 : ∀ w ∈ wsX50, w ∈ wsX5_follow := by decide +kernel
  have hi2 : ∀ w ∈ wsX20, w ∈ wsX5_follow := by decide +kernel
  have hi4 : ∀ w ∈ wsX40, w ∈ wsX5_follow := by decide +kernel
  have hl := lv_entry ([.ref (v 0), .int xn, .int xp]) (n := 6) (Nat.le_of_ble_eq_true rfl)
  rw [lg_entry_eq]
  generalize (lg_sl ([.ref (v 0), .int xn, .int xp]) ++ List.replicate (6 - (lg_sl ([.ref (v 0), .int xn, .int xp])).length) Slot.unset).toArray = ls at hl ⊢
  have hl : lv_has ls 6 [(0, .ref (v 0)), (1, .int xn), (2, .int xp)] := hl
  subst hsz
  have hD := hD0.self (sz := s.heap.size)
  generalize hAe : va_A (va_pl L (pF cy K N T I Q J)) s.heap.size = A at hD ⊢
  have hA : ∀ q : Nat, s.heap.size ≤ q → A q := fun q h => by rw [← hAe]; exact Or.inr h
  have hS : va_S A s.heap s.heap [] := va_S.rf
  have hR : RS v I Q J I Q J := RS.rf
  have hn28 := hN.1
  have hn30 := hN.2.1
  have hn37 := hN.2.2.1
  have hC := hE.ct
  subst hkx
  refine lv_aload_n hx hb dX5_follow_0 rfl (lv_at hl 0 rfl) ?_
  refine lv_iload_n hx hb dX5_follow_1 rfl (lv_at hl 2 rfl) ?_
  obtain ⟨j640026, hj640026⟩ := pG_5 (cy := cy) (N := N) (T := T) (I := I) (Q := Q) (J := J) (hC.at 0 (by decide)) (hC.k 0 (by decide) rfl)
  refine va_csq (W.runV (As := [.int xp]) (rest := []) ⟨hx, hb, hml, hown, hts⟩ (g_X5_partitionAt l dC dI cy v L K N T I Q J pa ra (kxo σ) σ xp hE) (cwV 1 hts gX5_follow_X5_partitionAt rfl rfl rfl (by decide +kernel) ⟨Nat.le_of_ble_eq_true rfl, Nat.le_of_ble_eq_true rfl⟩) ⟨pb_blind, va_recv hK hP (ci := 5) (q0 := j640026) rfl hj640026, fun U hU hW => ⟨rfl, pb_pre hP hK hN hU hW⟩⟩ rfl rfl hl.1 rfl (lv_room (Nat.le_of_ble_eq_true rfl)) dX5_follow_2 ⟨Nat.le_of_ble_eq_true rfl, Nat.le_of_ble_eq_true rfl⟩) (fun r640025 hr640025 => ?_)
  rcases hr640025 with ⟨rfl, hpn640027⟩ | ⟨P640027, hP640027, eP640027, htP640027, rfl⟩
  · refine W.eq (g2 := F0 m 5 ls [.null]) rfl ?_
    refine lv_astore_nN (lv' := [(3, .null), (0, .ref (v 0)), (1, .int xn), (2, .int xp)]) hx hb dX5_follow_5 rfl hl (by decide) rfl (fun ls hl => ?_)
    refine lv_aload_nN hx hb dX5_follow_6 rfl (lv_at hl 0 rfl) ?_
    refine lv_ifnonnullN hx hb dX5_follow_7 ?_
    refine lv_iconst (v := (-1)) hx hb dX5_follow_10 (by decide) ?_
    have e9 : qFo σ xn xp = (σ, (-1)) := by unfold qFo; rw [if_pos (sp_ir_n0 hpn640027)]
    have hk9 : kxo σ = (kxo σ) := rfl
    exact W.iret (v := (-1)) hx hb hr (fun t ht hW => ⟨⟨(-1), (I, Q, J), rfl, ⟨by show REP v pa ra L K N T I Q J (kxo (qFo σ xn xp).1) (qFo σ xn xp).1; rw [e9]; show REP v pa ra L K N T I Q J (kxo σ) σ; rw [hk9]; exact hE, by show _ = _; rw [e9]⟩, by rw [ht]; exact hP, va_K.moved hW.alike hK, hD⟩, hS.F ht⟩) hS.2.2 dX5_follow_11
  · refine W.eq (g2 := F0 m 5 ls [.ref (pa P640027)]) rfl ?_
    have hit640027 := sp_it_y (f := σ.1 2) hP640027 eP640027 htP640027
    have cP640027 := nI_cl (by omega) eP640027
    have hPI640027 := hSK.1 P640027 hP640027
    have hPL640027 := hPI640027.pl htP640027
    have htO640027 := htP640027
    refine lv_astore_n (lv' := [(3, .ref (pa P640027)), (0, .ref (v 0)), (1, .int xn), (2, .int xp)]) hx hb dX5_follow_5 rfl hl (by decide) rfl (fun ls hl => ?_)
    refine lv_aload_n hx hb dX5_follow_6 rfl (lv_at hl 0 rfl) ?_
    refine lv_ifnonnull (tgt := 12) hx hb dX5_follow_7 (by decide) ?_
    refine lv_aload_n hx hb dX5_follow_12 rfl (lv_at hl 0 rfl) ?_
    refine lv_iload_n hx hb dX5_follow_13 rfl (lv_at hl 2 rfl) ?_
    obtain ⟨j640029, hj640029⟩ := pG_2 (cy := cy) (N := N) (T := T) (I := I) (Q := Q) (J := J) (hE.pL hP640027 htP640027).1 (hE.pL hP640027 htP640027).2
    refine va_csq (W.runV (As := [.int xn]) (rest := []) ⟨hx, hb, hml, hown, hts⟩ (g_X2_replicaAt l dC dI cy v L K N T I Q J pa ra (kxo σ) σ P640027 xn hE hP640027 htP640027) (cwV 1 hts gX5_follow_X2_replicaAt rfl rfl rfl (by decide +kernel) ⟨Nat.le_of_ble_eq_true rfl, Nat.le_of_ble_eq_true rfl⟩) ⟨pb_blind, va_recv hK hP (ci := 2) (q0 := j640029) rfl hj640029, fun U hU hW => ⟨rfl, pb_pre hP hK hN hU hW⟩⟩ rfl rfl hl.1 rfl (lv_room (Nat.le_of_ble_eq_true rfl)) dX5_follow_14 ⟨Nat.le_of_ble_eq_true rfl, Nat.le_of_ble_eq_true rfl⟩) (fun r640028 hr640028 => ?_)
    rcases hr640028 with ⟨rfl, hno640030⟩ | ⟨n640030, hn640030, en640030, hl640030, rfl⟩
    · refine W.eq (g2 := F0 m 17 ls [.null]) rfl ?_
      refine lv_astoreN (lv' := [(4, .null), (3, .ref (pa P640027)), (0, .ref (v 0)), (1, .int xn), (2, .int xp)]) hx hb dX5_follow_17 hl (by decide) rfl (fun ls hl => ?_)
      refine lv_aloadN hx hb dX5_follow_19 (lv_at hl 0 rfl) ?_
      refine lv_ifnullN (tgt := 43) hx hb dX5_follow_21 (by decide) ?_
      refine lv_iconst (v := (-1)) hx hb dX5_follow_43 (by decide) ?_
      have e9 : qFo σ xn xp = (σ, (-1)) := by unfold qFo; rw [if_pos (sp_ir_n1 (fun P n hP hn e1 e2 z => hno640030 n hn e2 (by have e3 : P = P640027 := (by have e4 := congrArg Int32.toInt (e1.symm.trans eP640027); rw [nI_toInt (by omega), nI_toInt (by omega)] at e4; omega); rw [← e3]; exact z)))]
      have hk9 : kxo σ = (kxo σ) := rfl
      exact W.iret (v := (-1)) hx hb hr (fun t ht hW => ⟨⟨(-1), (I, Q, J), rfl, ⟨by show REP v pa ra L K N T I Q J (kxo (qFo σ xn xp).1) (qFo σ xn xp).1; rw [e9]; show REP v pa ra L K N T I Q J (kxo σ) σ; rw [hk9]; exact hE, by show _ = _; rw [e9]⟩, by rw [ht]; exact hP, va_K.moved hW.alike hK, hD⟩, hS.F ht⟩) hS.2.2 dX5_follow_44
    · refine W.eq (g2 := F0 m 17 ls [.ref (ra (5 * P640027 + n640030))]) rfl ?_
      have cn640030 := nI_cl (by omega) en640030
      have hir640030 := sp_ir_y (t := σ.1 2) (r := σ.1 3) hP640027 hn640030 eP640027 en640030 hl640030.1 hl640030.2
      have hLIf := hLA (5 * P640027 + n640030) (by omega)
      have hNf := hLIf.ln (by omega)
      have hlF := hl640030
      refine lv_astore (lv' := [(4, .ref (ra (5 * P640027 + n640030))), (3, .ref (pa P640027)), (0, .ref (v 0)), (1, .int xn), (2, .int xp)]) hx hb dX5_follow_17 hl (by decide) rfl (fun ls hl => ?_)
      refine lv_aload hx hb dX5_follow_19 (lv_at hl 0 rfl) ?_
      refine lv_ifnull hx hb dX5_follow_21 ?_
      refine lv_aload_n hx hb dX5_follow_24 rfl (lv_at hl 2 rfl) ?_
      obtain ⟨j640031, hj640031⟩ := pG_5 (cy := cy) (N := N) (T := T) (I := I) (Q := Q) (J := J) (hC.at 0 (by decide)) (hC.k 0 (by decide) rfl)
      refine va_get (D := (dC, dI)) (ci := 5) (v := .int (I (v 0) 3)) (C := RX5) (T := TX5) (N := 6) hx hb hts hi5 hown hK hP j640031 hj640031 rfl 3 (by decide) (hts (.fieldLink RX5 27 "TallyLogs" "up" "I") (by decide +kernel)) (fun _ h9 => h9) rfl dX5_follow_25 ?_
      refine lv_topi (fun x640032 ex640032 => ?_)
      have sx640032 : x640032 = σ.1 0 0 := ex640032.trans hE.up
      refine lv_iload_n hx hb dX5_follow_28 rfl (lv_at hl 3 rfl) ?_
      refine vp_callSi (W.runS (As := [.int x640032, .int xn]) (rest := []) ⟨hx, hb, hml, hown, hts⟩ (c_X5_contains l x640032 xn) (va_cwS 2 hts gX5_follow_X5_contains rfl rfl rfl (by decide +kernel) ⟨Nat.le_of_ble_eq_true rfl, Nat.le_of_ble_eq_true rfl⟩) preEq rfl rfl hl.1 rfl (lv_room (Nat.le_of_ble_eq_true rfl)) dX5_follow_29 ⟨Nat.le_of_ble_eq_true rfl, Nat.le_of_ble_eq_true rfl⟩) (fun r640033 hr640033 => ?_)
      refine lv_if_eq (tgt := 43) hx hb dX5_follow_32 (by decide) (fun c640034 => ?_) (fun c640034 => ?_)
      · have kc640034 : r640033.toInt = 0 := by have h9 := c640034; rw [xk_eq, xk_0] at h9; exact h9
        refine lv_iconst (v := (-1)) hx hb dX5_follow_43 (by decide) ?_
        have e9 : qFo σ xn xp = (σ, (-1)) := by unfold qFo; rw [if_neg hir640030, if_pos ((sp_iu_cnB hB).mpr (by rw [← sx640032, ← hr640033]; exact c640034))]
        have hk9 : kxo σ = (kxo σ) := rfl
        exact W.iret (v := (-1)) hx hb hr (fun t ht hW => ⟨⟨(-1), (I, Q, J), rfl, ⟨by show REP v pa ra L K N T I Q J (kxo (qFo σ xn xp).1) (qFo σ xn xp).1; rw [e9]; show REP v pa ra L K N T I Q J (kxo σ) σ; rw [hk9]; exact hE, by show _ = _; rw [e9]⟩, by rw [ht]; exact hP, va_K.moved hW.alike hK, hD⟩, hS.F ht⟩) hS.2.2 dX5_follow_44
      · have kc640034 : ¬ (r640033.toInt = 0) := by have h9 := c640034; rw [xk_eq, xk_0] at h9; exact h9
        refine lv_iload_n hx hb dX5_follow_35 rfl (lv_at hl 3 rfl) ?_
        refine lv_aload_n hx hb dX5_follow_36 rfl (lv_at hl 1 rfl) ?_
        obtain ⟨j640035, hj640035⟩ := pG_2 (cy := cy) (N := N) (T := T) (I := I) (Q := Q) (J := J) (hE.pL hP640027 htP640027).1 (hE.pL hP640027 htP640027).2
        refine va_get (D := (dC, dI)) (ci := 2) (v := .int (I (pa P640027) 3)) (C := RX2) (T := TX2) (N := 6) hx hb hts hi2 hown hK hP j640035 hj640035 rfl 3 (by decide) (hts (.fieldLink RX5 51 "TallyLogs$Partition" "leader" "I") (by decide +kernel)) (fun _ h9 => h9) rfl dX5_follow_37 ?_
        refine lv_topi (fun x640036 ex640036 => ?_)
        have sx640036 : x640036 = σ.1 4 P640027 := ex640036.trans ((hE.pt P640027 hP640027).2 htP640027).2.1.2.2.1
        refine lv_icmp_ne (tgt := 45) hx hb dX5_follow_40 (by decide) (fun c640037 => ?_) (fun c640037 => ?_)
        · have kc640037 : ¬ (xn.toInt = x640036.toInt) := by have h9 := c640037; rw [xk_eq] at h9; exact h9
          refine lv_aload_n hx hb dX5_follow_45 rfl (lv_at hl 1 rfl) ?_
          obtain ⟨j640039, hj640039⟩ := pG_2 (cy := cy) (N := N) (T := T) (I := I) (Q := Q) (J := J) (hE.pL hP640027 htP640027).1 (hE.pL hP640027 htP640027).2
          refine va_csq (W.runV (As := []) (rest := []) ⟨hx, hb, hml, hown, hts⟩ (g_X2_leading l dC dI cy v L K N T I Q J pa ra (kxo σ) σ P640027 hE hP640027 htP640027) (cwV 0 hts gX5_follow_X2_leading rfl rfl rfl (by decide +kernel) ⟨Nat.le_of_ble_eq_true rfl, Nat.le_of_ble_eq_true rfl⟩) ⟨pb_blind, va_recv hK hP (ci := 2) (q0 := j640039) rfl hj640039, fun U hU hW => ⟨rfl, pb_pre hP hK hN hU hW⟩⟩ rfl rfl hl.1 rfl (lv_room (Nat.le_of_ble_eq_true rfl)) dX5_follow_46 ⟨Nat.le_of_ble_eq_true rfl, Nat.le_of_ble_eq_true rfl⟩) (fun r640038 hr640038 => ?_)
          rcases hr640038 with ⟨rfl, hno640040⟩ | ⟨n640040, hn640040, en640040, hl640040, rfl⟩
          · refine W.eq (g2 := F0 m 49 ls [.null]) rfl ?_
            have ho640040 := hPL640027.no hno640040
            refine lv_astoreN (lv' := [(5, .null), (4, .ref (ra (5 * P640027 + n640030))), (3, .ref (pa P640027)), (0, .ref (v 0)), (1, .int xn), (2, .int xp)]) hx hb dX5_follow_49 hl (by decide) rfl (fun ls hl => ?_)
            refine lv_aloadN hx hb dX5_follow_51 (lv_at hl 0 rfl) ?_
            refine lv_ifnonnullN hx hb dX5_follow_53 ?_
            refine lv_bipush (v := (-2)) hx hb dX5_follow_56 (by decide) ?_
            have e9 : qFo σ xn xp = (σ, (-2)) := by unfold qFo; rw [if_neg hir640030, if_neg (fun z => c640034 (by rw [hr640033, sx640032]; exact (sp_iu_cnB hB).mp z)), cP640027, if_neg (fun z => c640037 (by rw [sx640036]; exact z.symm)), ho640040]
            have hk9 : kxo σ = (kxo σ) := rfl
            exact W.iret (v := (-2)) hx hb hr (fun t ht hW => ⟨⟨(-2), (I, Q, J), rfl, ⟨by show REP v pa ra L K N T I Q J (kxo (qFo σ xn xp).1) (qFo σ xn xp).1; rw [e9]; show REP v pa ra L K N T I Q J (kxo σ) σ; rw [hk9]; exact hE, by show _ = _; rw [e9]⟩, by rw [ht]; exact hP, va_K.moved hW.alike hK, hD⟩, hS.F ht⟩) hS.2.2 dX5_follow_58
          · refine W.eq (g2 := F0 m 49 ls [.ref (ra (5 * P640027 + n640040))]) rfl ?_
            have hst640040 := hPL640027.at hn640040 en640040
            have ho640040 := oOw_c hn640040 en640040 hst640040.2
            have hLI640040 := hLA (5 * P640027 + n640040) (by omega)
            have hNl640040 := hLI640040.ln (by omega)
            obtain ⟨q1640040, q2640040, q3640040, q4640040, q5640040, q6640040⟩ := id hLI640040
            have hRF640040 := hSK.2.1 (5 * P640027 + n640040) (by omega)
            have hlO640040 := hl640040
            refine lv_astore (lv' := [(5, .ref (ra (5 * P640027 + n640040))), (4, .ref (ra (5 * P640027 + n640030))), (3, .ref (pa P640027)), (0, .ref (v 0)), (1, .int xn), (2, .int xp)]) hx hb dX5_follow_49 hl (by decide) rfl (fun ls hl => ?_)
            refine lv_aload hx hb dX5_follow_51 (lv_at hl 0 rfl) ?_
            refine lv_ifnonnull (tgt := 59) hx hb dX5_follow_53 (by decide) ?_
            have hne9 : ¬ n640030 = n640040 := fun z => c640037 (by rw [sx640036, en640040, en640030, z])
            have hiu9 : ¬ sp_iu (σ.1 0 0) xn = 0 := fun z => c640034 (by rw [hr640033, sx640032]; exact (sp_iu_cnB hB).mp z)
            have hup9 : bt (σ.1 0 0) n640030 := (sp_iu_bt hn640030).mp (by rw [← en640030]; exact hiu9)
            have hl9 : ¬ σ.1 4 P640027 < 0 := by rw [en640040]; exact nI_pos (by omega)
            refine lv_aload hx hb dX5_follow_59 (lv_at hl 1 rfl) ?_
            refine lv_aload hx hb dX5_follow_61 (lv_at hl 0 rfl) ?_
            obtain ⟨j640041, hj640041⟩ := pG_4 (cy := cy) (N := N) (T := T) (I := I) (Q := Q) (J := J) (hE.rL hP640027 hn640030 hl640030).1 (hE.rL hP640027 hn640030 hl640030).2
            have hFc := pfree hD hS hA
            refine va_callv (va_runV (As := [.ref (ra (5 * P640027 + n640040))]) (rest := []) ⟨hx, hb, hml, hown, hts⟩ (g_X4_agreeWith l dC dI cy v L K N T I Q J s.heap.size pa ra (kxo σ) σ P640027 n640030 n640040 hE hP640027 hn640030 hl640030 hNf hn640040 hl640040 hNl640040 (fun z => hne9 z.symm)) (cwV 1 hts gX5_follow_X4_agreeWith rfl rfl rfl (by decide +kernel) ⟨Nat.le_of_ble_eq_true rfl, Nat.le_of_ble_eq_true rfl⟩) ⟨pw_blind, va_recv hK hP (ci := 4) (q0 := j640041) rfl hj640041, fun U hU hW => ⟨rfl, pw_pre hP hK hN hD hU hW⟩⟩ rfl rfl hl.1 rfl (lv_room (Nat.le_of_ble_eq_true rfl)) dX5_follow_63 ⟨Nat.le_of_ble_eq_true rfl, Nat.le_of_ble_eq_true rfl⟩) hS (fun q _ h => hFc q h) hFc (fun d9 t H1 locs ht hvm hw hB hz1 hk1 hS => ?_)
            obtain ⟨I640042, Q640042, J640042⟩ := d9
            obtain ⟨hP, hK1, hD1⟩ := hB
            rw [ht] at hP
            have hD := hD1.weaken (fun _ _ _ h => hFc _ h)
            generalize H1 = H at hP hS ⊢
            have hP : va_P (dC, dI) vwCl (va_pl L (pF cy K N T I640042 Q640042 J640042)) H := hP
            have hD : va_D A (va_pl L (pF cy K N T I640042 Q640042 J640042)) := hD
            have hR : RS v I640042 Q640042 J640042 I640042 Q640042 J640042 := RS.rf
            obtain ⟨sg640044, esg640044⟩ : ∃ z, z = oA2 (oA1 σ (5 * P640027 + n640030) (5 * P640027 + n640040)) (5 * P640027 + n640030) (5 * P640027 + n640040) := ⟨_, rfl⟩
            have hE : REP v pa ra L K N T I640042 Q640042 J640042 (kxo σ) sg640044 := by rw [esg640044]; exact hw
            have hC := hE.ct
            have h1sg640044 : sg640044.1 = σ.1 := by rw [esg640044]; exact oA2_1
            have hl640030 : lvj sg640044 P640027 n640030 := by unfold lvj; rw [h1sg640044]; exact hl640030
            have hl640040 : lvj sg640044 P640027 n640040 := by unfold lvj; rw [h1sg640044]; exact hl640040
            have htP640027 : ¬ sg640044.1 2 P640027 = 0 := by rw [h1sg640044]; exact htP640027
            refine lv_aload hx hb dX5_follow_66 (lv_at hl 1 rfl) ?_
            refine lv_aload hx hb dX5_follow_68 (lv_at hl 1 rfl) ?_
            obtain ⟨j640045, hj640045⟩ := pG_4 (cy := cy) (N := N) (T := T) (I := I640042) (Q := Q640042) (J := J640042) (hE.rL hP640027 hn640030 hl640030).1 (hE.rL hP640027 hn640030 hl640030).2
            refine va_get (D := (dC, dI)) (ci := 4) (v := .int (I640042 (ra (5 * P640027 + n640030)) 2)) (C := RX4) (T := TX4) (N := 7) hx hb hts hi4 hown hK hP j640045 hj640045 rfl 2 (by decide) (hts (.fieldLink RX5 132 "TallyLogs$Replica" "end" "I") (by decide +kernel)) (fun _ h9 => h9) rfl dX5_follow_70 ?_
            refine lv_topi (fun x640046 ex640046 => ?_)
            have sx640046 : x640046 = sg640044.2.1 (5 * P640027 + n640030) 2 := ex640046.trans (hE.g hP640027 hn640030 hl640030 (by decide) (by decide) (by decide))
            have ux640046 := sx640046
            have tx640046 : x640046.toInt = (sg640044.2.1 (5 * P640027 + n640030) 2).toInt := congrArg Int32.toInt sx640046
            obtain ⟨j640047, hj640047⟩ := pG_4 (cy := cy) (N := N) (T := T) (I := I640042) (Q := Q640042) (J := J640042) (hE.rL hP640027 hn640030 hl640030).1 (hE.rL hP640027 hn640030 hl640030).2
            have hDo := hD
            refine va_put (D := (dC, dI)) (ci := 4) (v := .int x640046) (ty := .int) (C := RX4) (T := TX4) (N := 7) hx hb hts hi4 tyX4 tyX4_ok nmX4 hown hK hP hD hS j640047 hj640047 rfl 5 (by decide) (hts (.fieldLink RX5 157 "TallyLogs$Replica" "known" "I") (by decide +kernel)) (fun _ h9 => h9) rfl (by decide +kernel) rfl rfl (Nat.le_of_ble_eq_true rfl) dX5_follow_73 (fun H locs hP hD hS => ?_)
            have hP := Eq.mp (congrArg (fun w => va_P (dC, dI) vwCl w H) (pP_4_5 (x := x640046) hDo (hE.rL hP640027 hn640030 hl640030).1 (hE.rL hP640027 hn640030 hl640030).2 hj640047)) hP
            obtain ⟨I640048, eI640048⟩ : ∃ z, z = p2 I640042 (ra (5 * P640027 + n640030)) 5 x640046 := ⟨_, rfl⟩
            rw [← eI640048] at hP
            have hR : RS v I640048 Q640042 J640042 I640048 Q640042 J640042 := RS.rf
            obtain ⟨sg640049, esg640049⟩ : ∃ z, z = sG sg640044 (5 * P640027 + n640030) 5 x640046 := ⟨_, rfl⟩
            have hE : REP v pa ra L K N T I640048 Q640042 J640042 (kxo σ) sg640049 := by rw [esg640049, eI640048]; exact hE.wr hP640027 hn640030 hl640030 (by decide) (by decide) (fun _ _ z => z)
            have hl640030 : lvj sg640049 P640027 n640030 := by rw [esg640049]; exact hl640030
            have hl640040 : lvj sg640049 P640027 n640040 := by rw [esg640049]; exact hl640040
            have htP640027 : ¬ sg640049.1 2 P640027 = 0 := by rw [esg640049]; exact htP640027
            have hC : CT v L K N T I640048 Q640042 := by rw [eI640048]; exact hC.pi (by rw [(hE.rL hP640027 hn640030 hl640030).2]; decide)
            have hD : va_D A (va_pl L (pF cy K N T I640048 Q640042 J640042)) := pD hDo
            refine lv_aload hx hb dX5_follow_76 (lv_at hl 1 rfl) ?_
            obtain ⟨j640050, hj640050⟩ := pG_4 (cy := cy) (N := N) (T := T) (I := I640048) (Q := Q640042) (J := J640042) (hE.rL hP640027 hn640030 hl640030).1 (hE.rL hP640027 hn640030 hl640030).2
            refine va_get (D := (dC, dI)) (ci := 4) (v := .int (I640048 (ra (5 * P640027 + n640030)) 2)) (C := RX4) (T := TX4) (N := 7) hx hb hts hi4 hown hK hP j640050 hj640050 rfl 2 (by decide) (hts (.fieldLink RX5 132 "TallyLogs$Replica" "end" "I") (by decide +kernel)) (fun _ h9 => h9) rfl dX5_follow_78 ?_
            refine lv_topi (fun x640051 ex640051 => ?_)
            have sx640051 : x640051 = sg640049.2.1 (5 * P640027 + n640030) 2 := ex640051.trans (hE.g hP640027 hn640030 hl640030 (by decide) (by decide) (by decide))
            have ux640051 := sx640051
            have sx640051 : x640051 = sg640044.2.1 (5 * P640027 + n640030) 2 := by rw [sx640051, esg640049, sG_o (by decide)]
            have tx640051 : x640051.toInt = (sg640044.2.1 (5 * P640027 + n640030) 2).toInt := congrArg Int32.toInt sx640051
            refine lv_aload hx hb dX5_follow_81 (lv_at hl 0 rfl) ?_
            obtain ⟨j640052, hj640052⟩ := pG_4 (cy := cy) (N := N) (T := T) (I := I640048) (Q := Q640042) (J := J640042) (hE.rL hP640027 hn640040 hl640040).1 (hE.rL hP640027 hn640040 hl640040).2
            refine va_get (D := (dC, dI)) (ci := 4) (v := .int (I640048 (ra (5 * P640027 + n640040)) 2)) (C := RX4) (T := TX4) (N := 7) hx hb hts hi4 hown hK hP j640052 hj640052 rfl 2 (by decide) (hts (.fieldLink RX5 132 "TallyLogs$Replica" "end" "I") (by decide +kernel)) (fun _ h9 => h9) rfl dX5_follow_83 ?_
            refine lv_topi (fun x640053 ex640053 => ?_)
            have sx640053 : x640053 = sg640049.2.1 (5 * P640027 + n640040) 2 := ex640053.trans (hE.g hP640027 hn640040 hl640040 (by decide) (by decide) (by decide))
            have ux640053 := sx640053
            have sx640053 : x640053 = sg640044.2.1 (5 * P640027 + n640040) 2 := by rw [sx640053, esg640049, sG_o (by decide)]
            have tx640053 : x640053.toInt = (sg640044.2.1 (5 * P640027 + n640040) 2).toInt := congrArg Int32.toInt sx640053
            refine lv_icmp_ne (tgt := 98) hx hb dX5_follow_86 (by decide) (fun c640054 => ?_) (fun c640054 => ?_)
            · have kc640054 : ¬ (x640051.toInt = x640053.toInt) := by have h9 := c640054; rw [xk_eq] at h9; exact h9
              refine lv_aload hx hb dX5_follow_98 (lv_at hl 1 rfl) ?_
              obtain ⟨j640055, hj640055⟩ := pG_4 (cy := cy) (N := N) (T := T) (I := I640048) (Q := Q640042) (J := J640042) (hE.rL hP640027 hn640030 hl640030).1 (hE.rL hP640027 hn640030 hl640030).2
              refine va_get (D := (dC, dI)) (ci := 4) (v := .int (I640048 (ra (5 * P640027 + n640030)) 2)) (C := RX4) (T := TX4) (N := 7) hx hb hts hi4 hown hK hP j640055 hj640055 rfl 2 (by decide) (hts (.fieldLink RX5 132 "TallyLogs$Replica" "end" "I") (by decide +kernel)) (fun _ h9 => h9) rfl dX5_follow_100 ?_
              refine lv_topi (fun x640056 ex640056 => ?_)
              have sx640056 : x640056 = sg640049.2.1 (5 * P640027 + n640030) 2 := ex640056.trans (hE.g hP640027 hn640030 hl640030 (by decide) (by decide) (by decide))
              have ux640056 := sx640056
              have sx640056 : x640056 = sg640044.2.1 (5 * P640027 + n640030) 2 := by rw [sx640056, esg640049, sG_o (by decide)]
              have tx640056 : x640056.toInt = (sg640044.2.1 (5 * P640027 + n640030) 2).toInt := congrArg Int32.toInt sx640056
              refine lv_aload hx hb dX5_follow_103 (lv_at hl 0 rfl) ?_
              obtain ⟨j640057, hj640057⟩ := pG_4 (cy := cy) (N := N) (T := T) (I := I640048) (Q := Q640042) (J := J640042) (hE.rL hP640027 hn640040 hl640040).1 (hE.rL hP640027 hn640040 hl640040).2
              refine va_get (D := (dC, dI)) (ci := 4) (v := .int (I640048 (ra (5 * P640027 + n640040)) 3)) (C := RX4) (T := TX4) (N := 7) hx hb hts hi4 hown hK hP j640057 hj640057 rfl 3 (by decide) (hts (.fieldLink RX5 146 "TallyLogs$Replica" "hw" "I") (by decide +kernel)) (fun _ h9 => h9) rfl dX5_follow_105 ?_
              refine lv_topi (fun x640058 ex640058 => ?_)
              have sx640058 : x640058 = sg640049.2.1 (5 * P640027 + n640040) 3 := ex640058.trans (hE.g hP640027 hn640040 hl640040 (by decide) (by decide) (by decide))
              have ux640058 := sx640058
              have sx640058 : x640058 = sg640044.2.1 (5 * P640027 + n640040) 3 := by rw [sx640058, esg640049, sG_o (by decide)]
              have tx640058 : x640058.toInt = (sg640044.2.1 (5 * P640027 + n640040) 3).toInt := congrArg Int32.toInt sx640058
              refine lv_icmp_lt (tgt := 123) hx hb dX5_follow_108 (by decide) (fun c640059 => ?_) (fun c640059 => ?_)
              · have kc640059 : x640056.toInt < x640058.toInt := by have h9 := c640059; rw [xk_lt] at h9; exact h9
                have hB9 : sG (oA2 (oA1 σ (5 * P640027 + n640030) (5 * P640027 + n640040)) (5 * P640027 + n640030) (5 * P640027 + n640040)) (5 * P640027 + n640030) 5 ((oA2 (oA1 σ (5 * P640027 + n640030) (5 * P640027 + n640040)) (5 * P640027 + n640030) (5 * P640027 + n640040)).2.1 (5 * P640027 + n640030) 2) = sg640049 := by rw [← esg640044, esg640049, sx640046]
                have hF2 : oF2 sg640049 (5 * P640027 + n640030) (5 * P640027 + n640040) = sg640049 := by rw [oF2, if_neg (fun z => c640054 (by rw [ux640051, ux640053]; exact z))]
                have hF3 : oF3 sg640049 (5 * P640027 + n640030) (5 * P640027 + n640040) P640027 (nI n640030) = sg640049 := by rw [oF3, if_pos (by rw [← ux640056, ← ux640058]; exact c640059)]
                have hv9 : oF9 σ P640027 n640030 n640040 = sg640049 := by unfold oF9; rw [hB9, hF2, hF3]
                have hRH9 : RHp (kxo σ) sg640049 P640027 := by rw [← hv9]; exact f9_rh hSK hP640027 hn640030 hn640040 hne9 htO640027 hLA (by omega) hlF.2 hup9 hl9
                refine lv_aload_n hx hb dX5_follow_123 rfl (lv_at hl 2 rfl) ?_
                obtain ⟨j640060, hj640060⟩ := pG_2 (cy := cy) (N := N) (T := T) (I := I640048) (Q := Q640042) (J := J640042) (hE.pL hP640027 htP640027).1 (hE.pL hP640027 htP640027).2
                have hFc := pfree hD hS hA
                refine va_callv (va_runV (As := []) (rest := []) ⟨hx, hb, hml, hown, hts⟩ (g_X2_raiseHw l dC dI cy v L K N T I640048 Q640042 J640042 H.size pa ra (kxo σ) sg640049 P640027 hE hP640027 htP640027 hRH9.1 hRH9.2.1 hRH9.2.2.1 hRH9.2.2.2) (cwV 0 hts gX5_follow_X2_raiseHw rfl rfl rfl (by decide +kernel) ⟨Nat.le_of_ble_eq_true rfl, Nat.le_of_ble_eq_true rfl⟩) ⟨pw_blind, va_recv hK hP (ci := 2) (q0 := j640060) rfl hj640060, fun U hU hW => ⟨rfl, pw_pre hP hK hN hD hU hW⟩⟩ rfl rfl hl.1 rfl (lv_room (Nat.le_of_ble_eq_true rfl)) dX5_follow_124 ⟨Nat.le_of_ble_eq_true rfl, Nat.le_of_ble_eq_true rfl⟩) hS (fun q _ h => hFc q h) hFc (fun d9 t H1 locs ht hvm hw hB hz1 hk1 hS => ?_)
                obtain ⟨I640061, Q640061, J640061⟩ := d9
                obtain ⟨hP, hK1, hD1⟩ := hB
                rw [ht] at hP
                have hD := hD1.weaken (fun _ _ _ h => hFc _ h)
                generalize H1 = H at hP hS ⊢
                have hP : va_P (dC, dI) vwCl (va_pl L (pF cy K N T I640061 Q640061 J640061)) H := hP
                have hD : va_D A (va_pl L (pF cy K N T I640061 Q640061 J640061)) := hD
                have hR : RS v I640061 Q640061 J640061 I640061 Q640061 J640061 := RS.rf
                obtain ⟨sg640063, esg640063⟩ : ∃ z, z = oRi sg640049 P640027 := ⟨_, rfl⟩
                have hE : REP v pa ra L K N T I640061 Q640061 J640061 (kxo σ) sg640063 := by rw [esg640063]; exact hw
                have hC := hE.ct
                have h1sg640063 : sg640063.1 = sg640049.1 := by rw [esg640063]; exact oRi_1 _ _
                have hl640030 : lvj sg640063 P640027 n640030 := by unfold lvj; rw [h1sg640063]; exact hl640030
                have hl640040 : lvj sg640063 P640027 n640040 := by unfold lvj; rw [h1sg640063]; exact hl640040
                have htP640027 : ¬ sg640063.1 2 P640027 = 0 := by rw [h1sg640063]; exact htP640027
                obtain ⟨w1, w2, w3, w4⟩ := f9_num (σ := σ) (p := P640027) (n := n640030) (m := n640040) hP640027 hn640030 hn640040 hne9 hLA (by omega)
                rw [hv9, ← esg640063] at w1 w2 w3 w4
                refine lv_aload hx hb dX5_follow_127 (lv_at hl 1 rfl) ?_
                refine lv_aload hx hb dX5_follow_129 (lv_at hl 0 rfl) ?_
                obtain ⟨j640064, hj640064⟩ := pG_4 (cy := cy) (N := N) (T := T) (I := I640061) (Q := Q640061) (J := J640061) (hE.rL hP640027 hn640030 hl640030).1 (hE.rL hP640027 hn640030 hl640030).2
                have hFc := pfree hD hS hA
                refine va_calli (va_runV (As := [.ref (ra (5 * P640027 + n640040))]) (rest := []) ⟨hx, hb, hml, hown, hts⟩ (g_X4_fetchFrom l dC dI cy v L K N T I640061 Q640061 J640061 H.size pa ra (kxo σ) sg640063 P640027 n640030 n640040 hE hP640027 hn640030 hl640030 w1 hn640040 hl640040 w2 (fun z => hne9 z.symm) w3) (cwV 1 hts gX5_follow_X4_fetchFrom rfl rfl rfl (by decide +kernel) ⟨Nat.le_of_ble_eq_true rfl, Nat.le_of_ble_eq_true rfl⟩) ⟨pw_blind, va_recv hK hP (ci := 4) (q0 := j640064) rfl hj640064, fun U hU hW => ⟨rfl, pw_pre hP hK hN hD hU hW⟩⟩ rfl rfl hl.1 rfl (lv_room (Nat.le_of_ble_eq_true rfl)) dX5_follow_131 ⟨Nat.le_of_ble_eq_true rfl, Nat.le_of_ble_eq_true rfl⟩) hS (fun q _ h => hFc q h) hFc (fun r640066 d9 t H1 locs ht hvm hw hB hz1 hk1 hS => ?_)
                obtain ⟨I640065, Q640065, J640065⟩ := d9
                have hr640066 := hw.2
                have hw := hw.1
                obtain ⟨hP, hK1, hD1⟩ := hB
                rw [ht] at hP
                have hD := hD1.weaken (fun _ _ _ h => hFc _ h)
                generalize H1 = H at hP hS ⊢
                have hP : va_P (dC, dI) vwCl (va_pl L (pF cy K N T I640065 Q640065 J640065)) H := hP
                have hD : va_D A (va_pl L (pF cy K N T I640065 Q640065 J640065)) := hD
                have hR : RS v I640065 Q640065 J640065 I640065 Q640065 J640065 := RS.rf
                obtain ⟨sg640067, esg640067⟩ : ∃ z, z = (oFf sg640063 (5 * P640027 + n640030) (5 * P640027 + n640040)).1 := ⟨_, rfl⟩
                have hE : REP v pa ra L K N T I640065 Q640065 J640065 (kxo σ) sg640067 := by rw [esg640067]; exact hw
                have hC := hE.ct
                have e9 : qFo σ xn xp = (sg640067, r640066) := by unfold qFo; rw [if_neg hir640030, if_neg (fun z => c640034 (by rw [hr640033, sx640032]; exact (sp_iu_cnB hB).mp z)), cP640027, cn640030, if_neg (fun z => c640037 (by rw [sx640036]; exact z.symm)), ho640040]; show (oF5 (oTn (oFa σ (5 * P640027 + n640030) (5 * P640027 + n640040) P640027 xn) (5 * P640027 + n640030) (5 * P640027 + n640040) 5).1 (5 * P640027 + n640030) (5 * P640027 + n640040), (oTn (oFa σ (5 * P640027 + n640030) (5 * P640027 + n640040) P640027 xn) (5 * P640027 + n640030) (5 * P640027 + n640040) 5).2) = _; rw [en640030, oFa_eq hP640027 hn640030 hn640040 hne9 hLA (by omega), hv9, ← esg640063, ← oFf_eq (by omega) w1 w2 w3 w4, esg640067, hr640066]
                have hk9 : kxo sg640067 = (kxo σ) := by rw [esg640067]; exact kxo_c (by rw [oFf_0 (by omega) w1 w2, esg640063, oRi_1, ← hv9, (oF9_n hP640027 hn640030 hn640040 hne9 hLA (by omega)).1 0 0 (by omega)]) (fun q => by rw [oFf_0 (by omega) w1 w2, esg640063, oRi_1, ← hv9, (oF9_n hP640027 hn640030 hn640040 hne9 hLA (by omega)).1 4 q (by omega)])
                exact W.iret (v := r640066) hx hb hr (fun t ht hW => ⟨⟨r640066, (I640065, Q640065, J640065), rfl, ⟨by show REP v pa ra L K N T I640065 Q640065 J640065 (kxo (qFo σ xn xp).1) (qFo σ xn xp).1; rw [e9]; show REP v pa ra L K N T I640065 Q640065 J640065 (kxo sg640067) sg640067; rw [hk9]; exact hE, by show _ = _; rw [e9]⟩, by rw [ht]; exact hP, va_K.moved hW.alike hK, hD⟩, hS.F ht⟩) hS.2.2 dX5_follow_134
              · have kc640059 : ¬ (x640056.toInt < x640058.toInt) := by have h9 := c640059; rw [xk_lt] at h9; exact h9
                refine lv_aload_n hx hb dX5_follow_111 rfl (lv_at hl 2 rfl) ?_
                refine lv_dup hx hb dX5_follow_112 rfl ?_
                obtain ⟨j640068, hj640068⟩ := pG_2 (cy := cy) (N := N) (T := T) (I := I640048) (Q := Q640042) (J := J640042) (hE.pL hP640027 htP640027).1 (hE.pL hP640027 htP640027).2
                refine va_get (D := (dC, dI)) (ci := 2) (v := .int (I640048 (pa P640027) 5)) (C := RX2) (T := TX2) (N := 6) hx hb hts hi2 hown hK hP j640068 hj640068 rfl 5 (by decide) (hts (.fieldLink RX5 58 "TallyLogs$Partition" "inStep" "I") (by decide +kernel)) (fun _ h9 => h9) rfl dX5_follow_113 ?_
                refine lv_topi (fun x640069 ex640069 => ?_)
                have sx640069 : x640069 = sg640049.1 7 P640027 := ex640069.trans ((hE.pt P640027 hP640027).2 htP640027).2.1.2.2.2.2
                refine lv_iconst (v := 1) hx hb dX5_follow_116 (by decide) ?_
                refine lv_iload_n hx hb dX5_follow_117 rfl (lv_at hl 4 rfl) ?_
                refine lv_ishl hx hb dX5_follow_118 ?_
                refine lv_topi (fun v640070 ev640070 => ?_)
                refine lv_ior hx hb dX5_follow_119 ?_
                refine lv_topi (fun v640071 ev640071 => ?_)
                obtain ⟨j640072, hj640072⟩ := pG_2 (cy := cy) (N := N) (T := T) (I := I640048) (Q := Q640042) (J := J640042) (hE.pL hP640027 htP640027).1 (hE.pL hP640027 htP640027).2
                have hDo := hD
                refine va_put (D := (dC, dI)) (ci := 2) (v := .int v640071) (ty := .int) (C := RX2) (T := TX2) (N := 6) hx hb hts hi2 tyX2 tyX2_ok nmX2 hown hK hP hD hS j640072 hj640072 rfl 5 (by decide) (hts (.fieldLink RX5 58 "TallyLogs$Partition" "inStep" "I") (by decide +kernel)) (fun _ h9 => h9) rfl (by decide +kernel) rfl rfl (Nat.le_of_ble_eq_true rfl) dX5_follow_120 (fun H locs hP hD hS => ?_)
                have hP := Eq.mp (congrArg (fun w => va_P (dC, dI) vwCl w H) (pP_2_5 (x := v640071) hDo (hE.pL hP640027 htP640027).1 (hE.pL hP640027 htP640027).2 hj640072)) hP
                obtain ⟨I640073, eI640073⟩ : ∃ z, z = p2 I640048 (pa P640027) 5 v640071 := ⟨_, rfl⟩
                rw [← eI640073] at hP
                have hR : RS v I640073 Q640042 J640042 I640073 Q640042 J640042 := RS.rf
                obtain ⟨sg640074, esg640074⟩ : ∃ z, z = sA sg640049 7 P640027 v640071 := ⟨_, rfl⟩
                have hE : REP v pa ra L K N T I640073 Q640042 J640042 (kxo σ) sg640074 := by rw [esg640074, eI640073]; exact hE.wp hP640027 htP640027 (by decide)
                have hl640030 : lvj sg640074 P640027 n640030 := by rw [esg640074]; exact lvj_sA hl640030 (by decide) (by decide)
                have hl640040 : lvj sg640074 P640027 n640040 := by rw [esg640074]; exact lvj_sA hl640040 (by decide) (by decide)
                have htP640027 : ¬ sg640074.1 2 P640027 = 0 := by rw [esg640074, sA_n (by decide)]; exact htP640027
                have hC : CT v L K N T I640073 Q640042 := by rw [eI640073]; exact hC.pi (by rw [(hE.pL hP640027 htP640027).2]; decide)
                have hD : va_D A (va_pl L (pF cy K N T I640073 Q640042 J640042)) := pD hDo
                have hB9 : sG (oA2 (oA1 σ (5 * P640027 + n640030) (5 * P640027 + n640040)) (5 * P640027 + n640030) (5 * P640027 + n640040)) (5 * P640027 + n640030) 5 ((oA2 (oA1 σ (5 * P640027 + n640030) (5 * P640027 + n640040)) (5 * P640027 + n640030) (5 * P640027 + n640040)).2.1 (5 * P640027 + n640030) 2) = sg640049 := by rw [← esg640044, esg640049, sx640046]
                have hF2 : oF2 sg640049 (5 * P640027 + n640030) (5 * P640027 + n640040) = sg640049 := by rw [oF2, if_neg (fun z => c640054 (by rw [ux640051, ux640053]; exact z))]
                have hF3 : oF3 sg640049 (5 * P640027 + n640030) (5 * P640027 + n640040) P640027 (nI n640030) = sg640074 := by rw [oF3, if_neg (fun z => c640059 (by rw [ux640056, ux640058]; exact z)), esg640074, ev640071, sx640069, ev640070, en640030]
                have hv9 : oF9 σ P640027 n640030 n640040 = sg640074 := by unfold oF9; rw [hB9, hF2, hF3]
                have hRH9 : RHp (kxo σ) sg640074 P640027 := by rw [← hv9]; exact f9_rh hSK hP640027 hn640030 hn640040 hne9 htO640027 hLA (by omega) hlF.2 hup9 hl9
                refine lv_aload_n hx hb dX5_follow_123 rfl (lv_at hl 2 rfl) ?_
                obtain ⟨j640075, hj640075⟩ := pG_2 (cy := cy) (N := N) (T := T) (I := I640073) (Q := Q640042) (J := J640042) (hE.pL hP640027 htP640027).1 (hE.pL hP640027 htP640027).2
                have hFc := pfree hD hS hA
                refine va_callv (va_runV (As := []) (rest := []) ⟨hx, hb, hml, hown, hts⟩ (g_X2_raiseHw l dC dI cy v L K N T I640073 Q640042 J640042 H.size pa ra (kxo σ) sg640074 P640027 hE hP640027 htP640027 hRH9.1 hRH9.2.1 hRH9.2.2.1 hRH9.2.2.2) (cwV 0 hts gX5_follow_X2_raiseHw rfl rfl rfl (by decide +kernel) ⟨Nat.le_of_ble_eq_true rfl, Nat.le_of_ble_eq_true rfl⟩) ⟨pw_blind, va_recv hK hP (ci := 2) (q0 := j640075) rfl hj640075, fun U hU hW => ⟨rfl, pw_pre hP hK hN hD hU hW⟩⟩ rfl rfl hl.1 rfl (lv_room (Nat.le_of_ble_eq_true rfl)) dX5_follow_124 ⟨Nat.le_of_ble_eq_true rfl, Nat.le_of_ble_eq_true rfl⟩) hS (fun q _ h => hFc q h) hFc (fun d9 t H1 locs ht hvm hw hB hz1 hk1 hS => ?_)
                obtain ⟨I640076, Q640076, J640076⟩ := d9
                obtain ⟨hP, hK1, hD1⟩ := hB
                rw [ht] at hP
                have hD := hD1.weaken (fun _ _ _ h => hFc _ h)
                generalize H1 = H at hP hS ⊢
                have hP : va_P (dC, dI) vwCl (va_pl L (pF cy K N T I640076 Q640076 J640076)) H := hP
                have hD : va_D A (va_pl L (pF cy K N T I640076 Q640076 J640076)) := hD
                have hR : RS v I640076 Q640076 J640076 I640076 Q640076 J640076 := RS.rf
                obtain ⟨sg640078, esg640078⟩ : ∃ z, z = oRi sg640074 P640027 := ⟨_, rfl⟩
                have hE : REP v pa ra L K N T I640076 Q640076 J640076 (kxo σ) sg640078 := by rw [esg640078]; exact hw
                have hC := hE.ct
                have h1sg640078 : sg640078.1 = sg640074.1 := by rw [esg640078]; exact oRi_1 _ _
                have hl640030 : lvj sg640078 P640027 n640030 := by unfold lvj; rw [h1sg640078]; exact hl640030
                have hl640040 : lvj sg640078 P640027 n640040 := by unfold lvj; rw [h1sg640078]; exact hl640040
                have htP640027 : ¬ sg640078.1 2 P640027 = 0 := by rw [h1sg640078]; exact htP640027
                obtain ⟨w1, w2, w3, w4⟩ := f9_num (σ := σ) (p := P640027) (n := n640030) (m := n640040) hP640027 hn640030 hn640040 hne9 hLA (by omega)
                rw [hv9, ← esg640078] at w1 w2 w3 w4
                refine lv_aload hx hb dX5_follow_127 (lv_at hl 1 rfl) ?_
                refine lv_aload hx hb dX5_follow_129 (lv_at hl 0 rfl) ?_
                obtain ⟨j640079, hj640079⟩ := pG_4 (cy := cy) (N := N) (T := T) (I := I640076) (Q := Q640076) (J := J640076) (hE.rL hP640027 hn640030 hl640030).1 (hE.rL hP640027 hn640030 hl640030).2
                have hFc := pfree hD hS hA
                refine va_calli (va_runV (As := [.ref (ra (5 * P640027 + n640040))]) (rest := []) ⟨hx, hb, hml, hown, hts⟩ (g_X4_fetchFrom l dC dI cy v L K N T I640076 Q640076 J640076 H.size pa ra (kxo σ) sg640078 P640027 n640030 n640040 hE hP640027 hn640030 hl640030 w1 hn640040 hl640040 w2 (fun z => hne9 z.symm) w3) (cwV 1 hts gX5_follow_X4_fetchFrom rfl rfl rfl (by decide +kernel) ⟨Nat.le_of_ble_eq_true rfl, Nat.le_of_ble_eq_true rfl⟩) ⟨pw_blind, va_recv hK hP (ci := 4) (q0 := j640079) rfl hj640079, fun U hU hW => ⟨rfl, pw_pre hP hK hN hD hU hW⟩⟩ rfl rfl hl.1 rfl (lv_room (Nat.le_of_ble_eq_true rfl)) dX5_follow_131 ⟨Nat.le_of_ble_eq_true rfl, Nat.le_of_ble_eq_true rfl⟩) hS (fun q _ h => hFc q h) hFc (fun r640081 d9 t H1 locs ht hvm hw hB hz1 hk1 hS => ?_)
                obtain ⟨I640080, Q640080, J640080⟩ := d9
                have hr640081 := hw.2
                have hw := hw.1
                obtain ⟨hP, hK1, hD1⟩ := hB
                rw [ht] at hP
                have hD := hD1.weaken (fun _ _ _ h => hFc _ h)
                generalize H1 = H at hP hS ⊢
                have hP : va_P (dC, dI) vwCl (va_pl L (pF cy K N T I640080 Q640080 J640080)) H := hP
                have hD : va_D A (va_pl L (pF cy K N T I640080 Q640080 J640080)) := hD
                have hR : RS v I640080 Q640080 J640080 I640080 Q640080 J640080 := RS.rf
                obtain ⟨sg640082, esg640082⟩ : ∃ z, z = (oFf sg640078 (5 * P640027 + n640030) (5 * P640027 + n640040)).1 := ⟨_, rfl⟩
                have hE : REP v pa ra L K N T I640080 Q640080 J640080 (kxo σ) sg640082 := by rw [esg640082]; exact hw
                have hC := hE.ct
                have e9 : qFo σ xn xp = (sg640082, r640081) := by unfold qFo; rw [if_neg hir640030, if_neg (fun z => c640034 (by rw [hr640033, sx640032]; exact (sp_iu_cnB hB).mp z)), cP640027, cn640030, if_neg (fun z => c640037 (by rw [sx640036]; exact z.symm)), ho640040]; show (oF5 (oTn (oFa σ (5 * P640027 + n640030) (5 * P640027 + n640040) P640027 xn) (5 * P640027 + n640030) (5 * P640027 + n640040) 5).1 (5 * P640027 + n640030) (5 * P640027 + n640040), (oTn (oFa σ (5 * P640027 + n640030) (5 * P640027 + n640040) P640027 xn) (5 * P640027 + n640030) (5 * P640027 + n640040) 5).2) = _; rw [en640030, oFa_eq hP640027 hn640030 hn640040 hne9 hLA (by omega), hv9, ← esg640078, ← oFf_eq (by omega) w1 w2 w3 w4, esg640082, hr640081]
                have hk9 : kxo sg640082 = (kxo σ) := by rw [esg640082]; exact kxo_c (by rw [oFf_0 (by omega) w1 w2, esg640078, oRi_1, ← hv9, (oF9_n hP640027 hn640030 hn640040 hne9 hLA (by omega)).1 0 0 (by omega)]) (fun q => by rw [oFf_0 (by omega) w1 w2, esg640078, oRi_1, ← hv9, (oF9_n hP640027 hn640030 hn640040 hne9 hLA (by omega)).1 4 q (by omega)])
                exact W.iret (v := r640081) hx hb hr (fun t ht hW => ⟨⟨r640081, (I640080, Q640080, J640080), rfl, ⟨by show REP v pa ra L K N T I640080 Q640080 J640080 (kxo (qFo σ xn xp).1) (qFo σ xn xp).1; rw [e9]; show REP v pa ra L K N T I640080 Q640080 J640080 (kxo sg640082) sg640082; rw [hk9]; exact hE, by show _ = _; rw [e9]⟩, by rw [ht]; exact hP, va_K.moved hW.alike hK, hD⟩, hS.F ht⟩) hS.2.2 dX5_follow_134
            · have kc640054 : x640051.toInt = x640053.toInt := by have h9 := c640054; rw [xk_eq] at h9; exact h9
              refine lv_aload hx hb dX5_follow_89 (lv_at hl 1 rfl) ?_
              refine lv_aload_n hx hb dX5_follow_91 rfl (lv_at hl 3 rfl) ?_
              obtain ⟨j640083, hj640083⟩ := pG_5 (cy := cy) (N := N) (T := T) (I := I640048) (Q := Q640042) (J := J640042) (hC.at 0 (by decide)) (hC.k 0 (by decide) rfl)
              refine va_get (D := (dC, dI)) (ci := 5) (v := .int (I640048 (v 0) 4)) (C := RX5) (T := TX5) (N := 6) hx hb hts hi5 hown hK hP j640083 hj640083 rfl 4 (by decide) (hts (.fieldLink RX5 31 "TallyLogs" "now" "I") (by decide +kernel)) (fun _ h9 => h9) rfl dX5_follow_92 ?_
              refine lv_topi (fun x640084 ex640084 => ?_)
              have sx640084 : x640084 = sg640049.1 0 1 := ex640084.trans hE.nw
              obtain ⟨j640085, hj640085⟩ := pG_4 (cy := cy) (N := N) (T := T) (I := I640048) (Q := Q640042) (J := J640042) (hE.rL hP640027 hn640030 hl640030).1 (hE.rL hP640027 hn640030 hl640030).2
              have hDo := hD
              refine va_put (D := (dC, dI)) (ci := 4) (v := .int x640084) (ty := .int) (C := RX4) (T := TX4) (N := 7) hx hb hts hi4 tyX4 tyX4_ok nmX4 hown hK hP hD hS j640085 hj640085 rfl 6 (by decide) (hts (.fieldLink RX5 160 "TallyLogs$Replica" "caught" "I") (by decide +kernel)) (fun _ h9 => h9) rfl (by decide +kernel) rfl rfl (Nat.le_of_ble_eq_true rfl) dX5_follow_95 (fun H locs hP hD hS => ?_)
              have hP := Eq.mp (congrArg (fun w => va_P (dC, dI) vwCl w H) (pP_4_6 (x := x640084) hDo (hE.rL hP640027 hn640030 hl640030).1 (hE.rL hP640027 hn640030 hl640030).2 hj640085)) hP
              obtain ⟨I640086, eI640086⟩ : ∃ z, z = p2 I640048 (ra (5 * P640027 + n640030)) 6 x640084 := ⟨_, rfl⟩
              rw [← eI640086] at hP
              have hR : RS v I640086 Q640042 J640042 I640086 Q640042 J640042 := RS.rf
              obtain ⟨sg640087, esg640087⟩ : ∃ z, z = sG sg640049 (5 * P640027 + n640030) 6 x640084 := ⟨_, rfl⟩
              have hE : REP v pa ra L K N T I640086 Q640042 J640042 (kxo σ) sg640087 := by rw [esg640087, eI640086]; exact hE.wr hP640027 hn640030 hl640030 (by decide) (by decide) (fun _ _ z => z)
              have hl640030 : lvj sg640087 P640027 n640030 := by rw [esg640087]; exact hl640030
              have hl640040 : lvj sg640087 P640027 n640040 := by rw [esg640087]; exact hl640040
              have htP640027 : ¬ sg640087.1 2 P640027 = 0 := by rw [esg640087]; exact htP640027
              have hC : CT v L K N T I640086 Q640042 := by rw [eI640086]; exact hC.pi (by rw [(hE.rL hP640027 hn640030 hl640030).2]; decide)
              have hD : va_D A (va_pl L (pF cy K N T I640086 Q640042 J640042)) := pD hDo
              refine lv_aload hx hb dX5_follow_98 (lv_at hl 1 rfl) ?_
              obtain ⟨j640088, hj640088⟩ := pG_4 (cy := cy) (N := N) (T := T) (I := I640086) (Q := Q640042) (J := J640042) (hE.rL hP640027 hn640030 hl640030).1 (hE.rL hP640027 hn640030 hl640030).2
              refine va_get (D := (dC, dI)) (ci := 4) (v := .int (I640086 (ra (5 * P640027 + n640030)) 2)) (C := RX4) (T := TX4) (N := 7) hx hb hts hi4 hown hK hP j640088 hj640088 rfl 2 (by decide) (hts (.fieldLink RX5 132 "TallyLogs$Replica" "end" "I") (by decide +kernel)) (fun _ h9 => h9) rfl dX5_follow_100 ?_
              refine lv_topi (fun x640089 ex640089 => ?_)
              have sx640089 : x640089 = sg640087.2.1 (5 * P640027 + n640030) 2 := ex640089.trans (hE.g hP640027 hn640030 hl640030 (by decide) (by decide) (by decide))
              have ux640089 := sx640089
              have sx640089 : x640089 = sg640044.2.1 (5 * P640027 + n640030) 2 := by rw [sx640089, esg640087, sG_o (by decide), esg640049, sG_o (by decide)]
              have tx640089 : x640089.toInt = (sg640044.2.1 (5 * P640027 + n640030) 2).toInt := congrArg Int32.toInt sx640089
              refine lv_aload hx hb dX5_follow_103 (lv_at hl 0 rfl) ?_
              obtain ⟨j640090, hj640090⟩ := pG_4 (cy := cy) (N := N) (T := T) (I := I640086) (Q := Q640042) (J := J640042) (hE.rL hP640027 hn640040 hl640040).1 (hE.rL hP640027 hn640040 hl640040).2
              refine va_get (D := (dC, dI)) (ci := 4) (v := .int (I640086 (ra (5 * P640027 + n640040)) 3)) (C := RX4) (T := TX4) (N := 7) hx hb hts hi4 hown hK hP j640090 hj640090 rfl 3 (by decide) (hts (.fieldLink RX5 146 "TallyLogs$Replica" "hw" "I") (by decide +kernel)) (fun _ h9 => h9) rfl dX5_follow_105 ?_
              refine lv_topi (fun x640091 ex640091 => ?_)
              have sx640091 : x640091 = sg640087.2.1 (5 * P640027 + n640040) 3 := ex640091.trans (hE.g hP640027 hn640040 hl640040 (by decide) (by decide) (by decide))
              have ux640091 := sx640091
              have sx640091 : x640091 = sg640044.2.1 (5 * P640027 + n640040) 3 := by rw [sx640091, esg640087, sG_o (by decide), esg640049, sG_o (by decide)]
              have tx640091 : x640091.toInt = (sg640044.2.1 (5 * P640027 + n640040) 3).toInt := congrArg Int32.toInt sx640091
              refine lv_icmp_lt (tgt := 123) hx hb dX5_follow_108 (by decide) (fun c640092 => ?_) (fun c640092 => ?_)
              · have kc640092 : x640089.toInt < x640091.toInt := by have h9 := c640092; rw [xk_lt] at h9; exact h9
                have hB9 : sG (oA2 (oA1 σ (5 * P640027 + n640030) (5 * P640027 + n640040)) (5 * P640027 + n640030) (5 * P640027 + n640040)) (5 * P640027 + n640030) 5 ((oA2 (oA1 σ (5 * P640027 + n640030) (5 * P640027 + n640040)) (5 * P640027 + n640030) (5 * P640027 + n640040)).2.1 (5 * P640027 + n640030) 2) = sg640049 := by rw [← esg640044, esg640049, sx640046]
                have hF2 : oF2 sg640049 (5 * P640027 + n640030) (5 * P640027 + n640040) = sg640087 := by rw [oF2, if_pos (by rw [← ux640051, ← ux640053]; exact c640054), esg640087, sx640084]
                have hF3 : oF3 sg640087 (5 * P640027 + n640030) (5 * P640027 + n640040) P640027 (nI n640030) = sg640087 := by rw [oF3, if_pos (by rw [← ux640089, ← ux640091]; exact c640092)]
                have hv9 : oF9 σ P640027 n640030 n640040 = sg640087 := by unfold oF9; rw [hB9, hF2, hF3]
                have hRH9 : RHp (kxo σ) sg640087 P640027 := by rw [← hv9]; exact f9_rh hSK hP640027 hn640030 hn640040 hne9 htO640027 hLA (by omega) hlF.2 hup9 hl9
                refine lv_aload_n hx hb dX5_follow_123 rfl (lv_at hl 2 rfl) ?_
                obtain ⟨j640093, hj640093⟩ := pG_2 (cy := cy) (N := N) (T := T) (I := I640086) (Q := Q640042) (J := J640042) (hE.pL hP640027 htP640027).1 (hE.pL hP640027 htP640027).2
                have hFc := pfree hD hS hA
                refine va_callv (va_runV (As := []) (rest := []) ⟨hx, hb, hml, hown, hts⟩ (g_X2_raiseHw l dC dI cy v L K N T I640086 Q640042 J640042 H.size pa ra (kxo σ) sg640087 P640027 hE hP640027 htP640027 hRH9.1 hRH9.2.1 hRH9.2.2.1 hRH9.2.2.2) (cwV 0 hts gX5_follow_X2_raiseHw rfl rfl rfl (by decide +kernel) ⟨Nat.le_of_ble_eq_true rfl, Nat.le_of_ble_eq_true rfl⟩) ⟨pw_blind, va_recv hK hP (ci := 2) (q0 := j640093) rfl hj640093, fun U hU hW => ⟨rfl, pw_pre hP hK hN hD hU hW⟩⟩ rfl rfl hl.1 rfl (lv_room (Nat.le_of_ble_eq_true rfl)) dX5_follow_124 ⟨Nat.le_of_ble_eq_true rfl, Nat.le_of_ble_eq_true rfl⟩) hS (fun q _ h => hFc q h) hFc (fun d9 t H1 locs ht hvm hw hB hz1 hk1 hS => ?_)
                obtain ⟨I640094, Q640094, J640094⟩ := d9
                obtain ⟨hP, hK1, hD1⟩ := hB
                rw [ht] at hP
                have hD := hD1.weaken (fun _ _ _ h => hFc _ h)
                generalize H1 = H at hP hS ⊢
                have hP : va_P (dC, dI) vwCl (va_pl L (pF cy K N T I640094 Q640094 J640094)) H := hP
                have hD : va_D A (va_pl L (pF cy K N T I640094 Q640094 J640094)) := hD
                have hR : RS v I640094 Q640094 J640094 I640094 Q640094 J640094 := RS.rf
                obtain ⟨sg640096, esg640096⟩ : ∃ z, z = oRi sg640087 P640027 := ⟨_, rfl⟩
                have hE : REP v pa ra L K N T I640094 Q640094 J640094 (kxo σ) sg640096 := by rw [esg640096]; exact hw
                have hC := hE.ct
                have h1sg640096 : sg640096.1 = sg640087.1 := by rw [esg640096]; exact oRi_1 _ _
                have hl640030 : lvj sg640096 P640027 n640030 := by unfold lvj; rw [h1sg640096]; exact hl640030
                have hl640040 : lvj sg640096 P640027 n640040 := by unfold lvj; rw [h1sg640096]; exact hl640040
                have htP640027 : ¬ sg640096.1 2 P640027 = 0 := by rw [h1sg640096]; exact htP640027
                obtain ⟨w1, w2, w3, w4⟩ := f9_num (σ := σ) (p := P640027) (n := n640030) (m := n640040) hP640027 hn640030 hn640040 hne9 hLA (by omega)
                rw [hv9, ← esg640096] at w1 w2 w3 w4
                refine lv_aload hx hb dX5_follow_127 (lv_at hl 1 rfl) ?_
                refine lv_aload hx hb dX5_follow_129 (lv_at hl 0 rfl) ?_
                obtain ⟨j640097, hj640097⟩ := pG_4 (cy := cy) (N := N) (T := T) (I := I640094) (Q := Q640094) (J := J640094) (hE.rL hP640027 hn640030 hl640030).1 (hE.rL hP640027 hn640030 hl640030).2
                have hFc := pfree hD hS hA
                refine va_calli (va_runV (As := [.ref (ra (5 * P640027 + n640040))]) (rest := []) ⟨hx, hb, hml, hown, hts⟩ (g_X4_fetchFrom l dC dI cy v L K N T I640094 Q640094 J640094 H.size pa ra (kxo σ) sg640096 P640027 n640030 n640040 hE hP640027 hn640030 hl640030 w1 hn640040 hl640040 w2 (fun z => hne9 z.symm) w3) (cwV 1 hts gX5_follow_X4_fetchFrom rfl rfl rfl (by decide +kernel) ⟨Nat.le_of_ble_eq_true rfl, Nat.le_of_ble_eq_true rfl⟩) ⟨pw_blind, va_recv hK hP (ci := 4) (q0 := j640097) rfl hj640097, fun U hU hW => ⟨rfl, pw_pre hP hK hN hD hU hW⟩⟩ rfl rfl hl.1 rfl (lv_room (Nat.le_of_ble_eq_true rfl)) dX5_follow_131 ⟨Nat.le_of_ble_eq_true rfl, Nat.le_of_ble_eq_true rfl⟩) hS (fun q _ h => hFc q h) hFc (fun r640099 d9 t H1 locs ht hvm hw hB hz1 hk1 hS => ?_)
                obtain ⟨I640098, Q640098, J640098⟩ := d9
                have hr640099 := hw.2
                have hw := hw.1
                obtain ⟨hP, hK1, hD1⟩ := hB
                rw [ht] at hP
                have hD := hD1.weaken (fun _ _ _ h => hFc _ h)
                generalize H1 = H at hP hS ⊢
                have hP : va_P (dC, dI) vwCl (va_pl L (pF cy K N T I640098 Q640098 J640098)) H := hP
                have hD : va_D A (va_pl L (pF cy K N T I640098 Q640098 J640098)) := hD
                have hR : RS v I640098 Q640098 J640098 I640098 Q640098 J640098 := RS.rf
                obtain ⟨sg640100, esg640100⟩ : ∃ z, z = (oFf sg640096 (5 * P640027 + n640030) (5 * P640027 + n640040)).1 := ⟨_, rfl⟩
                have hE : REP v pa ra L K N T I640098 Q640098 J640098 (kxo σ) sg640100 := by rw [esg640100]; exact hw
                have hC := hE.ct
                have e9 : qFo σ xn xp = (sg640100, r640099) := by unfold qFo; rw [if_neg hir640030, if_neg (fun z => c640034 (by rw [hr640033, sx640032]; exact (sp_iu_cnB hB).mp z)), cP640027, cn640030, if_neg (fun z => c640037 (by rw [sx640036]; exact z.symm)), ho640040]; show (oF5 (oTn (oFa σ (5 * P640027 + n640030) (5 * P640027 + n640040) P640027 xn) (5 * P640027 + n640030) (5 * P640027 + n640040) 5).1 (5 * P640027 + n640030) (5 * P640027 + n640040), (oTn (oFa σ (5 * P640027 + n640030) (5 * P640027 + n640040) P640027 xn) (5 * P640027 + n640030) (5 * P640027 + n640040) 5).2) = _; rw [en640030, oFa_eq hP640027 hn640030 hn640040 hne9 hLA (by omega), hv9, ← esg640096, ← oFf_eq (by omega) w1 w2 w3 w4, esg640100, hr640099]
                have hk9 : kxo sg640100 = (kxo σ) := by rw [esg640100]; exact kxo_c (by rw [oFf_0 (by omega) w1 w2, esg640096, oRi_1, ← hv9, (oF9_n hP640027 hn640030 hn640040 hne9 hLA (by omega)).1 0 0 (by omega)]) (fun q => by rw [oFf_0 (by omega) w1 w2, esg640096, oRi_1, ← hv9, (oF9_n hP640027 hn640030 hn640040 hne9 hLA (by omega)).1 4 q (by omega)])
                exact W.iret (v := r640099) hx hb hr (fun t ht hW => ⟨⟨r640099, (I640098, Q640098, J640098), rfl, ⟨by show REP v pa ra L K N T I640098 Q640098 J640098 (kxo (qFo σ xn xp).1) (qFo σ xn xp).1; rw [e9]; show REP v pa ra L K N T I640098 Q640098 J640098 (kxo sg640100) sg640100; rw [hk9]; exact hE, by show _ = _; rw [e9]⟩, by rw [ht]; exact hP, va_K.moved hW.alike hK, hD⟩, hS.F ht⟩) hS.2.2 dX5_follow_134
              · have kc640092 : ¬ (x640089.toInt < x640091.toInt) := by have h9 := c640092; rw [xk_lt] at h9; exact h9
                refine lv_aload_n hx hb dX5_follow_111 rfl (lv_at hl 2 rfl) ?_
                refine lv_dup hx hb dX5_follow_112 rfl ?_
                obtain ⟨j640101, hj640101⟩ := pG_2 (cy := cy) (N := N) (T := T) (I := I640086) (Q := Q640042) (J := J640042) (hE.pL hP640027 htP640027).1 (hE.pL hP640027 htP640027).2
                refine va_get (D := (dC, dI)) (ci := 2) (v := .int (I640086 (pa P640027) 5)) (C := RX2) (T := TX2) (N := 6) hx hb hts hi2 hown hK hP j640101 hj640101 rfl 5 (by decide) (hts (.fieldLink RX5 58 "TallyLogs$Partition" "inStep" "I") (by decide +kernel)) (fun _ h9 => h9) rfl dX5_follow_113 ?_
                refine lv_topi (fun x640102 ex640102 => ?_)
                have sx640102 : x640102 = sg640087.1 7 P640027 := ex640102.trans ((hE.pt P640027 hP640027).2 htP640027).2.1.2.2.2.2
                refine lv_iconst (v := 1) hx hb dX5_follow_116 (by decide) ?_
                refine lv_iload_n hx hb dX5_follow_117 rfl (lv_at hl 4 rfl) ?_
                refine lv_ishl hx hb dX5_follow_118 ?_
                refine lv_topi (fun v640103 ev640103 => ?_)
                refine lv_ior hx hb dX5_follow_119 ?_
                refine lv_topi (fun v640104 ev640104 => ?_)
                obtain ⟨j640105, hj640105⟩ := pG_2 (cy := cy) (N := N) (T := T) (I := I640086) (Q := Q640042) (J := J640042) (hE.pL hP640027 htP640027).1 (hE.pL hP640027 htP640027).2
                have hDo := hD
                refine va_put (D := (dC, dI)) (ci := 2) (v := .int v640104) (ty := .int) (C := RX2) (T := TX2) (N := 6) hx hb hts hi2 tyX2 tyX2_ok nmX2 hown hK hP hD hS j640105 hj640105 rfl 5 (by decide) (hts (.fieldLink RX5 58 "TallyLogs$Partition" "inStep" "I") (by decide +kernel)) (fun _ h9 => h9) rfl (by decide +kernel) rfl rfl (Nat.le_of_ble_eq_true rfl) dX5_follow_120 (fun H locs hP hD hS => ?_)
                have hP := Eq.mp (congrArg (fun w => va_P (dC, dI) vwCl w H) (pP_2_5 (x := v640104) hDo (hE.pL hP640027 htP640027).1 (hE.pL hP640027 htP640027).2 hj640105)) hP
                obtain ⟨I640106, eI640106⟩ : ∃ z, z = p2 I640086 (pa P640027) 5 v640104 := ⟨_, rfl⟩
                rw [← eI640106] at hP
                have hR : RS v I640106 Q640042 J640042 I640106 Q640042 J640042 := RS.rf
                obtain ⟨sg640107, esg640107⟩ : ∃ z, z = sA sg640087 7 P640027 v640104 := ⟨_, rfl⟩
                have hE : REP v pa ra L K N T I640106 Q640042 J640042 (kxo σ) sg640107 := by rw [esg640107, eI640106]; exact hE.wp hP640027 htP640027 (by decide)
                have hl640030 : lvj sg640107 P640027 n640030 := by rw [esg640107]; exact lvj_sA hl640030 (by decide) (by decide)
                have hl640040 : lvj sg640107 P640027 n640040 := by rw [esg640107]; exact lvj_sA hl640040 (by decide) (by decide)
                have htP640027 : ¬ sg640107.1 2 P640027 = 0 := by rw [esg640107, sA_n (by decide)]; exact htP640027
                have hC : CT v L K N T I640106 Q640042 := by rw [eI640106]; exact hC.pi (by rw [(hE.pL hP640027 htP640027).2]; decide)
                have hD : va_D A (va_pl L (pF cy K N T I640106 Q640042 J640042)) := pD hDo
                have hB9 : sG (oA2 (oA1 σ (5 * P640027 + n640030) (5 * P640027 + n640040)) (5 * P640027 + n640030) (5 * P640027 + n640040)) (5 * P640027 + n640030) 5 ((oA2 (oA1 σ (5 * P640027 + n640030) (5 * P640027 + n640040)) (5 * P640027 + n640030) (5 * P640027 + n640040)).2.1 (5 * P640027 + n640030) 2) = sg640049 := by rw [← esg640044, esg640049, sx640046]
                have hF2 : oF2 sg640049 (5 * P640027 + n640030) (5 * P640027 + n640040) = sg640087 := by rw [oF2, if_pos (by rw [← ux640051, ← ux640053]; exact c640054), esg640087, sx640084]
                have hF3 : oF3 sg640087 (5 * P640027 + n640030) (5 * P640027 + n640040) P640027 (nI n640030) = sg640107 := by rw [oF3, if_neg (fun z => c640092 (by rw [ux640089, ux640091]; exact z)), esg640107, ev640104, sx640102, ev640103, en640030]
                have hv9 : oF9 σ P640027 n640030 n640040 = sg640107 := by unfold oF9; rw [hB9, hF2, hF3]
                have hRH9 : RHp (kxo σ) sg640107 P640027 := by rw [← hv9]; exact f9_rh hSK hP640027 hn640030 hn640040 hne9 htO640027 hLA (by omega) hlF.2 hup9 hl9
                refine lv_aload_n hx hb dX5_follow_123 rfl (lv_at hl 2 rfl) ?_
                obtain ⟨j640108, hj640108⟩ := pG_2 (cy := cy) (N := N) (T := T) (I := I640106) (Q := Q640042) (J := J640042) (hE.pL hP640027 htP640027).1 (hE.pL hP640027 htP640027).2
                have hFc := pfree hD hS hA
                refine va_callv (va_runV (As := []) (rest := []) ⟨hx, hb, hml, hown, hts⟩ (g_X2_raiseHw l dC dI cy v L K N T I640106 Q640042 J640042 H.size pa ra (kxo σ) sg640107 P640027 hE hP640027 htP640027 hRH9.1 hRH9.2.1 hRH9.2.2.1 hRH9.2.2.2) (cwV 0 hts gX5_follow_X2_raiseHw rfl rfl rfl (by decide +kernel) ⟨Nat.le_of_ble_eq_true rfl, Nat.le_of_ble_eq_true rfl⟩) ⟨pw_blind, va_recv hK hP (ci := 2) (q0 := j640108) rfl hj640108, fun U hU hW => ⟨rfl, pw_pre hP hK hN hD hU hW⟩⟩ rfl rfl hl.1 rfl (lv_room (Nat.le_of_ble_eq_true rfl)) dX5_follow_124 ⟨Nat.le_of_ble_eq_true rfl, Nat.le_of_ble_eq_true rfl⟩) hS (fun q _ h => hFc q h) hFc (fun d9 t H1 locs ht hvm hw hB hz1 hk1 hS => ?_)
                obtain ⟨I640109, Q640109, J640109⟩ := d9
                obtain ⟨hP, hK1, hD1⟩ := hB
                rw [ht] at hP
                have hD := hD1.weaken (fun _ _ _ h => hFc _ h)
                generalize H1 = H at hP hS ⊢
                have hP : va_P (dC, dI) vwCl (va_pl L (pF cy K N T I640109 Q640109 J640109)) H := hP
                have hD : va_D A (va_pl L (pF cy K N T I640109 Q640109 J640109)) := hD
                have hR : RS v I640109 Q640109 J640109 I640109 Q640109 J640109 := RS.rf
                obtain ⟨sg640111, esg640111⟩ : ∃ z, z = oRi sg640107 P640027 := ⟨_, rfl⟩
                have hE : REP v pa ra L K N T I640109 Q640109 J640109 (kxo σ) sg640111 := by rw [esg640111]; exact hw
                have hC := hE.ct
                have h1sg640111 : sg640111.1 = sg640107.1 := by rw [esg640111]; exact oRi_1 _ _
                have hl640030 : lvj sg640111 P640027 n640030 := by unfold lvj; rw [h1sg640111]; exact hl640030
                have hl640040 : lvj sg640111 P640027 n640040 := by unfold lvj; rw [h1sg640111]; exact hl640040
                have htP640027 : ¬ sg640111.1 2 P640027 = 0 := by rw [h1sg640111]; exact htP640027
                obtain ⟨w1, w2, w3, w4⟩ := f9_num (σ := σ) (p := P640027) (n := n640030) (m := n640040) hP640027 hn640030 hn640040 hne9 hLA (by omega)
                rw [hv9, ← esg640111] at w1 w2 w3 w4
                refine lv_aload hx hb dX5_follow_127 (lv_at hl 1 rfl) ?_
                refine lv_aload hx hb dX5_follow_129 (lv_at hl 0 rfl) ?_
                obtain ⟨j640112, hj640112⟩ := pG_4 (cy := cy) (N := N) (T := T) (I := I640109) (Q := Q640109) (J := J640109) (hE.rL hP640027 hn640030 hl640030).1 (hE.rL hP640027 hn640030 hl640030).2
                have hFc := pfree hD hS hA
                refine va_calli (va_runV (As := [.ref (ra (5 * P640027 + n640040))]) (rest := []) ⟨hx, hb, hml, hown, hts⟩ (g_X4_fetchFrom l dC dI cy v L K N T I640109 Q640109 J640109 H.size pa ra (kxo σ) sg640111 P640027 n640030 n640040 hE hP640027 hn640030 hl640030 w1 hn640040 hl640040 w2 (fun z => hne9 z.symm) w3) (cwV 1 hts gX5_follow_X4_fetchFrom rfl rfl rfl (by decide +kernel) ⟨Nat.le_of_ble_eq_true rfl, Nat.le_of_ble_eq_true rfl⟩) ⟨pw_blind, va_recv hK hP (ci := 4) (q0 := j640112) rfl hj640112, fun U hU hW => ⟨rfl, pw_pre hP hK hN hD hU hW⟩⟩ rfl rfl hl.1 rfl (lv_room (Nat.le_of_ble_eq_true rfl)) dX5_follow_131 ⟨Nat.le_of_ble_eq_true rfl, Nat.le_of_ble_eq_true rfl⟩) hS (fun q _ h => hFc q h) hFc (fun r640114 d9 t H1 locs ht hvm hw hB hz1 hk1 hS => ?_)
                obtain ⟨I640113, Q640113, J640113⟩ := d9
                have hr640114 := hw.2
                have hw := hw.1
                obtain ⟨hP, hK1, hD1⟩ := hB
                rw [ht] at hP
                have hD := hD1.weaken (fun _ _ _ h => hFc _ h)
                generalize H1 = H at hP hS ⊢
                have hP : va_P (dC, dI) vwCl (va_pl L (pF cy K N T I640113 Q640113 J640113)) H := hP
                have hD : va_D A (va_pl L (pF cy K N T I640113 Q640113 J640113)) := hD
                have hR : RS v I640113 Q640113 J640113 I640113 Q640113 J640113 := RS.rf
                obtain ⟨sg640115, esg640115⟩ : ∃ z, z = (oFf sg640111 (5 * P640027 + n640030) (5 * P640027 + n640040)).1 := ⟨_, rfl⟩
                have hE : REP v pa ra L K N T I640113 Q640113 J640113 (kxo σ) sg640115 := by rw [esg640115]; exact hw
                have hC := hE.ct
                have e9 : qFo σ xn xp = (sg640115, r640114) := by unfold qFo; rw [if_neg hir640030, if_neg (fun z => c640034 (by rw [hr640033, sx640032]; exact (sp_iu_cnB hB).mp z)), cP640027, cn640030, if_neg (fun z => c640037 (by rw [sx640036]; exact z.symm)), ho640040]; show (oF5 (oTn (oFa σ (5 * P640027 + n640030) (5 * P640027 + n640040) P640027 xn) (5 * P640027 + n640030) (5 * P640027 + n640040) 5).1 (5 * P640027 + n640030) (5 * P640027 + n640040), (oTn (oFa σ (5 * P640027 + n640030) (5 * P640027 + n640040) P640027 xn) (5 * P640027 + n640030) (5 * P640027 + n640040) 5).2) = _; rw [en640030, oFa_eq hP640027 hn640030 hn640040 hne9 hLA (by omega), hv9, ← esg640111, ← oFf_eq (by omega) w1 w2 w3 w4, esg640115, hr640114]
                have hk9 : kxo sg640115 = (kxo σ) := by rw [esg640115]; exact kxo_c (by rw [oFf_0 (by omega) w1 w2, esg640111, oRi_1, ← hv9, (oF9_n hP640027 hn640030 hn640040 hne9 hLA (by omega)).1 0 0 (by omega)]) (fun q => by rw [oFf_0 (by omega) w1 w2, esg640111, oRi_1, ← hv9, (oF9_n hP640027 hn640030 hn640040 hne9 hLA (by omega)).1 4 q (by omega)])
                exact W.iret (v := r640114) hx hb hr (fun t ht hW => ⟨⟨r640114, (I640113, Q640113, J640113), rfl, ⟨by show REP v pa ra L K N T I640113 Q640113 J640113 (kxo (qFo σ xn xp).1) (qFo σ xn xp).1; rw [e9]; show REP v pa ra L K N T I640113 Q640113 J640113 (kxo sg640115) sg640115; rw [hk9]; exact hE, by show _ = _; rw [e9]⟩, by rw [ht]; exact hP, va_K.moved hW.alike hK, hD⟩, hS.F ht⟩) hS.2.2 dX5_follow_134
        · have kc640037 : xn.toInt = x640036.toInt := by have h9 := c640037; rw [xk_eq] at h9; exact h9
          refine lv_iconst (v := (-1)) hx hb dX5_follow_43 (by decide) ?_
          have e9 : qFo σ xn xp = (σ, (-1)) := by unfold qFo; rw [if_neg hir640030, if_neg (fun z => c640034 (by rw [hr640033, sx640032]; exact (sp_iu_cnB hB).mp z)), cP640027, if_pos (by rw [← sx640036]; exact c640037.symm)]
          have hk9 : kxo σ = (kxo σ) := rfl
          exact W.iret (v := (-1)) hx hb hr (fun t ht hW => ⟨⟨(-1), (I, Q, J), rfl, ⟨by show REP v pa ra L K N T I Q J (kxo (qFo σ xn xp).1) (qFo σ xn xp).1; rw [e9]; show REP v pa ra L K N T I Q J (kxo σ) σ; rw [hk9]; exact hE, by show _ = _; rw [e9]⟩, by rw [ht]; exact hP, va_K.moved hW.alike hK, hD⟩, hS.F ht⟩) hS.2.2 dX5_follow_44
