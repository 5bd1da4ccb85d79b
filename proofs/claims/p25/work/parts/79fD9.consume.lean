section XK
variable {σ σ' : SG} {p j k o : Nat} {E : Int}
theorem oSe_n {i q : Nat} (h : ¬ i = 16) : ∀ n, (oSe σ j o n).1 i q = σ.1 i q := by
  intro n
  induction n with
  | zero => exact sA_n h
  | succ n ih => exact (sA_n h).trans ih
theorem oSe_0 : ∀ n, (oSe σ j o n).1 16 0 = σ.2.2 j o 0 := by
  intro n
  induction n with
  | zero => exact sA_s
  | succ n ih => exact (sA_o (by omega)).trans ih
theorem oSe_k : ∀ n i, i < n → (oSe σ j o n).1 16 (i + 1) = σ.2.2 j o (i + 2) := by
  intro n
  induction n with
  | zero => exact fun i hi => absurd hi (Nat.not_lt_zero _)
  | succ n ih =>
    intro i hi
    by_cases e : i = n
    · rw [e]; exact sA_s
    · exact (sA_o (by omega)).trans (ih i (by omega))
theorem oMost_le {cm : Int32} : (oMost σ j cm).toInt ≤ (σ.2.1 j 3).toInt := by
  unfold oMost
  by_cases h : cm = 0
  · rw [if_pos h]; exact Int.le_refl _
  · rw [if_neg h, imn_t]; omega
end XK
set_option maxHeartbeats 4000000 in
set_option maxRecDepth 100000 in
/-- consume, exactly -/
theorem g_X5_consume (l : Launch) (dC : Nat → ClassId) (dI : Nat → Nat → Nat) (cy : Nat → ClassId) (v : Nat → Nat) (L : List Nat) (K N : Nat → Nat) (T : Nat → Nat → Nat) (I : Nat → Nat → Int32) (Q : Nat → Nat → Option Nat) (J : Nat → Nat → Int32) (sz : Nat) (pa ra : Nat → Nat) (kx : Nat → Prop) (σ : SG) (E : Int) (xp xo cm : Int32) (hE : REP v pa ra L K N T I Q J kx σ) (hkx : kx = kxo σ) (hSK : SK σ) (hLA : LA E σ) (hE9 : E < 1900) (hB : B5 (σ.1 0 0)) : Met l yX5_consume wsX5_consume ({ frames := 5, cells := 0, slots := 0, locals := 114 }) (va_Pc [.ref (v 0), .int xp, .int xo, .int cm] (pW dC dI cy L (pF cy K N T I Q J) sz)) (va_Qi (fun (r : Int32) (d : (Nat → Nat → Int32) × (Nat → Nat → Option Nat) × (Nat → Nat → Int32)) => (REP v pa ra L K N T d.1 d.2.1 d.2.2 (kxo (qCo σ xp xo cm).1) (qCo σ xp xo cm).1) ∧ r = (qCo σ xp xo cm).2) (fun (d : (Nat → Nat → Int32) × (Nat → Nat → Option Nat) × (Nat → Nat → Int32)) t => va_P (dC, dI) vwCl (va_pl L (pF cy K N T d.1 d.2.1 d.2.2)) t.heap ∧ va_K (dC, dI) vwCl (pTy cy) t ∧ va_D (va_A (va_pl L (pF cy K N T I Q J)) sz) (va_pl L (pF cy K N T d.1 d.2.1 d.2.2))) (va_A (va_pl L (pF cy K N T I Q J)) sz)) 0 0 (va_A (va_pl L (pF cy K N T I Q J)) sz) := by
  refine Met.ofW (cc := cX5_consume) (maxL := 8) (ret := (some .int)) (by decide) rfl ?_
  intro p e s m args below meth c s₁ B hml hv
  obtain ⟨rfl, hsz, ⟨hP, hK, hN⟩, hD0⟩ := hv
  have hx := B.exec
  have hb := B.bytes
  have hr := B.returns
  have hts := atoms_spec (ws := wsX5_consume) B.pre
  have hown : s.vm.findClass RX5 = some m.cls := findClass_of_methodNamed B.named
  have hlocks := B.notSynchronized
  have hi5 : ∀ w ∈ wsX50, w ∈ wsX5_consume := by decide +kernel
  have hi4 : ∀ w ∈ wsX40, w ∈ wsX5_consume := by decide +kernel
  have hl := lv_entry ([.ref (v 0), .int xp, .int xo, .int cm]) (n := 8) (Nat.le_of_ble_eq_true rfl)
  rw [lg_entry_eq]
  generalize (lg_sl ([.ref (v 0), .int xp, .int xo, .int cm]) ++ List.replicate (8 - (lg_sl ([.ref (v 0), .int xp, .int xo, .int cm])).length) Slot.unset).toArray = ls at hl ⊢
  have hl : lv_has ls 8 [(0, .ref (v 0)), (1, .int xp), (2, .int xo), (3, .int cm)] := hl
  subst hsz
  have hD := hD0.self (sz := s.heap.size)
  generalize hAe : va_A (va_pl L (pF cy K N T I Q J)) s.heap.size = A at hD ⊢
  have hA : ∀ q : Nat, s.heap.size ≤ q → A q := fun q h => by rw [← hAe]; exact Or.inr h
  have hS : va_S A s.heap s.heap [] := va_S.rf
  have hR : RS v I Q J I Q J := RS.rf
  have hn28 := hN.1
  have hn30 := hN.2.1
  have hn37 := hN.2.2.1
  have hC := hE.ct
  subst hkx
  refine lv_aload_n hx hb dX5_consume_0 rfl (lv_at hl 0 rfl) ?_
  refine lv_iload_n hx hb dX5_consume_1 rfl (lv_at hl 1 rfl) ?_
  obtain ⟨j650002, hj650002⟩ := pG_5 (cy := cy) (N := N) (T := T) (I := I) (Q := Q) (J := J) (hC.at 0 (by decide)) (hC.k 0 (by decide) rfl)
  refine va_csq (W.runV (As := [.int xp]) (rest := []) ⟨hx, hb, hml, hown, hts⟩ (g_X5_partitionAt l dC dI cy v L K N T I Q J pa ra (kxo σ) σ xp hE) (cwV 1 hts gX5_consume_X5_partitionAt rfl rfl rfl (by decide +kernel) ⟨Nat.le_of_ble_eq_true rfl, Nat.le_of_ble_eq_true rfl⟩) ⟨pb_blind, va_recv hK hP (ci := 5) (q0 := j650002) rfl hj650002, fun U hU hW => ⟨rfl, pb_pre hP hK hN hU hW⟩⟩ rfl rfl hl.1 rfl (lv_room (Nat.le_of_ble_eq_true rfl)) dX5_consume_2 ⟨Nat.le_of_ble_eq_true rfl, Nat.le_of_ble_eq_true rfl⟩) (fun r650001 hr650001 => ?_)
  rcases hr650001 with ⟨rfl, hpn650003⟩ | ⟨P650003, hP650003, eP650003, htP650003, rfl⟩
  · refine W.eq (g2 := F0 m 5 ls [.null]) rfl ?_
    refine lv_astoreN (lv' := [(4, .null), (0, .ref (v 0)), (1, .int xp), (2, .int xo), (3, .int cm)]) hx hb dX5_consume_5 hl (by decide) rfl (fun ls hl => ?_)
    refine lv_aloadN hx hb dX5_consume_7 (lv_at hl 0 rfl) ?_
    refine lv_ifnonnullN hx hb dX5_consume_9 ?_
    refine lv_iconst (v := (-1)) hx hb dX5_consume_12 (by decide) ?_
    have e9 : qCo σ xp xo cm = (σ, (-1)) := by unfold qCo; rw [if_pos hpn650003]
    have hk9 : kxo σ = (kxo σ) := rfl
    exact W.iret (v := (-1)) hx hb hr (fun t ht hW => ⟨⟨(-1), (I, Q, J), rfl, ⟨by show REP v pa ra L K N T I Q J (kxo (qCo σ xp xo cm).1) (qCo σ xp xo cm).1; rw [e9]; show REP v pa ra L K N T I Q J (kxo σ) σ; rw [hk9]; exact hE, by show _ = _; rw [e9]⟩, by rw [ht]; exact hP, va_K.moved hW.alike hK, hD⟩, hS.F ht⟩) hS.2.2 dX5_consume_13
  · refine W.eq (g2 := F0 m 5 ls [.ref (pa P650003)]) rfl ?_
    have hit650003 := sp_it_y (f := σ.1 2) hP650003 eP650003 htP650003
    have cP650003 := nI_cl (by omega) eP650003
    have hPI650003 := hSK.1 P650003 hP650003
    have hPL650003 := hPI650003.pl htP650003
    have htO650003 := htP650003
    refine lv_astore (lv' := [(4, .ref (pa P650003)), (0, .ref (v 0)), (1, .int xp), (2, .int xo), (3, .int cm)]) hx hb dX5_consume_5 hl (by decide) rfl (fun ls hl => ?_)
    refine lv_aload hx hb dX5_consume_7 (lv_at hl 0 rfl) ?_
    refine lv_ifnonnull (tgt := 14) hx hb dX5_consume_9 (by decide) ?_
    refine lv_aload hx hb dX5_consume_14 (lv_at hl 0 rfl) ?_
    obtain ⟨j650005, hj650005⟩ := pG_2 (cy := cy) (N := N) (T := T) (I := I) (Q := Q) (J := J) (hE.pL hP650003 htP650003).1 (hE.pL hP650003 htP650003).2
    refine va_csq (W.runV (As := []) (rest := []) ⟨hx, hb, hml, hown, hts⟩ (g_X2_leading l dC dI cy v L K N T I Q J pa ra (kxo σ) σ P650003 hE hP650003 htP650003) (cwV 0 hts gX5_consume_X2_leading rfl rfl rfl (by decide +kernel) ⟨Nat.le_of_ble_eq_true rfl, Nat.le_of_ble_eq_true rfl⟩) ⟨pb_blind, va_recv hK hP (ci := 2) (q0 := j650005) rfl hj650005, fun U hU hW => ⟨rfl, pb_pre hP hK hN hU hW⟩⟩ rfl rfl hl.1 rfl (lv_room (Nat.le_of_ble_eq_true rfl)) dX5_consume_16 ⟨Nat.le_of_ble_eq_true rfl, Nat.le_of_ble_eq_true rfl⟩) (fun r650004 hr650004 => ?_)
    rcases hr650004 with ⟨rfl, hno650006⟩ | ⟨n650006, hn650006, en650006, hl650006, rfl⟩
    · refine W.eq (g2 := F0 m 19 ls [.null]) rfl ?_
      have ho650006 := hPL650003.no hno650006
      refine lv_astoreN (lv' := [(5, .null), (4, .ref (pa P650003)), (0, .ref (v 0)), (1, .int xp), (2, .int xo), (3, .int cm)]) hx hb dX5_consume_19 hl (by decide) rfl (fun ls hl => ?_)
      refine lv_aloadN hx hb dX5_consume_21 (lv_at hl 0 rfl) ?_
      refine lv_ifnonnullN hx hb dX5_consume_23 ?_
      refine lv_bipush (v := (-2)) hx hb dX5_consume_26 (by decide) ?_
      have e9 : qCo σ xp xo cm = (σ, (-2)) := by unfold qCo; rw [if_neg hit650003, cP650003, ho650006]
      have hk9 : kxo σ = (kxo σ) := rfl
      exact W.iret (v := (-2)) hx hb hr (fun t ht hW => ⟨⟨(-2), (I, Q, J), rfl, ⟨by show REP v pa ra L K N T I Q J (kxo (qCo σ xp xo cm).1) (qCo σ xp xo cm).1; rw [e9]; show REP v pa ra L K N T I Q J (kxo σ) σ; rw [hk9]; exact hE, by show _ = _; rw [e9]⟩, by rw [ht]; exact hP, va_K.moved hW.alike hK, hD⟩, hS.F ht⟩) hS.2.2 dX5_consume_28
    · refine W.eq (g2 := F0 m 19 ls [.ref (ra (5 * P650003 + n650006))]) rfl ?_
      have hst650006 := hPL650003.at hn650006 en650006
      have ho650006 := oOw_c hn650006 en650006 hst650006.2
      have hLI650006 := hLA (5 * P650003 + n650006) (by omega)
      have hNl650006 := hLI650006.ln (by omega)
      obtain ⟨q1650006, q2650006, q3650006, q4650006, q5650006, q6650006⟩ := id hLI650006
      have hRF650006 := hSK.2.1 (5 * P650003 + n650006) (by omega)
      have hlO650006 := hl650006
      refine lv_astore (lv' := [(5, .ref (ra (5 * P650003 + n650006))), (4, .ref (pa P650003)), (0, .ref (v 0)), (1, .int xp), (2, .int xo), (3, .int cm)]) hx hb dX5_consume_19 hl (by decide) rfl (fun ls hl => ?_)
      refine lv_aload hx hb dX5_consume_21 (lv_at hl 0 rfl) ?_
      refine lv_ifnonnull (tgt := 29) hx hb dX5_consume_23 (by decide) ?_
      refine lv_iload_n hx hb dX5_consume_29 rfl (lv_at hl 4 rfl) ?_
      refine lv_aload hx hb dX5_consume_30 (lv_at hl 0 rfl) ?_
      obtain ⟨j650007, hj650007⟩ := pG_4 (cy := cy) (N := N) (T := T) (I := I) (Q := Q) (J := J) (hE.rL hP650003 hn650006 hl650006).1 (hE.rL hP650003 hn650006 hl650006).2
      refine va_get (D := (dC, dI)) (ci := 4) (v := .int (I (ra (5 * P650003 + n650006)) 1)) (C := RX4) (T := TX4) (N := 7) hx hb hts hi4 hown hK hP j650007 hj650007 rfl 1 (by decide) (hts (.fieldLink RX5 167 "TallyLogs$Replica" "start" "I") (by decide +kernel)) (fun _ h9 => h9) rfl dX5_consume_32 ?_
      refine lv_topi (fun x650008 ex650008 => ?_)
      have sx650008 : x650008 = σ.2.1 (5 * P650003 + n650006) 1 := ex650008.trans (hE.g hP650003 hn650006 hl650006 (by decide) (by decide) (by decide))
      have ux650008 := sx650008
      have tx650008 : x650008.toInt = (σ.2.1 (5 * P650003 + n650006) 1).toInt := congrArg Int32.toInt sx650008
      refine lv_icmp_lt (tgt := 47) hx hb dX5_consume_35 (by decide) (fun c650009 => ?_) (fun c650009 => ?_)
      · have kc650009 : xo.toInt < x650008.toInt := by have h9 := c650009; rw [xk_lt] at h9; exact h9
        refine lv_iconst (v := (-1)) hx hb dX5_consume_47 (by decide) ?_
        have e9 : qCo σ xp xo cm = (σ, (-1)) := by unfold qCo; rw [if_neg hit650003, cP650003, ho650006]; exact if_pos (sp_inl_no (Int32.toInt_toInt64 _) (Int32.toInt_toInt64 _) (by omega))
        have hk9 : kxo σ = (kxo σ) := rfl
        exact W.iret (v := (-1)) hx hb hr (fun t ht hW => ⟨⟨(-1), (I, Q, J), rfl, ⟨by show REP v pa ra L K N T I Q J (kxo (qCo σ xp xo cm).1) (qCo σ xp xo cm).1; rw [e9]; show REP v pa ra L K N T I Q J (kxo σ) σ; rw [hk9]; exact hE, by show _ = _; rw [e9]⟩, by rw [ht]; exact hP, va_K.moved hW.alike hK, hD⟩, hS.F ht⟩) hS.2.2 dX5_consume_48
      · have kc650009 : ¬ (xo.toInt < x650008.toInt) := by have h9 := c650009; rw [xk_lt] at h9; exact h9
        refine lv_iload_n hx hb dX5_consume_38 rfl (lv_at hl 4 rfl) ?_
        refine lv_aload hx hb dX5_consume_39 (lv_at hl 0 rfl) ?_
        obtain ⟨j650010, hj650010⟩ := pG_4 (cy := cy) (N := N) (T := T) (I := I) (Q := Q) (J := J) (hE.rL hP650003 hn650006 hl650006).1 (hE.rL hP650003 hn650006 hl650006).2
        refine va_get (D := (dC, dI)) (ci := 4) (v := .int (I (ra (5 * P650003 + n650006)) 3)) (C := RX4) (T := TX4) (N := 7) hx hb hts hi4 hown hK hP j650010 hj650010 rfl 3 (by decide) (hts (.fieldLink RX5 146 "TallyLogs$Replica" "hw" "I") (by decide +kernel)) (fun _ h9 => h9) rfl dX5_consume_41 ?_
        refine lv_topi (fun x650011 ex650011 => ?_)
        have sx650011 : x650011 = σ.2.1 (5 * P650003 + n650006) 3 := ex650011.trans (hE.g hP650003 hn650006 hl650006 (by decide) (by decide) (by decide))
        have ux650011 := sx650011
        have tx650011 : x650011.toInt = (σ.2.1 (5 * P650003 + n650006) 3).toInt := congrArg Int32.toInt sx650011
        refine lv_icmp_le (tgt := 49) hx hb dX5_consume_44 (by decide) (fun c650012 => ?_) (fun c650012 => ?_)
        · have kc650012 : xo.toInt ≤ x650011.toInt := by have h9 := c650012; rw [xk_le] at h9; exact h9
          refine lv_aload hx hb dX5_consume_49 (lv_at hl 0 rfl) ?_
          refine lv_iload_n hx hb dX5_consume_51 rfl (lv_at hl 4 rfl) ?_
          refine lv_iload_n hx hb dX5_consume_52 rfl (lv_at hl 5 rfl) ?_
          obtain ⟨j650014, hj650014⟩ := pG_4 (cy := cy) (N := N) (T := T) (I := I) (Q := Q) (J := J) (hE.rL hP650003 hn650006 hl650006).1 (hE.rL hP650003 hn650006 hl650006).2
          refine vp_callSi (W.runV (As := [.int xo, .int cm]) (rest := []) ⟨hx, hb, hml, hown, hts⟩ (g_X4_firstVisible l dC dI cy v L K N T I Q J pa ra (kxo σ) σ P650003 n650006 xo cm hE hP650003 hn650006 hl650006 hNl650006 hRF650006.1 (by omega) (by omega)) (cwV 2 hts gX5_consume_X4_firstVisible rfl rfl rfl (by decide +kernel) ⟨Nat.le_of_ble_eq_true rfl, Nat.le_of_ble_eq_true rfl⟩) ⟨pb_blind, va_recv hK hP (ci := 4) (q0 := j650014) rfl hj650014, fun U hU hW => ⟨rfl, pb_pre hP hK hN hU hW⟩⟩ rfl rfl hl.1 rfl (lv_room (Nat.le_of_ble_eq_true rfl)) dX5_consume_53 ⟨Nat.le_of_ble_eq_true rfl, Nat.le_of_ble_eq_true rfl⟩) (fun r650013 hr650013 => ?_)
          have hmo := oMost_le (σ := σ) (j := (5 * P650003 + n650006)) (cm := cm)
          have hcm1 := clT (oMost σ (5 * P650003 + n650006) cm)
          have hcx1 := clT xo
          cases hfu : fU (pVi σ (5 * P650003 + n650006) cm) ((oMost σ (5 * P650003 + n650006) cm).toNatClampNeg - xo.toNatClampNeg) xo.toNatClampNeg with
          | none =>
            have hrv : r650013 = -1 := by rw [hr650013, hfu]; rfl
            have hrt : r650013.toInt = -1 := by rw [hrv]; decide
            refine lv_istore (lv' := [(6, .int r650013), (5, .ref (ra (5 * P650003 + n650006))), (4, .ref (pa P650003)), (0, .ref (v 0)), (1, .int xp), (2, .int xo), (3, .int cm)]) hx hb dX5_consume_56 hl (by decide) rfl (fun ls hl => ?_)
            refine lv_aload hx hb dX5_consume_58 (lv_at hl 1 rfl) ?_
            refine lv_iload hx hb dX5_consume_60 (lv_at hl 0 rfl) ?_
            obtain ⟨j650017, hj650017⟩ := pG_4 (cy := cy) (N := N) (T := T) (I := I) (Q := Q) (J := J) (hE.rL hP650003 hn650006 hl650006).1 (hE.rL hP650003 hn650006 hl650006).2
            refine va_csq (W.runV (As := [.int r650013]) (rest := []) ⟨hx, hb, hml, hown, hts⟩ (g_X4_entryAt l dC dI cy v L K N T I Q J pa ra (kxo σ) σ P650003 n650006 r650013 hE hP650003 hn650006 hl650006 hNl650006) (cwV 1 hts gX5_consume_X4_entryAt rfl rfl rfl (by decide +kernel) ⟨Nat.le_of_ble_eq_true rfl, Nat.le_of_ble_eq_true rfl⟩) ⟨pb_blind, va_recv hK hP (ci := 4) (q0 := j650017) rfl hj650017, fun U hU hW => ⟨rfl, pb_pre hP hK hN hU hW⟩⟩ rfl rfl hl.1 rfl (lv_room (Nat.le_of_ble_eq_true rfl)) dX5_consume_62 ⟨Nat.le_of_ble_eq_true rfl, Nat.le_of_ble_eq_true rfl⟩) (fun r650016 hr650016 => ?_)
            rcases hr650016 with ⟨hno650018, rfl⟩ | ⟨b650018, rfl, hb650018, hra650018, hbf650018⟩
            · refine W.eq (g2 := F0 m 65 ls [.null]) rfl ?_
              refine lv_astoreN (lv' := [(7, .null), (6, .int r650013), (5, .ref (ra (5 * P650003 + n650006))), (4, .ref (pa P650003)), (0, .ref (v 0)), (1, .int xp), (2, .int xo), (3, .int cm)]) hx hb dX5_consume_65 hl (by decide) rfl (fun ls hl => ?_)
              refine lv_aloadN hx hb dX5_consume_67 (lv_at hl 0 rfl) ?_
              refine lv_ifnonnullN hx hb dX5_consume_69 ?_
              refine lv_bipush (v := (-2)) hx hb dX5_consume_72 (by decide) ?_
              have e9 : qCo σ xp xo cm = (σ, (-2)) := by unfold qCo; rw [if_neg hit650003, cP650003, ho650006]; refine (if_neg (sp_inl_yes (Int32.toInt_toInt64 _) (Int32.toInt_toInt64 _) (by omega))).trans ?_; rw [hfu]
              have hk9 : kxo σ = (kxo σ) := rfl
              exact W.iret (v := (-2)) hx hb hr (fun t ht hW => ⟨⟨(-2), (I, Q, J), rfl, ⟨by show REP v pa ra L K N T I Q J (kxo (qCo σ xp xo cm).1) (qCo σ xp xo cm).1; rw [e9]; show REP v pa ra L K N T I Q J (kxo σ) σ; rw [hk9]; exact hE, by show _ = _; rw [e9]⟩, by rw [ht]; exact hP, va_K.moved hW.alike hK, hD⟩, hS.F ht⟩) hS.2.2 dX5_consume_74
            · refine W.eq (g2 := F0 m 65 ls [.ref b650018]) rfl ?_
              obtain ⟨hra650018a, hra650018b⟩ := id hra650018
              exfalso; omega
          | some q9 =>
            have hrv : r650013 = nI q9 := by rw [hr650013, hfu]; rfl
            obtain ⟨hq1, hq2, _⟩ := fU_lt hfu
            have hrt : r650013.toInt = q9 := by rw [hrv]; exact nI_toInt (by omega)
            have hrc : r650013.toNatClampNeg = q9 := nI_cl (by omega) hrv
            refine lv_istore (lv' := [(6, .int r650013), (5, .ref (ra (5 * P650003 + n650006))), (4, .ref (pa P650003)), (0, .ref (v 0)), (1, .int xp), (2, .int xo), (3, .int cm)]) hx hb dX5_consume_56 hl (by decide) rfl (fun ls hl => ?_)
            refine lv_aload hx hb dX5_consume_58 (lv_at hl 1 rfl) ?_
            refine lv_iload hx hb dX5_consume_60 (lv_at hl 0 rfl) ?_
            obtain ⟨j650020, hj650020⟩ := pG_4 (cy := cy) (N := N) (T := T) (I := I) (Q := Q) (J := J) (hE.rL hP650003 hn650006 hl650006).1 (hE.rL hP650003 hn650006 hl650006).2
            refine va_csq (W.runV (As := [.int r650013]) (rest := []) ⟨hx, hb, hml, hown, hts⟩ (g_X4_entryAt l dC dI cy v L K N T I Q J pa ra (kxo σ) σ P650003 n650006 r650013 hE hP650003 hn650006 hl650006 hNl650006) (cwV 1 hts gX5_consume_X4_entryAt rfl rfl rfl (by decide +kernel) ⟨Nat.le_of_ble_eq_true rfl, Nat.le_of_ble_eq_true rfl⟩) ⟨pb_blind, va_recv hK hP (ci := 4) (q0 := j650020) rfl hj650020, fun U hU hW => ⟨rfl, pb_pre hP hK hN hU hW⟩⟩ rfl rfl hl.1 rfl (lv_room (Nat.le_of_ble_eq_true rfl)) dX5_consume_62 ⟨Nat.le_of_ble_eq_true rfl, Nat.le_of_ble_eq_true rfl⟩) (fun r650019 hr650019 => ?_)
            rcases hr650019 with ⟨hno650021, rfl⟩ | ⟨b650021, rfl, hb650021, hra650021, hbf650021⟩
            · refine W.eq (g2 := F0 m 65 ls [.null]) rfl ?_
              exact absurd ⟨by omega, by omega⟩ hno650021
            · refine W.eq (g2 := F0 m 65 ls [.ref b650021]) rfl ?_
              obtain ⟨hra650021a, hra650021b⟩ := id hra650021
              refine lv_astore (lv' := [(7, .ref b650021), (6, .int r650013), (5, .ref (ra (5 * P650003 + n650006))), (4, .ref (pa P650003)), (0, .ref (v 0)), (1, .int xp), (2, .int xo), (3, .int cm)]) hx hb dX5_consume_65 hl (by decide) rfl (fun ls hl => ?_)
              refine lv_aload hx hb dX5_consume_67 (lv_at hl 0 rfl) ?_
              refine lv_ifnonnull (tgt := 75) hx hb dX5_consume_69 (by decide) ?_
              refine lv_aload_n hx hb dX5_consume_75 rfl (lv_at hl 4 rfl) ?_
              refine lv_aload hx hb dX5_consume_76 (lv_at hl 0 rfl) ?_
              obtain ⟨j650022, hj650022⟩ := pG_5 (cy := cy) (N := N) (T := T) (I := I) (Q := Q) (J := J) (hC.at 0 (by decide)) (hC.k 0 (by decide) rfl)
              have hDo := hD
              refine va_put (D := (dC, dI)) (ci := 5) (v := .ref b650021) (ty := (.object "TallyLogs$Entry")) (C := RX5) (T := TX5) (N := 6) hx hb hts hi5 tyX5 tyX5_ok nmX5 hown hK hP hD hS j650022 hj650022 rfl 5 (by decide) (hts (.fieldLink RX5 34 "TallyLogs" "lastSeen" "LTallyLogs$Entry;") (by decide +kernel)) (fun _ h9 => h9) rfl (by decide +kernel) rfl rfl (Nat.le_of_ble_eq_true rfl) dX5_consume_78 (fun H locs hP hD hS => ?_)
              have hP := Eq.mp (congrArg (fun w => va_P (dC, dI) vwCl w H) (pP_5_5 (x := (some b650021)) hDo (hC.at 0 (by decide)) (hC.k 0 (by decide) rfl) hj650022)) hP
              obtain ⟨Q650023, eQ650023⟩ : ∃ z, z = p2 Q (v 0) 5 (some b650021) := ⟨_, rfl⟩
              rw [← eQ650023] at hP
              have hR : RS v I Q J I Q650023 J := by rw [eQ650023]; exact hR.pq hC (by rw [(hC.k 0 (by decide) rfl)]; decide)
              have hC : CT v L K N T I Q650023 := by rw [eQ650023]; exact hC.q5 (fun b hb => by cases hb; exact ⟨hb650021.1, hb650021.2⟩)
              have hD : va_D A (va_pl L (pF cy K N T I Q650023 J)) := pD hDo
              obtain ⟨sg650024, esg650024⟩ : ∃ z, z = oSe σ (5 * P650003 + n650006) q9 5 := ⟨_, rfl⟩
              have hE : REP v pa ra L K N T I Q650023 J (kxo σ) sg650024 := by rw [esg650024, eQ650023]; exact hE.wl ⟨hb650021.1, hb650021.2⟩ (oSe_2 5) (fun i q hi => oSe_n hi 5) (by rw [oSe_0, ← hrc]; exact hbf650021 0 (by decide)) (fun i hi => by rw [oSe_k 5 i hi, ← hrc]; exact hbf650021 (i + 2) (by omega))
              refine lv_iload hx hb dX5_consume_81 (lv_at hl 1 rfl) ?_
              have e9 : qCo σ xp xo cm = (sg650024, r650013) := by unfold qCo; rw [if_neg hit650003, cP650003, ho650006]; refine (if_neg (sp_inl_yes (Int32.toInt_toInt64 _) (Int32.toInt_toInt64 _) (by omega))).trans ?_; rw [hfu]; show (oSe σ _ q9 5, nI q9) = _; rw [esg650024, hrv]
              have hk9 : kxo sg650024 = (kxo σ) := by rw [esg650024]; exact kxo_c (oSe_n (by decide) 5) (fun q => oSe_n (by decide) 5)
              exact W.iret (v := r650013) hx hb hr (fun t ht hW => ⟨⟨r650013, (I, Q650023, J), rfl, ⟨by show REP v pa ra L K N T I Q650023 J (kxo (qCo σ xp xo cm).1) (qCo σ xp xo cm).1; rw [e9]; show REP v pa ra L K N T I Q650023 J (kxo sg650024) sg650024; rw [hk9]; exact hE, by show _ = _; rw [e9]⟩, by rw [ht]; exact hP, va_K.moved hW.alike hK, hD⟩, hS.F ht⟩) hS.2.2 dX5_consume_83
        · have kc650012 : ¬ (xo.toInt ≤ x650011.toInt) := by have h9 := c650012; rw [xk_le] at h9; exact h9
          refine lv_iconst (v := (-1)) hx hb dX5_consume_47 (by decide) ?_
          have e9 : qCo σ xp xo cm = (σ, (-1)) := by unfold qCo; rw [if_neg hit650003, cP650003, ho650006]; exact if_pos (sp_inl_no (Int32.toInt_toInt64 _) (Int32.toInt_toInt64 _) (by omega))
          have hk9 : kxo σ = (kxo σ) := rfl
          exact W.iret (v := (-1)) hx hb hr (fun t ht hW => ⟨⟨(-1), (I, Q, J), rfl, ⟨by show REP v pa ra L K N T I Q J (kxo (qCo σ xp xo cm).1) (qCo σ xp xo cm).1; rw [e9]; show REP v pa ra L K N T I Q J (kxo σ) σ; rw [hk9]; exact hE, by show _ = _; rw [e9]⟩, by rw [ht]; exact hP, va_K.moved hW.alike hK, hD⟩, hS.F ht⟩) hS.2.2 dX5_consume_48
