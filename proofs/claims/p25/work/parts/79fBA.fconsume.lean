set_option maxHeartbeats 4000000 in
set_option maxRecDepth 100000 in
/-- consume, exactly -/
theorem f_X7_consume (l : Launch) (dC : Nat → ClassId) (dI : Nat → Nat → Nat) (cy : Nat → ClassId) (w : Nat → Nat) (L : List Nat) (K N : Nat → Nat) (T : Nat → Nat → Nat) (Q : Nat → Nat → Option Nat) (I J : Nat → Nat → Int32) (sz : Nat) (E : Int) (xp : Int32) (xo : Int32) (cm : Int32) (σ : SG) (hM : MS w L K N T Q) (hI : MI w E I J) (hE : E ≤ 1000) (hMR : MR w I J σ) : Met l yX7_consume wsX7_consume ({ frames := 3, cells := 0, slots := 0, locals := 73 }) (va_Pc [.ref (w 0), .int xp, .int xo, .int cm] (mW dC dI cy L (wF cy K N T I Q J) sz)) (va_Qi (fun (r : Int32) (d : (Nat → Nat → Int32) × (Nat → Nat → Int32)) => MI w (E + 5) d.1 d.2 ∧ MR w d.1 d.2 (qCo σ xp xo cm).1 ∧ r = (qCo σ xp xo cm).2) (fun (d : (Nat → Nat → Int32) × (Nat → Nat → Int32)) t => va_P (dC, dI) vwCl (va_pl L (wF cy K N T d.1 Q d.2)) t.heap ∧ va_K (dC, dI) vwCl (mTy cy) t ∧ va_D (va_A (va_pl L (wF cy K N T I Q J)) sz) (va_pl L (wF cy K N T d.1 Q d.2))) (va_A (va_pl L (wF cy K N T I Q J)) sz)) 0 0 (va_A (va_pl L (wF cy K N T I Q J)) sz) := by
  refine Met.ofW (cc := cX7_consume) (maxL := 8) (ret := (some .int)) (by decide) rfl ?_
  intro p e s m args below meth c s₁ B hml hv
  obtain ⟨rfl, hsz, ⟨hP, hK⟩, hD0⟩ := hv
  have hx := B.exec
  have hb := B.bytes
  have hr := B.returns
  have hts := atoms_spec (ws := wsX7_consume) B.pre
  have hown : s.vm.findClass RX7 = some m.cls := findClass_of_methodNamed B.named
  have hlocks := B.notSynchronized
  have hi7 : ∀ w ∈ wsX70, w ∈ wsX7_consume := by decide +kernel
  have hi6 : ∀ w ∈ wsX60, w ∈ wsX7_consume := by decide +kernel
  have hl := lv_entry ([.ref (w 0), .int xp, .int xo, .int cm]) (n := 8) (Nat.le_of_ble_eq_true rfl)
  rw [lg_entry_eq]
  generalize (lg_sl ([.ref (w 0), .int xp, .int xo, .int cm]) ++ List.replicate (8 - (lg_sl ([.ref (w 0), .int xp, .int xo, .int cm])).length) Slot.unset).toArray = ls at hl ⊢
  have hl : lv_has ls 8 [(0, .ref (w 0)), (1, .int xp), (2, .int xo), (3, .int cm)] := hl
  subst hsz
  have hD := hD0.self (sz := s.heap.size)
  generalize hAe : va_A (va_pl L (wF cy K N T I Q J)) s.heap.size = A at hD ⊢
  have hA : ∀ q : Nat, s.heap.size ≤ q → A q := fun q h => by rw [← hAe]; exact Or.inr h
  have hS : va_S A s.heap s.heap [] := va_S.rf
  have hR : RM w [] I J I J := RM.rf
  obtain ⟨hML, hMD, hMU⟩ := hI
  refine lv_aload_n hx hb dX7_consume_0 rfl (lv_at hl 0 rfl) ?_
  refine lv_iload_n hx hb dX7_consume_1 rfl (lv_at hl 1 rfl) ?_
  obtain ⟨j370002, hj370002⟩ := wG_7 (cy := cy) (N := N) (T := T) (I := I) (Q := Q) (J := J) (hM.at 0 (by decide)) (hM.k 0 (by decide) rfl)
  refine vp_callSi (W.runV (As := [.int xp]) (rest := []) ⟨hx, hb, hml, hown, hts⟩ (c_X7_isThere l dC dI cy w L K N T Q I J xp hM) (cwV 1 hts gX7_consume_X7_isThere rfl rfl rfl (by decide +kernel) ⟨Nat.le_of_ble_eq_true rfl, Nat.le_of_ble_eq_true rfl⟩) ⟨mb_blind, va_recv hK hP (ci := 7) (q0 := j370002) rfl hj370002, fun U hU hW => ⟨rfl, mb_pre hP hK hU hW⟩⟩ rfl rfl hl.1 rfl (lv_room (Nat.le_of_ble_eq_true rfl)) dX7_consume_2 ⟨Nat.le_of_ble_eq_true rfl, Nat.le_of_ble_eq_true rfl⟩) (fun r370001 hr370001 => ?_)
  have hir370001 : r370001 = sp_it (σ.1 2) xp := hr370001.trans (hMR.it _)
  refine lv_if_ne (tgt := 10) hx hb dX7_consume_5 (by decide) (fun c370003 => ?_) (fun c370003 => ?_)
  · have hth370004 := sp_it1 (by rw [← hr370001]; exact c370003)
    have kc370003 : ¬ (r370001.toInt = 0) := by have h9 := c370003; rw [xk_eq, xk_0] at h9; exact h9
    refine lv_aload_n hx hb dX7_consume_10 rfl (lv_at hl 0 rfl) ?_
    refine lv_iload_n hx hb dX7_consume_11 rfl (lv_at hl 1 rfl) ?_
    obtain ⟨j370006, hj370006⟩ := wG_7 (cy := cy) (N := N) (T := T) (I := I) (Q := Q) (J := J) (hM.at 0 (by decide)) (hM.k 0 (by decide) rfl)
    refine va_csq (W.runV (As := [.int xp]) (rest := []) ⟨hx, hb, hml, hown, hts⟩ (c_X7_own l dC dI cy w L K N T Q I J xp hM hth370004.1) (cwV 1 hts gX7_consume_X7_own rfl rfl rfl (by decide +kernel) ⟨Nat.le_of_ble_eq_true rfl, Nat.le_of_ble_eq_true rfl⟩) ⟨mb_blind, va_recv hK hP (ci := 7) (q0 := j370006) rfl hj370006, fun U hU hW => ⟨rfl, mb_pre hP hK hU hW⟩⟩ rfl rfl hl.1 rfl (lv_room (Nat.le_of_ble_eq_true rfl)) dX7_consume_12 ⟨Nat.le_of_ble_eq_true rfl, Nat.le_of_ble_eq_true rfl⟩) (fun r370005 hr370005 => ?_)
    subst hr370005
    rcases sp_ow_cs w (I (w 0) 16) (J (w 4) xp.toNatClampNeg) xp.toNatClampNeg with hon370007 | ⟨n370007, hnn370007, eln370007, hubn370007, hon370007⟩
    · refine W.eq (g2 := F0 m 15 ls [.null]) (by rw [hon370007]; rfl) ?_
      have oqn370007 := oOw_no hMR (vp_lt (n := 4) hth370004.1) hon370007
      refine lv_astoreN (lv' := [(4, .null), (0, .ref (w 0)), (1, .int xp), (2, .int xo), (3, .int cm)]) hx hb dX7_consume_15 hl (by decide) rfl (fun ls hl => ?_)
      refine lv_aloadN hx hb dX7_consume_17 (lv_at hl 0 rfl) ?_
      refine lv_ifnonnullN hx hb dX7_consume_19 ?_
      refine lv_bipush (v := (-2)) hx hb dX7_consume_22 (by decide) ?_
      exact W.iret (v := (-2)) hx hb hr (fun t ht hW => ⟨⟨(-2), (I, J), rfl, ⟨⟨hML.mono (by omega), hMD, hMU⟩, by have e9 : qCo σ xp xo cm = (σ, (-2)) := (by rw [qCo, if_neg (by have k9 := c370003; simp only [hir370001] at k9; exact k9), oqn370007]); show MR w I J _; rw [e9]; exact hMR, by have e9 : qCo σ xp xo cm = (σ, (-2)) := (by rw [qCo, if_neg (by have k9 := c370003; simp only [hir370001] at k9; exact k9), oqn370007]); show _ = _; rw [e9]⟩, by rw [ht]; exact hP, va_K.moved hW.alike hK, hD⟩, hS.F ht⟩) hS.2.2 dX7_consume_24
    · have hjn370007 : (5 * xp.toNatClampNeg + n370007) < 20 := by have h1 := vp_lt (n := 4) hth370004.1; omega
      refine W.eq (g2 := F0 m 15 ls [.ref (w (21 + (5 * xp.toNatClampNeg + n370007)))]) (by rw [hon370007]; rfl) ?_
      have oqn370007 := oOw_of hM hMR (vp_lt (n := 4) hth370004.1) hnn370007 eln370007 hubn370007
      refine lv_astore (lv' := [(4, .ref (w (21 + (5 * xp.toNatClampNeg + n370007)))), (0, .ref (w 0)), (1, .int xp), (2, .int xo), (3, .int cm)]) hx hb dX7_consume_15 hl (by decide) rfl (fun ls hl => ?_)
      refine lv_aload hx hb dX7_consume_17 (lv_at hl 0 rfl) ?_
      refine lv_ifnonnull (tgt := 25) hx hb dX7_consume_19 (by decide) ?_
      obtain ⟨ha370008, hb370008, hc370008, hd370008, he370008, hf370008⟩ := hML (5 * xp.toNatClampNeg + n370007) hjn370007
      refine lv_iload_n hx hb dX7_consume_25 rfl (lv_at hl 3 rfl) ?_
      refine lv_i2l (v := xo.toInt64) hx hb dX7_consume_26 rfl ?_
      refine lv_aload hx hb dX7_consume_27 (lv_at hl 0 rfl) ?_
      obtain ⟨j370009, hj370009⟩ := wG_6 (cy := cy) (N := N) (T := T) (I := I) (Q := Q) (J := J) (hM.lg hjn370007).1 (hM.lg hjn370007).2
      refine va_get (D := (dC, dI)) (ci := 6) (v := .int (I (w (21 + (5 * xp.toNatClampNeg + n370007))) 1)) (C := RX6) (T := TX6) (N := 7) hx hb hts hi6 hown hK hP j370009 hj370009 rfl 1 (by decide) (hts (.fieldLink RX7 134 "TallyLogsModel$Log" "start" "I") (by decide +kernel)) (fun _ h9 => h9) rfl dX7_consume_29 ?_
      refine lv_topi (fun x370010 ex370010 => ?_)
      have sx370010 : x370010 = σ.2.1 (5 * xp.toNatClampNeg + n370007) 1 := ex370010.trans (hMR.g hjn370007 (by decide) (by decide))
      have tx370010 : x370010.toInt = (I (w (21 + (5 * xp.toNatClampNeg + n370007))) 1).toInt := congrArg Int32.toInt ex370010
      refine lv_i2l (v := x370010.toInt64) hx hb dX7_consume_32 rfl ?_
      refine lv_aload hx hb dX7_consume_33 (lv_at hl 0 rfl) ?_
      obtain ⟨j370011, hj370011⟩ := wG_6 (cy := cy) (N := N) (T := T) (I := I) (Q := Q) (J := J) (hM.lg hjn370007).1 (hM.lg hjn370007).2
      refine va_get (D := (dC, dI)) (ci := 6) (v := .int (I (w (21 + (5 * xp.toNatClampNeg + n370007))) 3)) (C := RX6) (T := TX6) (N := 7) hx hb hts hi6 hown hK hP j370011 hj370011 rfl 3 (by decide) (hts (.fieldLink RX7 109 "TallyLogsModel$Log" "high" "I") (by decide +kernel)) (fun _ h9 => h9) rfl dX7_consume_35 ?_
      refine lv_topi (fun x370012 ex370012 => ?_)
      have sx370012 : x370012 = σ.2.1 (5 * xp.toNatClampNeg + n370007) 3 := ex370012.trans (hMR.g hjn370007 (by decide) (by decide))
      have tx370012 : x370012.toInt = (I (w (21 + (5 * xp.toNatClampNeg + n370007))) 3).toInt := congrArg Int32.toInt ex370012
      refine lv_i2l (v := x370012.toInt64) hx hb dX7_consume_38 rfl ?_
      refine vp_callSi (W.runS (As := [.long xo.toInt64, .long x370010.toInt64, .long x370012.toInt64]) (rest := []) ⟨hx, hb, hml, hown, hts⟩ (c_X7_in l xo.toInt64 x370010.toInt64 x370012.toInt64) (va_cwS 3 hts gX7_consume_X7_in rfl rfl rfl (by decide +kernel) ⟨Nat.le_of_ble_eq_true rfl, Nat.le_of_ble_eq_true rfl⟩) preEq rfl rfl hl.1 rfl (lv_room (Nat.le_of_ble_eq_true rfl)) dX7_consume_39 ⟨Nat.le_of_ble_eq_true rfl, Nat.le_of_ble_eq_true rfl⟩) (fun r370013 hr370013 => ?_)
      subst hr370013
      refine lv_if_ne (tgt := 47) hx hb dX7_consume_42 (by decide) (fun c370014 => ?_) (fun c370014 => ?_)
      · have hbt370015 := xin_s2 c370014
        refine lv_iload_n hx hb dX7_consume_47 rfl (lv_at hl 4 rfl) ?_
        refine lv_if_eq (tgt := 67) hx hb dX7_consume_48 (by decide) (fun c370016 => ?_) (fun c370016 => ?_)
        · have kc370016 : cm.toInt = 0 := by have h9 := c370016; rw [xk_eq, xk_0] at h9; exact h9
          refine lv_aload hx hb dX7_consume_67 (lv_at hl 0 rfl) ?_
          obtain ⟨j370017, hj370017⟩ := wG_6 (cy := cy) (N := N) (T := T) (I := I) (Q := Q) (J := J) (hM.lg hjn370007).1 (hM.lg hjn370007).2
          refine va_get (D := (dC, dI)) (ci := 6) (v := .int (I (w (21 + (5 * xp.toNatClampNeg + n370007))) 3)) (C := RX6) (T := TX6) (N := 7) hx hb hts hi6 hown hK hP j370017 hj370017 rfl 3 (by decide) (hts (.fieldLink RX7 109 "TallyLogsModel$Log" "high" "I") (by decide +kernel)) (fun _ h9 => h9) rfl dX7_consume_69 ?_
          refine lv_topi (fun x370018 ex370018 => ?_)
          have sx370018 : x370018 = σ.2.1 (5 * xp.toNatClampNeg + n370007) 3 := ex370018.trans (hMR.g hjn370007 (by decide) (by decide))
          have tx370018 : x370018.toInt = (I (w (21 + (5 * xp.toNatClampNeg + n370007))) 3).toInt := congrArg Int32.toInt ex370018
          refine lv_istore (lv' := [(5, .int x370018), (4, .ref (w (21 + (5 * xp.toNatClampNeg + n370007)))), (0, .ref (w 0)), (1, .int xp), (2, .int xo), (3, .int cm)]) hx hb dX7_consume_72 hl (by decide) rfl (fun ls hl => ?_)
          refine lv_iload_n hx hb dX7_consume_74 rfl (lv_at hl 4 rfl) ?_
          refine lv_istore (lv' := [(6, .int xo), (5, .int x370018), (4, .ref (w (21 + (5 * xp.toNatClampNeg + n370007)))), (0, .ref (w 0)), (1, .int xp), (2, .int xo), (3, .int cm)]) hx hb dX7_consume_75 hl (by decide) rfl (fun ls hl => ?_)
          have hmo : oMost σ (5 * xp.toNatClampNeg + n370007) cm = x370018 := by rw [oMost, if_pos c370016]; exact sx370018.symm
          refine wq_gen (fun Qz hQz => ?_)
          have hLP370019 : ∀ (n : Nat) (y370020 : Int32) (ls : Array Slot), ((x370018).toInt - y370020.toInt).toNat < n → 0 ≤ y370020.toInt → ((I (w (21 + (5 * xp.toNatClampNeg + n370007))) 1).toInt ≤ y370020.toInt ∧ fU (pVi σ (5 * xp.toNatClampNeg + n370007) cm) (x370018.toNatClampNeg - y370020.toNatClampNeg) y370020.toNatClampNeg = fU (pVi σ (5 * xp.toNatClampNeg + n370007) cm) (x370018.toNatClampNeg - xo.toNatClampNeg) xo.toNatClampNeg) → lv_has ls 8 [(6, .int y370020), (5, .int x370018), (4, .ref (w (21 + (5 * xp.toNatClampNeg + n370007)))), (0, .ref (w 0)), (1, .int xp), (2, .int xo), (3, .int cm)] → W p l e (headSpec wsX7_consume ({ frames := 3, cells := 0, slots := 0, locals := 73 })).room s m ([.ref (w 0), .int xp, .int xo, .int cm] : List Value).toArray below meth c s.heap [] 0 0 Qz (F0 m 77 ls []) := by
            intro n
            induction n with
            | zero => intro y370020 ls hms; exact absurd hms (Nat.not_lt_zero _)
            | succ n ih370019 =>
              intro y370020 ls hms hnn370019 hiv370019 hl
              obtain ⟨hiw, _⟩ := id hiv370019
              refine lv_iload hx hb dX7_consume_77 (lv_at hl 0 rfl) ?_
              refine lv_iload hx hb dX7_consume_79 (lv_at hl 1 rfl) ?_
              refine lv_icmp_ge (tgt := 183) hx hb dX7_consume_81 (by decide) (fun c370021 => ?_) (fun c370021 => ?_)
              · have kc370021 : x370018.toInt ≤ y370020.toInt := by have h9 := c370021; rw [xk_le] at h9; exact h9
                refine lv_bipush (v := (-2)) hx hb dX7_consume_183 (by decide) ?_
                rw [hQz]
                exact W.iret (v := (-2)) hx hb hr (fun t ht hW => ⟨⟨(-2), (I, J), rfl, ⟨⟨hML.mono (by omega), hMD, hMU⟩, by have e9 : qCo σ xp xo cm = (σ, (-2)) := (by rw [qCo, if_neg (by have k9 := c370003; simp only [hir370001] at k9; exact k9), oqn370007]; show (if _ then _ else _) = _; rw [if_neg (by have k9 := c370014; simp only [sx370010, sx370012] at k9; exact k9), hmo, ← hiv370019.2, fU_end (by rw [clT, clT]; omega)]); show MR w I J _; rw [e9]; exact hMR, by have e9 : qCo σ xp xo cm = (σ, (-2)) := (by rw [qCo, if_neg (by have k9 := c370003; simp only [hir370001] at k9; exact k9), oqn370007]; show (if _ then _ else _) = _; rw [if_neg (by have k9 := c370014; simp only [sx370010, sx370012] at k9; exact k9), hmo, ← hiv370019.2, fU_end (by rw [clT, clT]; omega)]); show _ = _; rw [e9]⟩, by rw [ht]; exact hP, va_K.moved hW.alike hK, hD⟩, hS.F ht⟩) hS.2.2 dX7_consume_185
              · have kc370021 : ¬ (x370018.toInt ≤ y370020.toInt) := by have h9 := c370021; rw [xk_le] at h9; exact h9
                refine lv_aload hx hb dX7_consume_84 (lv_at hl 2 rfl) ?_
                refine lv_iload hx hb dX7_consume_86 (lv_at hl 0 rfl) ?_
                refine lv_iconst (v := 1) hx hb dX7_consume_88 (by decide) ?_
                obtain ⟨j370023, hj370023⟩ := wG_6 (cy := cy) (N := N) (T := T) (I := I) (Q := Q) (J := J) (hM.lg hjn370007).1 (hM.lg hjn370007).2
                refine vp_callSi (W.runV (As := [.int y370020, .int 1]) (rest := []) ⟨hx, hb, hml, hown, hts⟩ (f_X6_get l dC dI cy w L K N T Q I J (5 * xp.toNatClampNeg + n370007) y370020 1 σ hM hjn370007 (by omega) (by omega) (by omega) (by omega) (by unfold vp_in; decide) hMR) (cwV 2 hts gX7_consume_X6_get rfl rfl rfl (by decide +kernel) ⟨Nat.le_of_ble_eq_true rfl, Nat.le_of_ble_eq_true rfl⟩) ⟨mb_blind, va_recv hK hP (ci := 6) (q0 := j370023) rfl hj370023, fun U hU hW => ⟨rfl, mb_pre hP hK hU hW⟩⟩ rfl rfl hl.1 rfl (lv_room (Nat.le_of_ble_eq_true rfl)) dX7_consume_89 ⟨Nat.le_of_ble_eq_true rfl, Nat.le_of_ble_eq_true rfl⟩) (fun r370022 hr370022 => ?_)
                rw [show (1 : Int32).toNatClampNeg = 1 by decide] at hr370022
                refine lv_if_ne (tgt := 177) hx hb dX7_consume_92 (by decide) (fun c370024 => ?_) (fun c370024 => ?_)
                · have kc370024 : ¬ (r370022.toInt = 0) := by have h9 := c370024; rw [xk_eq, xk_0] at h9; exact h9
                  obtain ⟨v370025, ev370025⟩ : ∃ y : Int32, y = y370020 + Int32.ofInt 1 := ⟨_, rfl⟩
                  refine lv_iinc (v := v370025) (lv' := [(6, .int v370025), (5, .int x370018), (4, .ref (w (21 + (5 * xp.toNatClampNeg + n370007)))), (0, .ref (w 0)), (1, .int xp), (2, .int xo), (3, .int cm)]) hx hb dX7_consume_177 hl (k := 0) rfl ev370025.symm (by decide) rfl (fun ls hl => ?_)
                  refine lv_goto (tgt := 77) hx hb dX7_consume_180 (by decide) ?_
                  have tv370025 : v370025.toInt = y370020.toInt + 1 := by rw [ev370025, show y370020 + Int32.ofInt 1 = y370020 + 1 from rfl]; exact xinc (y := x370018) (by rw [xk_lt]; omega)
                  exact ih370019 _ _ (by omega) (by omega) (⟨by omega, by rw [clsucc (y := y370020) (by omega) tv370025, ← fU_step (by rw [clT, clT]; omega) (fun q => c370024 (by rw [hr370022]; exact (of_decide_eq_true q).1))]; exact hiv370019.2⟩)  (lv_sub hl [0, 1, 2, 3, 4, 5, 6] rfl)
                · have kc370024 : r370022.toInt = 0 := by have h9 := c370024; rw [xk_eq, xk_0] at h9; exact h9
                  refine lv_iload_n hx hb dX7_consume_95 rfl (lv_at hl 6 rfl) ?_
                  refine lv_if_eq (tgt := 126) hx hb dX7_consume_96 (by decide) (fun c370026 => ?_) (fun c370026 => ?_)
                  · have kc370026 : cm.toInt = 0 := by have h9 := c370026; rw [xk_eq, xk_0] at h9; exact h9
                    refine lv_aload_n hx hb dX7_consume_126 rfl (lv_at hl 3 rfl) ?_
                    obtain ⟨j370027, hj370027⟩ := wG_7 (cy := cy) (N := N) (T := T) (I := I) (Q := Q) (J := J) (hM.at 0 (by decide)) (hM.k 0 (by decide) rfl)
                    refine va_get (D := (dC, dI)) (ci := 7) (v := .ref (T (w 0) 15)) (C := RX7) (T := TX7) (N := 18) hx hb hts hi7 hown hK hP j370027 hj370027 rfl 15 (by decide) (hts (.fieldLink RX7 58 "TallyLogsModel" "seen" "[I") (by decide +kernel)) (fun _ h9 => h9) rfl dX7_consume_127 ?_
                    refine W.eq (g2 := F0 m 130 ls [.ref (w 16)]) (by rw [hM.t 15 (by decide)]) ?_
                    refine lv_iconst (v := 0) hx hb dX7_consume_130 (by decide) ?_
                    refine lv_aload hx hb dX7_consume_131 (lv_at hl 2 rfl) ?_
                    refine lv_iload hx hb dX7_consume_133 (lv_at hl 0 rfl) ?_
                    refine lv_iconst (v := 0) hx hb dX7_consume_135 (by decide) ?_
                    obtain ⟨j370029, hj370029⟩ := wG_6 (cy := cy) (N := N) (T := T) (I := I) (Q := Q) (J := J) (hM.lg hjn370007).1 (hM.lg hjn370007).2
                    refine vp_callSi (W.runV (As := [.int y370020, .int 0]) (rest := [.int 0, .ref (w 16)]) ⟨hx, hb, hml, hown, hts⟩ (f_X6_get l dC dI cy w L K N T Q I J (5 * xp.toNatClampNeg + n370007) y370020 0 σ hM hjn370007 (by omega) (by omega) (by omega) (by omega) (by unfold vp_in; decide) hMR) (cwV 2 hts gX7_consume_X6_get rfl rfl rfl (by decide +kernel) ⟨Nat.le_of_ble_eq_true rfl, Nat.le_of_ble_eq_true rfl⟩) ⟨mb_blind, va_recv hK hP (ci := 6) (q0 := j370029) rfl hj370029, fun U hU hW => ⟨rfl, mb_pre hP hK hU hW⟩⟩ rfl rfl hl.1 rfl (lv_room (Nat.le_of_ble_eq_true rfl)) dX7_consume_136 ⟨Nat.le_of_ble_eq_true rfl, Nat.le_of_ble_eq_true rfl⟩) (fun r370028 hr370028 => ?_)
                    rw [show (0 : Int32).toNatClampNeg = 0 by decide] at hr370028
                    obtain ⟨j370030, hj370030⟩ := wG_20 (cy := cy) (N := N) (T := T) (I := I) (Q := Q) (J := J) (hM.at 16 (by decide)) (hM.k 16 (by decide) rfl)
                    have hDo := hD
                    refine va_iast (x := r370028) hx hb hK hP hD hS j370030 1 hj370030 rfl (hM.inN (n := 6) 16 (by decide) rfl rfl (by unfold vp_in; decide)) dX7_consume_139 (fun H locs hP hD hS => ?_)
                    have hP := Eq.mp (congrArg (fun w => va_P (dC, dI) vwCl w H) (wS_20 hDo (hM.at 16 (by decide)) (hM.k 16 (by decide) rfl) hj370030)) hP
                    obtain ⟨J370031, eJ370031⟩ : ∃ z, z = va_up J (w 16) (upd (J (w 16)) (0 : Int32).toNatClampNeg r370028) := ⟨_, rfl⟩
                    rw [← eJ370031] at hP
                    have hR : RM w [] I J I J370031 := by rw [eJ370031]; exact hR.pj hM (by decide) (by decide)
                    have hMD : MD w J370031 := by rw [eJ370031]; exact hMD.pj hM (by decide) (by decide)
                    have hD : va_D A (va_pl L (wF cy K N T I Q J370031)) := pD hDo
                    obtain ⟨sg370032, esg370032⟩ : ∃ z, z = sA σ 16 ((0 : Int32).toNatClampNeg) r370028 := ⟨_, rfl⟩
                    have hMR : MR w I J370031 sg370032 := by rw [eJ370031, esg370032]; exact hMR.wa hM (by decide) (by decide)
                    refine lv_iconst (v := 1) hx hb dX7_consume_140 (by decide) ?_
                    refine lv_istore (lv' := [(7, .int 1), (6, .int y370020), (5, .int x370018), (4, .ref (w (21 + (5 * xp.toNatClampNeg + n370007)))), (0, .ref (w 0)), (1, .int xp), (2, .int xo), (3, .int cm)]) hx hb dX7_consume_141 hl (by decide) rfl (fun ls hl => ?_)
                    have e1s : sg370032 = oSe σ (5 * xp.toNatClampNeg + n370007) y370020.toNatClampNeg (1 - 1) := by rw [esg370032, hr370028, cl_0]; rfl
                    have hLP370033 : ∀ (n k370033 : Nat) (Ia370033 Ja370033 : Nat → Nat → Int32) (H : Heap) (locs : List Loc) (ls : Array Slot), k370033 + n = 6 → (Ia370033 = I ∧ 1 ≤ k370033) → RM w [] I J Ia370033 Ja370033 → ML w E Ia370033 → MD w Ja370033 → MU w Ia370033 → MR w Ia370033 Ja370033 (oSe σ (5 * xp.toNatClampNeg + n370007) y370020.toNatClampNeg (k370033 - 1)) →  va_P (dC, dI) vwCl (va_pl L (wF cy K N T Ia370033 Q Ja370033)) H → va_D A (va_pl L (wF cy K N T Ia370033 Q Ja370033)) → va_S A s.heap H locs → lv_has ls 8 [(7, .int (nI k370033)), (6, .int y370020), (5, .int x370018), (4, .ref (w (21 + (5 * xp.toNatClampNeg + n370007)))), (0, .ref (w 0)), (1, .int xp), (2, .int xo), (3, .int cm)] → W p l e (headSpec wsX7_consume ({ frames := 3, cells := 0, slots := 0, locals := 73 })).room s m ([.ref (w 0), .int xp, .int xo, .int cm] : List Value).toArray below meth c H locs 0 0 Qz (F0 m 143 ls []) := by
                      intro n
                      induction n with
                      | zero =>
                        intro k370033  Ia370033 Ja370033 H locs ls hkn370033 hiv370033 hR hML hMD hMU hMR hP hD hS hl
                        obtain rfl : k370033 = 6 := by omega
                        refine lv_iload hx hb dX7_consume_143 (lv_at hl 0 rfl) ?_
                        refine lv_bipush (v := 6) hx hb dX7_consume_145 (by decide) ?_
                        refine lv_icmp_ge (tgt := 174) hx hb dX7_consume_147 (by decide) (fun c370034 => ?_) (fun c370034 => ?_)
                        rotate_left
                        · exact absurd (by decide) c370034
                        refine lv_iload hx hb dX7_consume_174 (lv_at hl 1 rfl) ?_
                        rw [hQz]
                        exact W.iret (v := y370020) hx hb hr (fun t ht hW => ⟨⟨y370020, (Ia370033, Ja370033), rfl, ⟨⟨hML.mono (by omega), hMD, hMU⟩, by have e9 : qCo σ xp xo cm = ((oSe σ (5 * xp.toNatClampNeg + n370007) y370020.toNatClampNeg (6 - 1)), y370020) := (by rw [qCo, if_neg (by have k9 := c370003; simp only [hir370001] at k9; exact k9), oqn370007]; show (if _ then _ else _) = _; rw [if_neg (by have k9 := c370014; simp only [sx370010, sx370012] at k9; exact k9), hmo, ← hiv370019.2, fU_hit (by rw [clT, clT]; omega) (decide_eq_true ⟨by rw [← hr370022]; exact c370024, fun q => q.1 c370026⟩)]; show (_, nI _) = (_, _); rw [nI, ← xcl9 (by omega)]); show MR w Ia370033 Ja370033 _; rw [e9]; exact hMR, by have e9 : qCo σ xp xo cm = ((oSe σ (5 * xp.toNatClampNeg + n370007) y370020.toNatClampNeg (6 - 1)), y370020) := (by rw [qCo, if_neg (by have k9 := c370003; simp only [hir370001] at k9; exact k9), oqn370007]; show (if _ then _ else _) = _; rw [if_neg (by have k9 := c370014; simp only [sx370010, sx370012] at k9; exact k9), hmo, ← hiv370019.2, fU_hit (by rw [clT, clT]; omega) (decide_eq_true ⟨by rw [← hr370022]; exact c370024, fun q => q.1 c370026⟩)]; show (_, nI _) = (_, _); rw [nI, ← xcl9 (by omega)]); show _ = _; rw [e9]⟩, by rw [ht]; exact hP, va_K.moved hW.alike hK, hD⟩, hS.F ht⟩) hS.2.2 dX7_consume_176
                      | succ n ih370033 =>
                        intro k370033  Ia370033 Ja370033 H locs ls hkn370033 hiv370033 hR hML hMD hMU hMR hP hD hS hl
                        have hkc370033 : (nI k370033).toNatClampNeg = k370033 := nI_clamp (by omega)
                        have hki370033 : vp_in (nI k370033) 6 := nI_in (by omega) (by decide)
                        refine lv_iload hx hb dX7_consume_143 (lv_at hl 0 rfl) ?_
                        refine lv_bipush (v := 6) hx hb dX7_consume_145 (by decide) ?_
                        refine lv_icmp_ge (tgt := 174) hx hb dX7_consume_147 (by decide) (fun c370035 => ?_) (fun c370035 => ?_)
                        · exact absurd c370035 (nI_ge (b := 6) (by omega) (by decide))
                        refine lv_aload_n hx hb dX7_consume_150 rfl (lv_at hl 4 rfl) ?_
                        obtain ⟨j370036, hj370036⟩ := wG_7 (cy := cy) (N := N) (T := T) (I := Ia370033) (Q := Q) (J := Ja370033) (hM.at 0 (by decide)) (hM.k 0 (by decide) rfl)
                        refine va_get (D := (dC, dI)) (ci := 7) (v := .ref (T (w 0) 15)) (C := RX7) (T := TX7) (N := 18) hx hb hts hi7 hown hK hP j370036 hj370036 rfl 15 (by decide) (hts (.fieldLink RX7 58 "TallyLogsModel" "seen" "[I") (by decide +kernel)) (fun _ h9 => h9) rfl dX7_consume_151 ?_
                        refine W.eq (g2 := F0 m 154 ls [.ref (w 16)]) (by rw [hM.t 15 (by decide)]) ?_
                        refine lv_iload hx hb dX7_consume_154 (lv_at hl 0 rfl) ?_
                        refine lv_aload hx hb dX7_consume_156 (lv_at hl 3 rfl) ?_
                        refine lv_iload hx hb dX7_consume_158 (lv_at hl 1 rfl) ?_
                        refine lv_iload hx hb dX7_consume_160 (lv_at hl 0 rfl) ?_
                        refine lv_iconst (v := 1) hx hb dX7_consume_162 (by decide) ?_
                        refine lv_iadd hx hb dX7_consume_163 ?_
                        refine lv_topi (fun v370037 ev370037 => ?_)
                        have hin370038 : vp_in v370037 8 := by rw [ev370037, show (nI k370033 + 1 : Int32) = nI (k370033 + 1) from nI_add k370033 1]; exact nI_in (by omega) (by decide)
                        obtain ⟨j370040, hj370040⟩ := wG_6 (cy := cy) (N := N) (T := T) (I := Ia370033) (Q := Q) (J := Ja370033) (hM.lg hjn370007).1 (hM.lg hjn370007).2
                        refine vp_callSi (W.runV (As := [.int y370020, .int v370037]) (rest := [.int (nI k370033), .ref (w 16)]) ⟨hx, hb, hml, hown, hts⟩ (f_X6_get l dC dI cy w L K N T Q Ia370033 Ja370033 (5 * xp.toNatClampNeg + n370007) y370020 v370037 (oSe σ (5 * xp.toNatClampNeg + n370007) y370020.toNatClampNeg (k370033 - 1)) hM hjn370007 (by rw [hiv370033.1]; omega) (by rw [hiv370033.1]; omega) (by rw [hiv370033.1]; omega) (by rw [hiv370033.1]; omega) hin370038 hMR) (cwV 2 hts gX7_consume_X6_get rfl rfl rfl (by decide +kernel) ⟨Nat.le_of_ble_eq_true rfl, Nat.le_of_ble_eq_true rfl⟩) ⟨mb_blind, va_recv hK hP (ci := 6) (q0 := j370040) rfl hj370040, fun U hU hW => ⟨rfl, mb_pre hP hK hU hW⟩⟩ rfl rfl hl.1 rfl (lv_room (Nat.le_of_ble_eq_true rfl)) dX7_consume_164 ⟨Nat.le_of_ble_eq_true rfl, Nat.le_of_ble_eq_true rfl⟩) (fun r370039 hr370039 => ?_)
                        obtain ⟨j370041, hj370041⟩ := wG_20 (cy := cy) (N := N) (T := T) (I := Ia370033) (Q := Q) (J := Ja370033) (hM.at 16 (by decide)) (hM.k 16 (by decide) rfl)
                        have hDo := hD
                        refine va_iast (x := r370039) hx hb hK hP hD hS j370041 1 hj370041 rfl (hM.inN (n := 6) 16 (by decide) rfl rfl hki370033) dX7_consume_167 (fun H locs hP hD hS => ?_)
                        have hP := Eq.mp (congrArg (fun w => va_P (dC, dI) vwCl w H) (wS_20 hDo (hM.at 16 (by decide)) (hM.k 16 (by decide) rfl) hj370041)) hP
                        obtain ⟨J370042, eJ370042⟩ : ∃ z, z = va_up Ja370033 (w 16) (upd (Ja370033 (w 16)) (nI k370033).toNatClampNeg r370039) := ⟨_, rfl⟩
                        rw [← eJ370042] at hP
                        have hR : RM w [] I J Ia370033 J370042 := by rw [eJ370042]; exact hR.pj hM (by decide) (by decide)
                        have hMD : MD w J370042 := by rw [eJ370042]; exact hMD.pj hM (by decide) (by decide)
                        have hD : va_D A (va_pl L (wF cy K N T Ia370033 Q J370042)) := pD hDo
                        obtain ⟨sg370043, esg370043⟩ : ∃ z, z = sA (oSe σ (5 * xp.toNatClampNeg + n370007) y370020.toNatClampNeg (k370033 - 1)) 16 ((nI k370033).toNatClampNeg) r370039 := ⟨_, rfl⟩
                        have hMR : MR w Ia370033 J370042 sg370043 := by rw [eJ370042, esg370043]; exact hMR.wa hM (by decide) (by decide)
                        obtain ⟨v370044, ev370044⟩ : ∃ y : Int32, y = (nI k370033) + Int32.ofInt 1 := ⟨_, rfl⟩
                        refine lv_iinc (v := v370044) (lv' := [(7, .int v370044), (6, .int y370020), (5, .int x370018), (4, .ref (w (21 + (5 * xp.toNatClampNeg + n370007)))), (0, .ref (w 0)), (1, .int xp), (2, .int xo), (3, .int cm)]) hx hb dX7_consume_168 hl (k := 0) rfl ev370044.symm (by decide) rfl (fun ls hl => ?_)
                        refine lv_goto (tgt := 143) hx hb dX7_consume_171 (by decide) ?_
                        obtain rfl : v370044 = nI (k370033 + 1) := ev370044.trans (nI_add k370033 1)
                        have e9 : oSe σ (5 * xp.toNatClampNeg + n370007) y370020.toNatClampNeg (k370033 + 1 - 1) = sg370043 := by
                          have ef : v370037.toNatClampNeg = k370033 - 1 + 2 := by rw [ev370037]; rw [show (nI k370033 + 1 : Int32) = nI (k370033 + 1) from nI_add k370033 1, nI_clamp (by omega)]; omega
                          obtain ⟨i, hi⟩ : ∃ i, k370033 = i + 1 := ⟨k370033 - 1, by omega⟩
                          rw [esg370043, hkc370033, hr370039, ef, oSe_2]
                          rw [hi]
                          rfl
                        exact ih370033 (k370033 + 1)  _ _ _ _ _ (by omega) (⟨hiv370033.1, by omega⟩) hR (hML.mono (by omega)) hMD hMU (by rw [e9]; exact hMR) hP hD hS (lv_sub hl [0, 1, 2, 3, 4, 5, 6, 7] rfl)
                    exact hLP370033 5 1  _ _ _ _ _ rfl (⟨rfl, by decide⟩) hR (hML.mono (by omega)) hMD hMU (by rw [← e1s]; exact hMR) hP hD hS (lv_sub hl [0, 1, 2, 3, 4, 5, 6, 7] rfl)
                  · have kc370026 : ¬ (cm.toInt = 0) := by have h9 := c370026; rw [xk_eq, xk_0] at h9; exact h9
                    refine lv_aload hx hb dX7_consume_99 (lv_at hl 2 rfl) ?_
                    refine lv_iload hx hb dX7_consume_101 (lv_at hl 0 rfl) ?_
                    refine lv_bipush (v := 7) hx hb dX7_consume_103 (by decide) ?_
                    obtain ⟨j370046, hj370046⟩ := wG_6 (cy := cy) (N := N) (T := T) (I := I) (Q := Q) (J := J) (hM.lg hjn370007).1 (hM.lg hjn370007).2
                    refine vp_callSi (W.runV (As := [.int y370020, .int 7]) (rest := []) ⟨hx, hb, hml, hown, hts⟩ (f_X6_get l dC dI cy w L K N T Q I J (5 * xp.toNatClampNeg + n370007) y370020 7 σ hM hjn370007 (by omega) (by omega) (by omega) (by omega) (by unfold vp_in; decide) hMR) (cwV 2 hts gX7_consume_X6_get rfl rfl rfl (by decide +kernel) ⟨Nat.le_of_ble_eq_true rfl, Nat.le_of_ble_eq_true rfl⟩) ⟨mb_blind, va_recv hK hP (ci := 6) (q0 := j370046) rfl hj370046, fun U hU hW => ⟨rfl, mb_pre hP hK hU hW⟩⟩ rfl rfl hl.1 rfl (lv_room (Nat.le_of_ble_eq_true rfl)) dX7_consume_105 ⟨Nat.le_of_ble_eq_true rfl, Nat.le_of_ble_eq_true rfl⟩) (fun r370045 hr370045 => ?_)
                    rw [show (7 : Int32).toNatClampNeg = 7 by decide] at hr370045
                    refine lv_iconst (v := 1) hx hb dX7_consume_108 (by decide) ?_
                    refine lv_icmp_ne (tgt := 126) hx hb dX7_consume_109 (by decide) (fun c370047 => ?_) (fun c370047 => ?_)
                    · have kc370047 : ¬ (r370045.toInt = 1) := by have h9 := c370047; rw [xk_eq, xk_1] at h9; exact h9
                      refine lv_aload_n hx hb dX7_consume_126 rfl (lv_at hl 3 rfl) ?_
                      obtain ⟨j370048, hj370048⟩ := wG_7 (cy := cy) (N := N) (T := T) (I := I) (Q := Q) (J := J) (hM.at 0 (by decide)) (hM.k 0 (by decide) rfl)
                      refine va_get (D := (dC, dI)) (ci := 7) (v := .ref (T (w 0) 15)) (C := RX7) (T := TX7) (N := 18) hx hb hts hi7 hown hK hP j370048 hj370048 rfl 15 (by decide) (hts (.fieldLink RX7 58 "TallyLogsModel" "seen" "[I") (by decide +kernel)) (fun _ h9 => h9) rfl dX7_consume_127 ?_
                      refine W.eq (g2 := F0 m 130 ls [.ref (w 16)]) (by rw [hM.t 15 (by decide)]) ?_
                      refine lv_iconst (v := 0) hx hb dX7_consume_130 (by decide) ?_
                      refine lv_aload hx hb dX7_consume_131 (lv_at hl 2 rfl) ?_
                      refine lv_iload hx hb dX7_consume_133 (lv_at hl 0 rfl) ?_
                      refine lv_iconst (v := 0) hx hb dX7_consume_135 (by decide) ?_
                      obtain ⟨j370050, hj370050⟩ := wG_6 (cy := cy) (N := N) (T := T) (I := I) (Q := Q) (J := J) (hM.lg hjn370007).1 (hM.lg hjn370007).2
                      refine vp_callSi (W.runV (As := [.int y370020, .int 0]) (rest := [.int 0, .ref (w 16)]) ⟨hx, hb, hml, hown, hts⟩ (f_X6_get l dC dI cy w L K N T Q I J (5 * xp.toNatClampNeg + n370007) y370020 0 σ hM hjn370007 (by omega) (by omega) (by omega) (by omega) (by unfold vp_in; decide) hMR) (cwV 2 hts gX7_consume_X6_get rfl rfl rfl (by decide +kernel) ⟨Nat.le_of_ble_eq_true rfl, Nat.le_of_ble_eq_true rfl⟩) ⟨mb_blind, va_recv hK hP (ci := 6) (q0 := j370050) rfl hj370050, fun U hU hW => ⟨rfl, mb_pre hP hK hU hW⟩⟩ rfl rfl hl.1 rfl (lv_room (Nat.le_of_ble_eq_true rfl)) dX7_consume_136 ⟨Nat.le_of_ble_eq_true rfl, Nat.le_of_ble_eq_true rfl⟩) (fun r370049 hr370049 => ?_)
                      rw [show (0 : Int32).toNatClampNeg = 0 by decide] at hr370049
                      obtain ⟨j370051, hj370051⟩ := wG_20 (cy := cy) (N := N) (T := T) (I := I) (Q := Q) (J := J) (hM.at 16 (by decide)) (hM.k 16 (by decide) rfl)
                      have hDo := hD
                      refine va_iast (x := r370049) hx hb hK hP hD hS j370051 1 hj370051 rfl (hM.inN (n := 6) 16 (by decide) rfl rfl (by unfold vp_in; decide)) dX7_consume_139 (fun H locs hP hD hS => ?_)
                      have hP := Eq.mp (congrArg (fun w => va_P (dC, dI) vwCl w H) (wS_20 hDo (hM.at 16 (by decide)) (hM.k 16 (by decide) rfl) hj370051)) hP
                      obtain ⟨J370052, eJ370052⟩ : ∃ z, z = va_up J (w 16) (upd (J (w 16)) (0 : Int32).toNatClampNeg r370049) := ⟨_, rfl⟩
                      rw [← eJ370052] at hP
                      have hR : RM w [] I J I J370052 := by rw [eJ370052]; exact hR.pj hM (by decide) (by decide)
                      have hMD : MD w J370052 := by rw [eJ370052]; exact hMD.pj hM (by decide) (by decide)
                      have hD : va_D A (va_pl L (wF cy K N T I Q J370052)) := pD hDo
                      obtain ⟨sg370053, esg370053⟩ : ∃ z, z = sA σ 16 ((0 : Int32).toNatClampNeg) r370049 := ⟨_, rfl⟩
                      have hMR : MR w I J370052 sg370053 := by rw [eJ370052, esg370053]; exact hMR.wa hM (by decide) (by decide)
                      refine lv_iconst (v := 1) hx hb dX7_consume_140 (by decide) ?_
                      refine lv_istore (lv' := [(7, .int 1), (6, .int y370020), (5, .int x370018), (4, .ref (w (21 + (5 * xp.toNatClampNeg + n370007)))), (0, .ref (w 0)), (1, .int xp), (2, .int xo), (3, .int cm)]) hx hb dX7_consume_141 hl (by decide) rfl (fun ls hl => ?_)
                      have e1s : sg370053 = oSe σ (5 * xp.toNatClampNeg + n370007) y370020.toNatClampNeg (1 - 1) := by rw [esg370053, hr370049, cl_0]; rfl
                      have hLP370054 : ∀ (n k370054 : Nat) (Ia370054 Ja370054 : Nat → Nat → Int32) (H : Heap) (locs : List Loc) (ls : Array Slot), k370054 + n = 6 → (Ia370054 = I ∧ 1 ≤ k370054) → RM w [] I J Ia370054 Ja370054 → ML w E Ia370054 → MD w Ja370054 → MU w Ia370054 → MR w Ia370054 Ja370054 (oSe σ (5 * xp.toNatClampNeg + n370007) y370020.toNatClampNeg (k370054 - 1)) →  va_P (dC, dI) vwCl (va_pl L (wF cy K N T Ia370054 Q Ja370054)) H → va_D A (va_pl L (wF cy K N T Ia370054 Q Ja370054)) → va_S A s.heap H locs → lv_has ls 8 [(7, .int (nI k370054)), (6, .int y370020), (5, .int x370018), (4, .ref (w (21 + (5 * xp.toNatClampNeg + n370007)))), (0, .ref (w 0)), (1, .int xp), (2, .int xo), (3, .int cm)] → W p l e (headSpec wsX7_consume ({ frames := 3, cells := 0, slots := 0, locals := 73 })).room s m ([.ref (w 0), .int xp, .int xo, .int cm] : List Value).toArray below meth c H locs 0 0 Qz (F0 m 143 ls []) := by
                        intro n
                        induction n with
                        | zero =>
                          intro k370054  Ia370054 Ja370054 H locs ls hkn370054 hiv370054 hR hML hMD hMU hMR hP hD hS hl
                          obtain rfl : k370054 = 6 := by omega
                          refine lv_iload hx hb dX7_consume_143 (lv_at hl 0 rfl) ?_
                          refine lv_bipush (v := 6) hx hb dX7_consume_145 (by decide) ?_
                          refine lv_icmp_ge (tgt := 174) hx hb dX7_consume_147 (by decide) (fun c370055 => ?_) (fun c370055 => ?_)
                          rotate_left
                          · exact absurd (by decide) c370055
                          refine lv_iload hx hb dX7_consume_174 (lv_at hl 1 rfl) ?_
                          rw [hQz]
                          exact W.iret (v := y370020) hx hb hr (fun t ht hW => ⟨⟨y370020, (Ia370054, Ja370054), rfl, ⟨⟨hML.mono (by omega), hMD, hMU⟩, by have e9 : qCo σ xp xo cm = ((oSe σ (5 * xp.toNatClampNeg + n370007) y370020.toNatClampNeg (6 - 1)), y370020) := (by rw [qCo, if_neg (by have k9 := c370003; simp only [hir370001] at k9; exact k9), oqn370007]; show (if _ then _ else _) = _; rw [if_neg (by have k9 := c370014; simp only [sx370010, sx370012] at k9; exact k9), hmo, ← hiv370019.2, fU_hit (by rw [clT, clT]; omega) (decide_eq_true ⟨by rw [← hr370022]; exact c370024, fun q => c370047 (by rw [hr370045]; exact q.2.1)⟩)]; show (_, nI _) = (_, _); rw [nI, ← xcl9 (by omega)]); show MR w Ia370054 Ja370054 _; rw [e9]; exact hMR, by have e9 : qCo σ xp xo cm = ((oSe σ (5 * xp.toNatClampNeg + n370007) y370020.toNatClampNeg (6 - 1)), y370020) := (by rw [qCo, if_neg (by have k9 := c370003; simp only [hir370001] at k9; exact k9), oqn370007]; show (if _ then _ else _) = _; rw [if_neg (by have k9 := c370014; simp only [sx370010, sx370012] at k9; exact k9), hmo, ← hiv370019.2, fU_hit (by rw [clT, clT]; omega) (decide_eq_true ⟨by rw [← hr370022]; exact c370024, fun q => c370047 (by rw [hr370045]; exact q.2.1)⟩)]; show (_, nI _) = (_, _); rw [nI, ← xcl9 (by omega)]); show _ = _; rw [e9]⟩, by rw [ht]; exact hP, va_K.moved hW.alike hK, hD⟩, hS.F ht⟩) hS.2.2 dX7_consume_176
                        | succ n ih370054 =>
                          intro k370054  Ia370054 Ja370054 H locs ls hkn370054 hiv370054 hR hML hMD hMU hMR hP hD hS hl
                          have hkc370054 : (nI k370054).toNatClampNeg = k370054 := nI_clamp (by omega)
                          have hki370054 : vp_in (nI k370054) 6 := nI_in (by omega) (by decide)
                          refine lv_iload hx hb dX7_consume_143 (lv_at hl 0 rfl) ?_
                          refine lv_bipush (v := 6) hx hb dX7_consume_145 (by decide) ?_
                          refine lv_icmp_ge (tgt := 174) hx hb dX7_consume_147 (by decide) (fun c370056 => ?_) (fun c370056 => ?_)
                          · exact absurd c370056 (nI_ge (b := 6) (by omega) (by decide))
                          refine lv_aload_n hx hb dX7_consume_150 rfl (lv_at hl 4 rfl) ?_
                          obtain ⟨j370057, hj370057⟩ := wG_7 (cy := cy) (N := N) (T := T) (I := Ia370054) (Q := Q) (J := Ja370054) (hM.at 0 (by decide)) (hM.k 0 (by decide) rfl)
                          refine va_get (D := (dC, dI)) (ci := 7) (v := .ref (T (w 0) 15)) (C := RX7) (T := TX7) (N := 18) hx hb hts hi7 hown hK hP j370057 hj370057 rfl 15 (by decide) (hts (.fieldLink RX7 58 "TallyLogsModel" "seen" "[I") (by decide +kernel)) (fun _ h9 => h9) rfl dX7_consume_151 ?_
                          refine W.eq (g2 := F0 m 154 ls [.ref (w 16)]) (by rw [hM.t 15 (by decide)]) ?_
                          refine lv_iload hx hb dX7_consume_154 (lv_at hl 0 rfl) ?_
                          refine lv_aload hx hb dX7_consume_156 (lv_at hl 3 rfl) ?_
                          refine lv_iload hx hb dX7_consume_158 (lv_at hl 1 rfl) ?_
                          refine lv_iload hx hb dX7_consume_160 (lv_at hl 0 rfl) ?_
                          refine lv_iconst (v := 1) hx hb dX7_consume_162 (by decide) ?_
                          refine lv_iadd hx hb dX7_consume_163 ?_
                          refine lv_topi (fun v370058 ev370058 => ?_)
                          have hin370059 : vp_in v370058 8 := by rw [ev370058, show (nI k370054 + 1 : Int32) = nI (k370054 + 1) from nI_add k370054 1]; exact nI_in (by omega) (by decide)
                          obtain ⟨j370061, hj370061⟩ := wG_6 (cy := cy) (N := N) (T := T) (I := Ia370054) (Q := Q) (J := Ja370054) (hM.lg hjn370007).1 (hM.lg hjn370007).2
                          refine vp_callSi (W.runV (As := [.int y370020, .int v370058]) (rest := [.int (nI k370054), .ref (w 16)]) ⟨hx, hb, hml, hown, hts⟩ (f_X6_get l dC dI cy w L K N T Q Ia370054 Ja370054 (5 * xp.toNatClampNeg + n370007) y370020 v370058 (oSe σ (5 * xp.toNatClampNeg + n370007) y370020.toNatClampNeg (k370054 - 1)) hM hjn370007 (by rw [hiv370054.1]; omega) (by rw [hiv370054.1]; omega) (by rw [hiv370054.1]; omega) (by rw [hiv370054.1]; omega) hin370059 hMR) (cwV 2 hts gX7_consume_X6_get rfl rfl rfl (by decide +kernel) ⟨Nat.le_of_ble_eq_true rfl, Nat.le_of_ble_eq_true rfl⟩) ⟨mb_blind, va_recv hK hP (ci := 6) (q0 := j370061) rfl hj370061, fun U hU hW => ⟨rfl, mb_pre hP hK hU hW⟩⟩ rfl rfl hl.1 rfl (lv_room (Nat.le_of_ble_eq_true rfl)) dX7_consume_164 ⟨Nat.le_of_ble_eq_true rfl, Nat.le_of_ble_eq_true rfl⟩) (fun r370060 hr370060 => ?_)
                          obtain ⟨j370062, hj370062⟩ := wG_20 (cy := cy) (N := N) (T := T) (I := Ia370054) (Q := Q) (J := Ja370054) (hM.at 16 (by decide)) (hM.k 16 (by decide) rfl)
                          have hDo := hD
                          refine va_iast (x := r370060) hx hb hK hP hD hS j370062 1 hj370062 rfl (hM.inN (n := 6) 16 (by decide) rfl rfl hki370054) dX7_consume_167 (fun H locs hP hD hS => ?_)
                          have hP := Eq.mp (congrArg (fun w => va_P (dC, dI) vwCl w H) (wS_20 hDo (hM.at 16 (by decide)) (hM.k 16 (by decide) rfl) hj370062)) hP
                          obtain ⟨J370063, eJ370063⟩ : ∃ z, z = va_up Ja370054 (w 16) (upd (Ja370054 (w 16)) (nI k370054).toNatClampNeg r370060) := ⟨_, rfl⟩
                          rw [← eJ370063] at hP
                          have hR : RM w [] I J Ia370054 J370063 := by rw [eJ370063]; exact hR.pj hM (by decide) (by decide)
                          have hMD : MD w J370063 := by rw [eJ370063]; exact hMD.pj hM (by decide) (by decide)
                          have hD : va_D A (va_pl L (wF cy K N T Ia370054 Q J370063)) := pD hDo
                          obtain ⟨sg370064, esg370064⟩ : ∃ z, z = sA (oSe σ (5 * xp.toNatClampNeg + n370007) y370020.toNatClampNeg (k370054 - 1)) 16 ((nI k370054).toNatClampNeg) r370060 := ⟨_, rfl⟩
                          have hMR : MR w Ia370054 J370063 sg370064 := by rw [eJ370063, esg370064]; exact hMR.wa hM (by decide) (by decide)
                          obtain ⟨v370065, ev370065⟩ : ∃ y : Int32, y = (nI k370054) + Int32.ofInt 1 := ⟨_, rfl⟩
                          refine lv_iinc (v := v370065) (lv' := [(7, .int v370065), (6, .int y370020), (5, .int x370018), (4, .ref (w (21 + (5 * xp.toNatClampNeg + n370007)))), (0, .ref (w 0)), (1, .int xp), (2, .int xo), (3, .int cm)]) hx hb dX7_consume_168 hl (k := 0) rfl ev370065.symm (by decide) rfl (fun ls hl => ?_)
                          refine lv_goto (tgt := 143) hx hb dX7_consume_171 (by decide) ?_
                          obtain rfl : v370065 = nI (k370054 + 1) := ev370065.trans (nI_add k370054 1)
                          have e9 : oSe σ (5 * xp.toNatClampNeg + n370007) y370020.toNatClampNeg (k370054 + 1 - 1) = sg370064 := by
                            have ef : v370058.toNatClampNeg = k370054 - 1 + 2 := by rw [ev370058]; rw [show (nI k370054 + 1 : Int32) = nI (k370054 + 1) from nI_add k370054 1, nI_clamp (by omega)]; omega
                            obtain ⟨i, hi⟩ : ∃ i, k370054 = i + 1 := ⟨k370054 - 1, by omega⟩
                            rw [esg370064, hkc370054, hr370060, ef, oSe_2]
                            rw [hi]
                            rfl
                          exact ih370054 (k370054 + 1)  _ _ _ _ _ (by omega) (⟨hiv370054.1, by omega⟩) hR (hML.mono (by omega)) hMD hMU (by rw [e9]; exact hMR) hP hD hS (lv_sub hl [0, 1, 2, 3, 4, 5, 6, 7] rfl)
                      exact hLP370054 5 1  _ _ _ _ _ rfl (⟨rfl, by decide⟩) hR (hML.mono (by omega)) hMD hMU (by rw [← e1s]; exact hMR) hP hD hS (lv_sub hl [0, 1, 2, 3, 4, 5, 6, 7] rfl)
                    · have kc370047 : r370045.toInt = 1 := by have h9 := c370047; rw [xk_eq, xk_1] at h9; exact h9
                      refine lv_aload hx hb dX7_consume_112 (lv_at hl 2 rfl) ?_
                      refine lv_iload hx hb dX7_consume_114 (lv_at hl 0 rfl) ?_
                      refine vp_callSi (W.runS (As := [.ref (w (21 + (5 * xp.toNatClampNeg + n370007))), .int y370020]) (rest := []) ⟨hx, hb, hml, hown, hts⟩ (f_X7_endOf l dC dI cy w L K N T Q I J (5 * xp.toNatClampNeg + n370007) y370020 σ hM hjn370007 (by omega) (by omega) (by omega) (by omega) hMR) (va_cwS 2 hts gX7_consume_X7_endOf rfl rfl rfl (by decide +kernel) ⟨Nat.le_of_ble_eq_true rfl, Nat.le_of_ble_eq_true rfl⟩) ⟨mb_blind, fun U hU hW => ⟨rfl, mb_pre hP hK hU hW⟩⟩ rfl rfl hl.1 rfl (lv_room (Nat.le_of_ble_eq_true rfl)) dX7_consume_116 ⟨Nat.le_of_ble_eq_true rfl, Nat.le_of_ble_eq_true rfl⟩) (fun r370066 hr370066 => ?_)
                      refine lv_iconst (v := 2) hx hb dX7_consume_119 (by decide) ?_
                      refine lv_icmp_ne (tgt := 126) hx hb dX7_consume_120 (by decide) (fun c370067 => ?_) (fun c370067 => ?_)
                      · have kc370067 : ¬ (r370066.toInt = 2) := by have h9 := c370067; rw [xk_eq, xk_2] at h9; exact h9
                        refine lv_aload_n hx hb dX7_consume_126 rfl (lv_at hl 3 rfl) ?_
                        obtain ⟨j370068, hj370068⟩ := wG_7 (cy := cy) (N := N) (T := T) (I := I) (Q := Q) (J := J) (hM.at 0 (by decide)) (hM.k 0 (by decide) rfl)
                        refine va_get (D := (dC, dI)) (ci := 7) (v := .ref (T (w 0) 15)) (C := RX7) (T := TX7) (N := 18) hx hb hts hi7 hown hK hP j370068 hj370068 rfl 15 (by decide) (hts (.fieldLink RX7 58 "TallyLogsModel" "seen" "[I") (by decide +kernel)) (fun _ h9 => h9) rfl dX7_consume_127 ?_
                        refine W.eq (g2 := F0 m 130 ls [.ref (w 16)]) (by rw [hM.t 15 (by decide)]) ?_
                        refine lv_iconst (v := 0) hx hb dX7_consume_130 (by decide) ?_
                        refine lv_aload hx hb dX7_consume_131 (lv_at hl 2 rfl) ?_
                        refine lv_iload hx hb dX7_consume_133 (lv_at hl 0 rfl) ?_
                        refine lv_iconst (v := 0) hx hb dX7_consume_135 (by decide) ?_
                        obtain ⟨j370070, hj370070⟩ := wG_6 (cy := cy) (N := N) (T := T) (I := I) (Q := Q) (J := J) (hM.lg hjn370007).1 (hM.lg hjn370007).2
                        refine vp_callSi (W.runV (As := [.int y370020, .int 0]) (rest := [.int 0, .ref (w 16)]) ⟨hx, hb, hml, hown, hts⟩ (f_X6_get l dC dI cy w L K N T Q I J (5 * xp.toNatClampNeg + n370007) y370020 0 σ hM hjn370007 (by omega) (by omega) (by omega) (by omega) (by unfold vp_in; decide) hMR) (cwV 2 hts gX7_consume_X6_get rfl rfl rfl (by decide +kernel) ⟨Nat.le_of_ble_eq_true rfl, Nat.le_of_ble_eq_true rfl⟩) ⟨mb_blind, va_recv hK hP (ci := 6) (q0 := j370070) rfl hj370070, fun U hU hW => ⟨rfl, mb_pre hP hK hU hW⟩⟩ rfl rfl hl.1 rfl (lv_room (Nat.le_of_ble_eq_true rfl)) dX7_consume_136 ⟨Nat.le_of_ble_eq_true rfl, Nat.le_of_ble_eq_true rfl⟩) (fun r370069 hr370069 => ?_)
                        rw [show (0 : Int32).toNatClampNeg = 0 by decide] at hr370069
                        obtain ⟨j370071, hj370071⟩ := wG_20 (cy := cy) (N := N) (T := T) (I := I) (Q := Q) (J := J) (hM.at 16 (by decide)) (hM.k 16 (by decide) rfl)
                        have hDo := hD
                        refine va_iast (x := r370069) hx hb hK hP hD hS j370071 1 hj370071 rfl (hM.inN (n := 6) 16 (by decide) rfl rfl (by unfold vp_in; decide)) dX7_consume_139 (fun H locs hP hD hS => ?_)
                        have hP := Eq.mp (congrArg (fun w => va_P (dC, dI) vwCl w H) (wS_20 hDo (hM.at 16 (by decide)) (hM.k 16 (by decide) rfl) hj370071)) hP
                        obtain ⟨J370072, eJ370072⟩ : ∃ z, z = va_up J (w 16) (upd (J (w 16)) (0 : Int32).toNatClampNeg r370069) := ⟨_, rfl⟩
                        rw [← eJ370072] at hP
                        have hR : RM w [] I J I J370072 := by rw [eJ370072]; exact hR.pj hM (by decide) (by decide)
                        have hMD : MD w J370072 := by rw [eJ370072]; exact hMD.pj hM (by decide) (by decide)
                        have hD : va_D A (va_pl L (wF cy K N T I Q J370072)) := pD hDo
                        obtain ⟨sg370073, esg370073⟩ : ∃ z, z = sA σ 16 ((0 : Int32).toNatClampNeg) r370069 := ⟨_, rfl⟩
                        have hMR : MR w I J370072 sg370073 := by rw [eJ370072, esg370073]; exact hMR.wa hM (by decide) (by decide)
                        refine lv_iconst (v := 1) hx hb dX7_consume_140 (by decide) ?_
                        refine lv_istore (lv' := [(7, .int 1), (6, .int y370020), (5, .int x370018), (4, .ref (w (21 + (5 * xp.toNatClampNeg + n370007)))), (0, .ref (w 0)), (1, .int xp), (2, .int xo), (3, .int cm)]) hx hb dX7_consume_141 hl (by decide) rfl (fun ls hl => ?_)
                        have e1s : sg370073 = oSe σ (5 * xp.toNatClampNeg + n370007) y370020.toNatClampNeg (1 - 1) := by rw [esg370073, hr370069, cl_0]; rfl
                        have hLP370074 : ∀ (n k370074 : Nat) (Ia370074 Ja370074 : Nat → Nat → Int32) (H : Heap) (locs : List Loc) (ls : Array Slot), k370074 + n = 6 → (Ia370074 = I ∧ 1 ≤ k370074) → RM w [] I J Ia370074 Ja370074 → ML w E Ia370074 → MD w Ja370074 → MU w Ia370074 → MR w Ia370074 Ja370074 (oSe σ (5 * xp.toNatClampNeg + n370007) y370020.toNatClampNeg (k370074 - 1)) →  va_P (dC, dI) vwCl (va_pl L (wF cy K N T Ia370074 Q Ja370074)) H → va_D A (va_pl L (wF cy K N T Ia370074 Q Ja370074)) → va_S A s.heap H locs → lv_has ls 8 [(7, .int (nI k370074)), (6, .int y370020), (5, .int x370018), (4, .ref (w (21 + (5 * xp.toNatClampNeg + n370007)))), (0, .ref (w 0)), (1, .int xp), (2, .int xo), (3, .int cm)] → W p l e (headSpec wsX7_consume ({ frames := 3, cells := 0, slots := 0, locals := 73 })).room s m ([.ref (w 0), .int xp, .int xo, .int cm] : List Value).toArray below meth c H locs 0 0 Qz (F0 m 143 ls []) := by
                          intro n
                          induction n with
                          | zero =>
                            intro k370074  Ia370074 Ja370074 H locs ls hkn370074 hiv370074 hR hML hMD hMU hMR hP hD hS hl
                            obtain rfl : k370074 = 6 := by omega
                            refine lv_iload hx hb dX7_consume_143 (lv_at hl 0 rfl) ?_
                            refine lv_bipush (v := 6) hx hb dX7_consume_145 (by decide) ?_
                            refine lv_icmp_ge (tgt := 174) hx hb dX7_consume_147 (by decide) (fun c370075 => ?_) (fun c370075 => ?_)
                            rotate_left
                            · exact absurd (by decide) c370075
                            refine lv_iload hx hb dX7_consume_174 (lv_at hl 1 rfl) ?_
                            rw [hQz]
                            exact W.iret (v := y370020) hx hb hr (fun t ht hW => ⟨⟨y370020, (Ia370074, Ja370074), rfl, ⟨⟨hML.mono (by omega), hMD, hMU⟩, by have e9 : qCo σ xp xo cm = ((oSe σ (5 * xp.toNatClampNeg + n370007) y370020.toNatClampNeg (6 - 1)), y370020) := (by rw [qCo, if_neg (by have k9 := c370003; simp only [hir370001] at k9; exact k9), oqn370007]; show (if _ then _ else _) = _; rw [if_neg (by have k9 := c370014; simp only [sx370010, sx370012] at k9; exact k9), hmo, ← hiv370019.2, fU_hit (by rw [clT, clT]; omega) (decide_eq_true ⟨by rw [← hr370022]; exact c370024, fun q => c370067 (by rw [hr370066]; exact q.2.2)⟩)]; show (_, nI _) = (_, _); rw [nI, ← xcl9 (by omega)]); show MR w Ia370074 Ja370074 _; rw [e9]; exact hMR, by have e9 : qCo σ xp xo cm = ((oSe σ (5 * xp.toNatClampNeg + n370007) y370020.toNatClampNeg (6 - 1)), y370020) := (by rw [qCo, if_neg (by have k9 := c370003; simp only [hir370001] at k9; exact k9), oqn370007]; show (if _ then _ else _) = _; rw [if_neg (by have k9 := c370014; simp only [sx370010, sx370012] at k9; exact k9), hmo, ← hiv370019.2, fU_hit (by rw [clT, clT]; omega) (decide_eq_true ⟨by rw [← hr370022]; exact c370024, fun q => c370067 (by rw [hr370066]; exact q.2.2)⟩)]; show (_, nI _) = (_, _); rw [nI, ← xcl9 (by omega)]); show _ = _; rw [e9]⟩, by rw [ht]; exact hP, va_K.moved hW.alike hK, hD⟩, hS.F ht⟩) hS.2.2 dX7_consume_176
                          | succ n ih370074 =>
                            intro k370074  Ia370074 Ja370074 H locs ls hkn370074 hiv370074 hR hML hMD hMU hMR hP hD hS hl
                            have hkc370074 : (nI k370074).toNatClampNeg = k370074 := nI_clamp (by omega)
                            have hki370074 : vp_in (nI k370074) 6 := nI_in (by omega) (by decide)
                            refine lv_iload hx hb dX7_consume_143 (lv_at hl 0 rfl) ?_
                            refine lv_bipush (v := 6) hx hb dX7_consume_145 (by decide) ?_
                            refine lv_icmp_ge (tgt := 174) hx hb dX7_consume_147 (by decide) (fun c370076 => ?_) (fun c370076 => ?_)
                            · exact absurd c370076 (nI_ge (b := 6) (by omega) (by decide))
                            refine lv_aload_n hx hb dX7_consume_150 rfl (lv_at hl 4 rfl) ?_
                            obtain ⟨j370077, hj370077⟩ := wG_7 (cy := cy) (N := N) (T := T) (I := Ia370074) (Q := Q) (J := Ja370074) (hM.at 0 (by decide)) (hM.k 0 (by decide) rfl)
                            refine va_get (D := (dC, dI)) (ci := 7) (v := .ref (T (w 0) 15)) (C := RX7) (T := TX7) (N := 18) hx hb hts hi7 hown hK hP j370077 hj370077 rfl 15 (by decide) (hts (.fieldLink RX7 58 "TallyLogsModel" "seen" "[I") (by decide +kernel)) (fun _ h9 => h9) rfl dX7_consume_151 ?_
                            refine W.eq (g2 := F0 m 154 ls [.ref (w 16)]) (by rw [hM.t 15 (by decide)]) ?_
                            refine lv_iload hx hb dX7_consume_154 (lv_at hl 0 rfl) ?_
                            refine lv_aload hx hb dX7_consume_156 (lv_at hl 3 rfl) ?_
                            refine lv_iload hx hb dX7_consume_158 (lv_at hl 1 rfl) ?_
                            refine lv_iload hx hb dX7_consume_160 (lv_at hl 0 rfl) ?_
                            refine lv_iconst (v := 1) hx hb dX7_consume_162 (by decide) ?_
                            refine lv_iadd hx hb dX7_consume_163 ?_
                            refine lv_topi (fun v370078 ev370078 => ?_)
                            have hin370079 : vp_in v370078 8 := by rw [ev370078, show (nI k370074 + 1 : Int32) = nI (k370074 + 1) from nI_add k370074 1]; exact nI_in (by omega) (by decide)
                            obtain ⟨j370081, hj370081⟩ := wG_6 (cy := cy) (N := N) (T := T) (I := Ia370074) (Q := Q) (J := Ja370074) (hM.lg hjn370007).1 (hM.lg hjn370007).2
                            refine vp_callSi (W.runV (As := [.int y370020, .int v370078]) (rest := [.int (nI k370074), .ref (w 16)]) ⟨hx, hb, hml, hown, hts⟩ (f_X6_get l dC dI cy w L K N T Q Ia370074 Ja370074 (5 * xp.toNatClampNeg + n370007) y370020 v370078 (oSe σ (5 * xp.toNatClampNeg + n370007) y370020.toNatClampNeg (k370074 - 1)) hM hjn370007 (by rw [hiv370074.1]; omega) (by rw [hiv370074.1]; omega) (by rw [hiv370074.1]; omega) (by rw [hiv370074.1]; omega) hin370079 hMR) (cwV 2 hts gX7_consume_X6_get rfl rfl rfl (by decide +kernel) ⟨Nat.le_of_ble_eq_true rfl, Nat.le_of_ble_eq_true rfl⟩) ⟨mb_blind, va_recv hK hP (ci := 6) (q0 := j370081) rfl hj370081, fun U hU hW => ⟨rfl, mb_pre hP hK hU hW⟩⟩ rfl rfl hl.1 rfl (lv_room (Nat.le_of_ble_eq_true rfl)) dX7_consume_164 ⟨Nat.le_of_ble_eq_true rfl, Nat.le_of_ble_eq_true rfl⟩) (fun r370080 hr370080 => ?_)
                            obtain ⟨j370082, hj370082⟩ := wG_20 (cy := cy) (N := N) (T := T) (I := Ia370074) (Q := Q) (J := Ja370074) (hM.at 16 (by decide)) (hM.k 16 (by decide) rfl)
                            have hDo := hD
                            refine va_iast (x := r370080) hx hb hK hP hD hS j370082 1 hj370082 rfl (hM.inN (n := 6) 16 (by decide) rfl rfl hki370074) dX7_consume_167 (fun H locs hP hD hS => ?_)
                            have hP := Eq.mp (congrArg (fun w => va_P (dC, dI) vwCl w H) (wS_20 hDo (hM.at 16 (by decide)) (hM.k 16 (by decide) rfl) hj370082)) hP
                            obtain ⟨J370083, eJ370083⟩ : ∃ z, z = va_up Ja370074 (w 16) (upd (Ja370074 (w 16)) (nI k370074).toNatClampNeg r370080) := ⟨_, rfl⟩
                            rw [← eJ370083] at hP
                            have hR : RM w [] I J Ia370074 J370083 := by rw [eJ370083]; exact hR.pj hM (by decide) (by decide)
                            have hMD : MD w J370083 := by rw [eJ370083]; exact hMD.pj hM (by decide) (by decide)
                            have hD : va_D A (va_pl L (wF cy K N T Ia370074 Q J370083)) := pD hDo
                            obtain ⟨sg370084, esg370084⟩ : ∃ z, z = sA (oSe σ (5 * xp.toNatClampNeg + n370007) y370020.toNatClampNeg (k370074 - 1)) 16 ((nI k370074).toNatClampNeg) r370080 := ⟨_, rfl⟩
                            have hMR : MR w Ia370074 J370083 sg370084 := by rw [eJ370083, esg370084]; exact hMR.wa hM (by decide) (by decide)
                            obtain ⟨v370085, ev370085⟩ : ∃ y : Int32, y = (nI k370074) + Int32.ofInt 1 := ⟨_, rfl⟩
                            refine lv_iinc (v := v370085) (lv' := [(7, .int v370085), (6, .int y370020), (5, .int x370018), (4, .ref (w (21 + (5 * xp.toNatClampNeg + n370007)))), (0, .ref (w 0)), (1, .int xp), (2, .int xo), (3, .int cm)]) hx hb dX7_consume_168 hl (k := 0) rfl ev370085.symm (by decide) rfl (fun ls hl => ?_)
                            refine lv_goto (tgt := 143) hx hb dX7_consume_171 (by decide) ?_
                            obtain rfl : v370085 = nI (k370074 + 1) := ev370085.trans (nI_add k370074 1)
                            have e9 : oSe σ (5 * xp.toNatClampNeg + n370007) y370020.toNatClampNeg (k370074 + 1 - 1) = sg370084 := by
                              have ef : v370078.toNatClampNeg = k370074 - 1 + 2 := by rw [ev370078]; rw [show (nI k370074 + 1 : Int32) = nI (k370074 + 1) from nI_add k370074 1, nI_clamp (by omega)]; omega
                              obtain ⟨i, hi⟩ : ∃ i, k370074 = i + 1 := ⟨k370074 - 1, by omega⟩
                              rw [esg370084, hkc370074, hr370080, ef, oSe_2]
                              rw [hi]
                              rfl
                            exact ih370074 (k370074 + 1)  _ _ _ _ _ (by omega) (⟨hiv370074.1, by omega⟩) hR (hML.mono (by omega)) hMD hMU (by rw [e9]; exact hMR) hP hD hS (lv_sub hl [0, 1, 2, 3, 4, 5, 6, 7] rfl)
                        exact hLP370074 5 1  _ _ _ _ _ rfl (⟨rfl, by decide⟩) hR (hML.mono (by omega)) hMD hMU (by rw [← e1s]; exact hMR) hP hD hS (lv_sub hl [0, 1, 2, 3, 4, 5, 6, 7] rfl)
                      · have kc370067 : r370066.toInt = 2 := by have h9 := c370067; rw [xk_eq, xk_2] at h9; exact h9
                        refine lv_goto (tgt := 177) hx hb dX7_consume_123 (by decide) ?_
                        obtain ⟨v370086, ev370086⟩ : ∃ y : Int32, y = y370020 + Int32.ofInt 1 := ⟨_, rfl⟩
                        refine lv_iinc (v := v370086) (lv' := [(6, .int v370086), (5, .int x370018), (4, .ref (w (21 + (5 * xp.toNatClampNeg + n370007)))), (0, .ref (w 0)), (1, .int xp), (2, .int xo), (3, .int cm)]) hx hb dX7_consume_177 hl (k := 0) rfl ev370086.symm (by decide) rfl (fun ls hl => ?_)
                        refine lv_goto (tgt := 77) hx hb dX7_consume_180 (by decide) ?_
                        have tv370086 : v370086.toInt = y370020.toInt + 1 := by rw [ev370086, show y370020 + Int32.ofInt 1 = y370020 + 1 from rfl]; exact xinc (y := x370018) (by rw [xk_lt]; omega)
                        exact ih370019 _ _ (by omega) (by omega) (⟨by omega, by rw [clsucc (y := y370020) (by omega) tv370086, ← fU_step (by rw [clT, clT]; omega) (fun q => (of_decide_eq_true q).2 ⟨c370026, by rw [← hr370045]; exact c370047, by rw [← hr370066]; exact c370067⟩)]; exact hiv370019.2⟩)  (lv_sub hl [0, 1, 2, 3, 4, 5, 6] rfl)
          exact hLP370019 _ _ _ (Nat.lt_succ_self _) (by omega) (⟨by omega, rfl⟩)  (lv_sub hl [0, 1, 2, 3, 4, 5, 6] rfl)
        · have kc370016 : ¬ (cm.toInt = 0) := by have h9 := c370016; rw [xk_eq, xk_0] at h9; exact h9
          refine lv_aload hx hb dX7_consume_51 (lv_at hl 0 rfl) ?_
          obtain ⟨j370087, hj370087⟩ := wG_6 (cy := cy) (N := N) (T := T) (I := I) (Q := Q) (J := J) (hM.lg hjn370007).1 (hM.lg hjn370007).2
          refine va_get (D := (dC, dI)) (ci := 6) (v := .int (I (w (21 + (5 * xp.toNatClampNeg + n370007))) 3)) (C := RX6) (T := TX6) (N := 7) hx hb hts hi6 hown hK hP j370087 hj370087 rfl 3 (by decide) (hts (.fieldLink RX7 109 "TallyLogsModel$Log" "high" "I") (by decide +kernel)) (fun _ h9 => h9) rfl dX7_consume_53 ?_
          refine lv_topi (fun x370088 ex370088 => ?_)
          have sx370088 : x370088 = σ.2.1 (5 * xp.toNatClampNeg + n370007) 3 := ex370088.trans (hMR.g hjn370007 (by decide) (by decide))
          have tx370088 : x370088.toInt = (I (w (21 + (5 * xp.toNatClampNeg + n370007))) 3).toInt := congrArg Int32.toInt ex370088
          refine lv_aload hx hb dX7_consume_56 (lv_at hl 0 rfl) ?_
          refine vp_callSi (W.runS (As := [.ref (w (21 + (5 * xp.toNatClampNeg + n370007)))]) (rest := [.int x370088]) ⟨hx, hb, hml, hown, hts⟩ (f_X7_firstOpen l dC dI cy w L K N T Q I J (5 * xp.toNatClampNeg + n370007) σ hM hjn370007 (by omega) (by omega) hMR) (va_cwS 1 hts gX7_consume_X7_firstOpen rfl rfl rfl (by decide +kernel) ⟨Nat.le_of_ble_eq_true rfl, Nat.le_of_ble_eq_true rfl⟩) ⟨mb_blind, fun U hU hW => ⟨rfl, mb_pre hP hK hU hW⟩⟩ rfl rfl hl.1 rfl (lv_room (Nat.le_of_ble_eq_true rfl)) dX7_consume_58 ⟨Nat.le_of_ble_eq_true rfl, Nat.le_of_ble_eq_true rfl⟩) (fun r370089 hr370089 => ?_)
          refine va_mmin hx hb (by rw [hml]; exact hl.1.symm) hown (hts (.methodLink RX7 105 Lib.Math.min.name) (by decide +kernel)) (hts (.static Lib.Math.min.name) (by decide +kernel)) (hts (.initialized "java/lang/Math") (by decide +kernel)) (hts _ (List.mem_of_getElem? (i := 6) rfl)) (Nat.le_of_ble_eq_true rfl) (Nat.le_of_ble_eq_true rfl) (Nat.le_of_ble_eq_true rfl) (Nat.le_of_ble_eq_true rfl) dX7_consume_61 ?_
          refine lv_topi (fun z370090 ez370090 => ?_)
          have tz370090 : z370090.toInt = min x370088.toInt r370089.toInt := (xmin_t ez370090)
          refine lv_goto (tgt := 72) hx hb dX7_consume_64 (by decide) ?_
          refine lv_istore (lv' := [(5, .int z370090), (4, .ref (w (21 + (5 * xp.toNatClampNeg + n370007)))), (0, .ref (w 0)), (1, .int xp), (2, .int xo), (3, .int cm)]) hx hb dX7_consume_72 hl (by decide) rfl (fun ls hl => ?_)
          refine lv_iload_n hx hb dX7_consume_74 rfl (lv_at hl 4 rfl) ?_
          refine lv_istore (lv' := [(6, .int xo), (5, .int z370090), (4, .ref (w (21 + (5 * xp.toNatClampNeg + n370007)))), (0, .ref (w 0)), (1, .int xp), (2, .int xo), (3, .int cm)]) hx hb dX7_consume_75 hl (by decide) rfl (fun ls hl => ?_)
          have hmo : oMost σ (5 * xp.toNatClampNeg + n370007) cm = z370090 := by rw [oMost, if_neg c370016, ez370090, sx370088, hr370089, imn]
          refine wq_gen (fun Qz hQz => ?_)
          have hLP370091 : ∀ (n : Nat) (y370092 : Int32) (ls : Array Slot), ((z370090).toInt - y370092.toInt).toNat < n → 0 ≤ y370092.toInt → ((I (w (21 + (5 * xp.toNatClampNeg + n370007))) 1).toInt ≤ y370092.toInt ∧ fU (pVi σ (5 * xp.toNatClampNeg + n370007) cm) (z370090.toNatClampNeg - y370092.toNatClampNeg) y370092.toNatClampNeg = fU (pVi σ (5 * xp.toNatClampNeg + n370007) cm) (z370090.toNatClampNeg - xo.toNatClampNeg) xo.toNatClampNeg) → lv_has ls 8 [(6, .int y370092), (5, .int z370090), (4, .ref (w (21 + (5 * xp.toNatClampNeg + n370007)))), (0, .ref (w 0)), (1, .int xp), (2, .int xo), (3, .int cm)] → W p l e (headSpec wsX7_consume ({ frames := 3, cells := 0, slots := 0, locals := 73 })).room s m ([.ref (w 0), .int xp, .int xo, .int cm] : List Value).toArray below meth c s.heap [] 0 0 Qz (F0 m 77 ls []) := by
            intro n
            induction n with
            | zero => intro y370092 ls hms; exact absurd hms (Nat.not_lt_zero _)
            | succ n ih370091 =>
              intro y370092 ls hms hnn370091 hiv370091 hl
              obtain ⟨hiw, _⟩ := id hiv370091
              refine lv_iload hx hb dX7_consume_77 (lv_at hl 0 rfl) ?_
              refine lv_iload hx hb dX7_consume_79 (lv_at hl 1 rfl) ?_
              refine lv_icmp_ge (tgt := 183) hx hb dX7_consume_81 (by decide) (fun c370093 => ?_) (fun c370093 => ?_)
              · have kc370093 : z370090.toInt ≤ y370092.toInt := by have h9 := c370093; rw [xk_le] at h9; exact h9
                refine lv_bipush (v := (-2)) hx hb dX7_consume_183 (by decide) ?_
                rw [hQz]
                exact W.iret (v := (-2)) hx hb hr (fun t ht hW => ⟨⟨(-2), (I, J), rfl, ⟨⟨hML.mono (by omega), hMD, hMU⟩, by have e9 : qCo σ xp xo cm = (σ, (-2)) := (by rw [qCo, if_neg (by have k9 := c370003; simp only [hir370001] at k9; exact k9), oqn370007]; show (if _ then _ else _) = _; rw [if_neg (by have k9 := c370014; simp only [sx370010, sx370012] at k9; exact k9), hmo, ← hiv370091.2, fU_end (by rw [clT, clT]; omega)]); show MR w I J _; rw [e9]; exact hMR, by have e9 : qCo σ xp xo cm = (σ, (-2)) := (by rw [qCo, if_neg (by have k9 := c370003; simp only [hir370001] at k9; exact k9), oqn370007]; show (if _ then _ else _) = _; rw [if_neg (by have k9 := c370014; simp only [sx370010, sx370012] at k9; exact k9), hmo, ← hiv370091.2, fU_end (by rw [clT, clT]; omega)]); show _ = _; rw [e9]⟩, by rw [ht]; exact hP, va_K.moved hW.alike hK, hD⟩, hS.F ht⟩) hS.2.2 dX7_consume_185
              · have kc370093 : ¬ (z370090.toInt ≤ y370092.toInt) := by have h9 := c370093; rw [xk_le] at h9; exact h9
                refine lv_aload hx hb dX7_consume_84 (lv_at hl 2 rfl) ?_
                refine lv_iload hx hb dX7_consume_86 (lv_at hl 0 rfl) ?_
                refine lv_iconst (v := 1) hx hb dX7_consume_88 (by decide) ?_
                obtain ⟨j370095, hj370095⟩ := wG_6 (cy := cy) (N := N) (T := T) (I := I) (Q := Q) (J := J) (hM.lg hjn370007).1 (hM.lg hjn370007).2
                refine vp_callSi (W.runV (As := [.int y370092, .int 1]) (rest := []) ⟨hx, hb, hml, hown, hts⟩ (f_X6_get l dC dI cy w L K N T Q I J (5 * xp.toNatClampNeg + n370007) y370092 1 σ hM hjn370007 (by omega) (by omega) (by omega) (by omega) (by unfold vp_in; decide) hMR) (cwV 2 hts gX7_consume_X6_get rfl rfl rfl (by decide +kernel) ⟨Nat.le_of_ble_eq_true rfl, Nat.le_of_ble_eq_true rfl⟩) ⟨mb_blind, va_recv hK hP (ci := 6) (q0 := j370095) rfl hj370095, fun U hU hW => ⟨rfl, mb_pre hP hK hU hW⟩⟩ rfl rfl hl.1 rfl (lv_room (Nat.le_of_ble_eq_true rfl)) dX7_consume_89 ⟨Nat.le_of_ble_eq_true rfl, Nat.le_of_ble_eq_true rfl⟩) (fun r370094 hr370094 => ?_)
                rw [show (1 : Int32).toNatClampNeg = 1 by decide] at hr370094
                refine lv_if_ne (tgt := 177) hx hb dX7_consume_92 (by decide) (fun c370096 => ?_) (fun c370096 => ?_)
                · have kc370096 : ¬ (r370094.toInt = 0) := by have h9 := c370096; rw [xk_eq, xk_0] at h9; exact h9
                  obtain ⟨v370097, ev370097⟩ : ∃ y : Int32, y = y370092 + Int32.ofInt 1 := ⟨_, rfl⟩
                  refine lv_iinc (v := v370097) (lv' := [(6, .int v370097), (5, .int z370090), (4, .ref (w (21 + (5 * xp.toNatClampNeg + n370007)))), (0, .ref (w 0)), (1, .int xp), (2, .int xo), (3, .int cm)]) hx hb dX7_consume_177 hl (k := 0) rfl ev370097.symm (by decide) rfl (fun ls hl => ?_)
                  refine lv_goto (tgt := 77) hx hb dX7_consume_180 (by decide) ?_
                  have tv370097 : v370097.toInt = y370092.toInt + 1 := by rw [ev370097, show y370092 + Int32.ofInt 1 = y370092 + 1 from rfl]; exact xinc (y := z370090) (by rw [xk_lt]; omega)
                  exact ih370091 _ _ (by omega) (by omega) (⟨by omega, by rw [clsucc (y := y370092) (by omega) tv370097, ← fU_step (by rw [clT, clT]; omega) (fun q => c370096 (by rw [hr370094]; exact (of_decide_eq_true q).1))]; exact hiv370091.2⟩)  (lv_sub hl [0, 1, 2, 3, 4, 5, 6] rfl)
                · have kc370096 : r370094.toInt = 0 := by have h9 := c370096; rw [xk_eq, xk_0] at h9; exact h9
                  refine lv_iload_n hx hb dX7_consume_95 rfl (lv_at hl 6 rfl) ?_
                  refine lv_if_eq (tgt := 126) hx hb dX7_consume_96 (by decide) (fun c370098 => ?_) (fun c370098 => ?_)
                  · have kc370098 : cm.toInt = 0 := by have h9 := c370098; rw [xk_eq, xk_0] at h9; exact h9
                    refine lv_aload_n hx hb dX7_consume_126 rfl (lv_at hl 3 rfl) ?_
                    obtain ⟨j370099, hj370099⟩ := wG_7 (cy := cy) (N := N) (T := T) (I := I) (Q := Q) (J := J) (hM.at 0 (by decide)) (hM.k 0 (by decide) rfl)
                    refine va_get (D := (dC, dI)) (ci := 7) (v := .ref (T (w 0) 15)) (C := RX7) (T := TX7) (N := 18) hx hb hts hi7 hown hK hP j370099 hj370099 rfl 15 (by decide) (hts (.fieldLink RX7 58 "TallyLogsModel" "seen" "[I") (by decide +kernel)) (fun _ h9 => h9) rfl dX7_consume_127 ?_
                    refine W.eq (g2 := F0 m 130 ls [.ref (w 16)]) (by rw [hM.t 15 (by decide)]) ?_
                    refine lv_iconst (v := 0) hx hb dX7_consume_130 (by decide) ?_
                    refine lv_aload hx hb dX7_consume_131 (lv_at hl 2 rfl) ?_
                    refine lv_iload hx hb dX7_consume_133 (lv_at hl 0 rfl) ?_
                    refine lv_iconst (v := 0) hx hb dX7_consume_135 (by decide) ?_
                    obtain ⟨j370101, hj370101⟩ := wG_6 (cy := cy) (N := N) (T := T) (I := I) (Q := Q) (J := J) (hM.lg hjn370007).1 (hM.lg hjn370007).2
                    refine vp_callSi (W.runV (As := [.int y370092, .int 0]) (rest := [.int 0, .ref (w 16)]) ⟨hx, hb, hml, hown, hts⟩ (f_X6_get l dC dI cy w L K N T Q I J (5 * xp.toNatClampNeg + n370007) y370092 0 σ hM hjn370007 (by omega) (by omega) (by omega) (by omega) (by unfold vp_in; decide) hMR) (cwV 2 hts gX7_consume_X6_get rfl rfl rfl (by decide +kernel) ⟨Nat.le_of_ble_eq_true rfl, Nat.le_of_ble_eq_true rfl⟩) ⟨mb_blind, va_recv hK hP (ci := 6) (q0 := j370101) rfl hj370101, fun U hU hW => ⟨rfl, mb_pre hP hK hU hW⟩⟩ rfl rfl hl.1 rfl (lv_room (Nat.le_of_ble_eq_true rfl)) dX7_consume_136 ⟨Nat.le_of_ble_eq_true rfl, Nat.le_of_ble_eq_true rfl⟩) (fun r370100 hr370100 => ?_)
                    rw [show (0 : Int32).toNatClampNeg = 0 by decide] at hr370100
                    obtain ⟨j370102, hj370102⟩ := wG_20 (cy := cy) (N := N) (T := T) (I := I) (Q := Q) (J := J) (hM.at 16 (by decide)) (hM.k 16 (by decide) rfl)
                    have hDo := hD
                    refine va_iast (x := r370100) hx hb hK hP hD hS j370102 1 hj370102 rfl (hM.inN (n := 6) 16 (by decide) rfl rfl (by unfold vp_in; decide)) dX7_consume_139 (fun H locs hP hD hS => ?_)
                    have hP := Eq.mp (congrArg (fun w => va_P (dC, dI) vwCl w H) (wS_20 hDo (hM.at 16 (by decide)) (hM.k 16 (by decide) rfl) hj370102)) hP
                    obtain ⟨J370103, eJ370103⟩ : ∃ z, z = va_up J (w 16) (upd (J (w 16)) (0 : Int32).toNatClampNeg r370100) := ⟨_, rfl⟩
                    rw [← eJ370103] at hP
                    have hR : RM w [] I J I J370103 := by rw [eJ370103]; exact hR.pj hM (by decide) (by decide)
                    have hMD : MD w J370103 := by rw [eJ370103]; exact hMD.pj hM (by decide) (by decide)
                    have hD : va_D A (va_pl L (wF cy K N T I Q J370103)) := pD hDo
                    obtain ⟨sg370104, esg370104⟩ : ∃ z, z = sA σ 16 ((0 : Int32).toNatClampNeg) r370100 := ⟨_, rfl⟩
                    have hMR : MR w I J370103 sg370104 := by rw [eJ370103, esg370104]; exact hMR.wa hM (by decide) (by decide)
                    refine lv_iconst (v := 1) hx hb dX7_consume_140 (by decide) ?_
                    refine lv_istore (lv' := [(7, .int 1), (6, .int y370092), (5, .int z370090), (4, .ref (w (21 + (5 * xp.toNatClampNeg + n370007)))), (0, .ref (w 0)), (1, .int xp), (2, .int xo), (3, .int cm)]) hx hb dX7_consume_141 hl (by decide) rfl (fun ls hl => ?_)
                    have e1s : sg370104 = oSe σ (5 * xp.toNatClampNeg + n370007) y370092.toNatClampNeg (1 - 1) := by rw [esg370104, hr370100, cl_0]; rfl
                    have hLP370105 : ∀ (n k370105 : Nat) (Ia370105 Ja370105 : Nat → Nat → Int32) (H : Heap) (locs : List Loc) (ls : Array Slot), k370105 + n = 6 → (Ia370105 = I ∧ 1 ≤ k370105) → RM w [] I J Ia370105 Ja370105 → ML w E Ia370105 → MD w Ja370105 → MU w Ia370105 → MR w Ia370105 Ja370105 (oSe σ (5 * xp.toNatClampNeg + n370007) y370092.toNatClampNeg (k370105 - 1)) →  va_P (dC, dI) vwCl (va_pl L (wF cy K N T Ia370105 Q Ja370105)) H → va_D A (va_pl L (wF cy K N T Ia370105 Q Ja370105)) → va_S A s.heap H locs → lv_has ls 8 [(7, .int (nI k370105)), (6, .int y370092), (5, .int z370090), (4, .ref (w (21 + (5 * xp.toNatClampNeg + n370007)))), (0, .ref (w 0)), (1, .int xp), (2, .int xo), (3, .int cm)] → W p l e (headSpec wsX7_consume ({ frames := 3, cells := 0, slots := 0, locals := 73 })).room s m ([.ref (w 0), .int xp, .int xo, .int cm] : List Value).toArray below meth c H locs 0 0 Qz (F0 m 143 ls []) := by
                      intro n
                      induction n with
                      | zero =>
                        intro k370105  Ia370105 Ja370105 H locs ls hkn370105 hiv370105 hR hML hMD hMU hMR hP hD hS hl
                        obtain rfl : k370105 = 6 := by omega
                        refine lv_iload hx hb dX7_consume_143 (lv_at hl 0 rfl) ?_
                        refine lv_bipush (v := 6) hx hb dX7_consume_145 (by decide) ?_
                        refine lv_icmp_ge (tgt := 174) hx hb dX7_consume_147 (by decide) (fun c370106 => ?_) (fun c370106 => ?_)
                        rotate_left
                        · exact absurd (by decide) c370106
                        refine lv_iload hx hb dX7_consume_174 (lv_at hl 1 rfl) ?_
                        rw [hQz]
                        exact W.iret (v := y370092) hx hb hr (fun t ht hW => ⟨⟨y370092, (Ia370105, Ja370105), rfl, ⟨⟨hML.mono (by omega), hMD, hMU⟩, by have e9 : qCo σ xp xo cm = ((oSe σ (5 * xp.toNatClampNeg + n370007) y370092.toNatClampNeg (6 - 1)), y370092) := (by rw [qCo, if_neg (by have k9 := c370003; simp only [hir370001] at k9; exact k9), oqn370007]; show (if _ then _ else _) = _; rw [if_neg (by have k9 := c370014; simp only [sx370010, sx370012] at k9; exact k9), hmo, ← hiv370091.2, fU_hit (by rw [clT, clT]; omega) (decide_eq_true ⟨by rw [← hr370094]; exact c370096, fun q => q.1 c370098⟩)]; show (_, nI _) = (_, _); rw [nI, ← xcl9 (by omega)]); show MR w Ia370105 Ja370105 _; rw [e9]; exact hMR, by have e9 : qCo σ xp xo cm = ((oSe σ (5 * xp.toNatClampNeg + n370007) y370092.toNatClampNeg (6 - 1)), y370092) := (by rw [qCo, if_neg (by have k9 := c370003; simp only [hir370001] at k9; exact k9), oqn370007]; show (if _ then _ else _) = _; rw [if_neg (by have k9 := c370014; simp only [sx370010, sx370012] at k9; exact k9), hmo, ← hiv370091.2, fU_hit (by rw [clT, clT]; omega) (decide_eq_true ⟨by rw [← hr370094]; exact c370096, fun q => q.1 c370098⟩)]; show (_, nI _) = (_, _); rw [nI, ← xcl9 (by omega)]); show _ = _; rw [e9]⟩, by rw [ht]; exact hP, va_K.moved hW.alike hK, hD⟩, hS.F ht⟩) hS.2.2 dX7_consume_176
                      | succ n ih370105 =>
                        intro k370105  Ia370105 Ja370105 H locs ls hkn370105 hiv370105 hR hML hMD hMU hMR hP hD hS hl
                        have hkc370105 : (nI k370105).toNatClampNeg = k370105 := nI_clamp (by omega)
                        have hki370105 : vp_in (nI k370105) 6 := nI_in (by omega) (by decide)
                        refine lv_iload hx hb dX7_consume_143 (lv_at hl 0 rfl) ?_
                        refine lv_bipush (v := 6) hx hb dX7_consume_145 (by decide) ?_
                        refine lv_icmp_ge (tgt := 174) hx hb dX7_consume_147 (by decide) (fun c370107 => ?_) (fun c370107 => ?_)
                        · exact absurd c370107 (nI_ge (b := 6) (by omega) (by decide))
                        refine lv_aload_n hx hb dX7_consume_150 rfl (lv_at hl 4 rfl) ?_
                        obtain ⟨j370108, hj370108⟩ := wG_7 (cy := cy) (N := N) (T := T) (I := Ia370105) (Q := Q) (J := Ja370105) (hM.at 0 (by decide)) (hM.k 0 (by decide) rfl)
                        refine va_get (D := (dC, dI)) (ci := 7) (v := .ref (T (w 0) 15)) (C := RX7) (T := TX7) (N := 18) hx hb hts hi7 hown hK hP j370108 hj370108 rfl 15 (by decide) (hts (.fieldLink RX7 58 "TallyLogsModel" "seen" "[I") (by decide +kernel)) (fun _ h9 => h9) rfl dX7_consume_151 ?_
                        refine W.eq (g2 := F0 m 154 ls [.ref (w 16)]) (by rw [hM.t 15 (by decide)]) ?_
                        refine lv_iload hx hb dX7_consume_154 (lv_at hl 0 rfl) ?_
                        refine lv_aload hx hb dX7_consume_156 (lv_at hl 3 rfl) ?_
                        refine lv_iload hx hb dX7_consume_158 (lv_at hl 1 rfl) ?_
                        refine lv_iload hx hb dX7_consume_160 (lv_at hl 0 rfl) ?_
                        refine lv_iconst (v := 1) hx hb dX7_consume_162 (by decide) ?_
                        refine lv_iadd hx hb dX7_consume_163 ?_
                        refine lv_topi (fun v370109 ev370109 => ?_)
                        have hin370110 : vp_in v370109 8 := by rw [ev370109, show (nI k370105 + 1 : Int32) = nI (k370105 + 1) from nI_add k370105 1]; exact nI_in (by omega) (by decide)
                        obtain ⟨j370112, hj370112⟩ := wG_6 (cy := cy) (N := N) (T := T) (I := Ia370105) (Q := Q) (J := Ja370105) (hM.lg hjn370007).1 (hM.lg hjn370007).2
                        refine vp_callSi (W.runV (As := [.int y370092, .int v370109]) (rest := [.int (nI k370105), .ref (w 16)]) ⟨hx, hb, hml, hown, hts⟩ (f_X6_get l dC dI cy w L K N T Q Ia370105 Ja370105 (5 * xp.toNatClampNeg + n370007) y370092 v370109 (oSe σ (5 * xp.toNatClampNeg + n370007) y370092.toNatClampNeg (k370105 - 1)) hM hjn370007 (by rw [hiv370105.1]; omega) (by rw [hiv370105.1]; omega) (by rw [hiv370105.1]; omega) (by rw [hiv370105.1]; omega) hin370110 hMR) (cwV 2 hts gX7_consume_X6_get rfl rfl rfl (by decide +kernel) ⟨Nat.le_of_ble_eq_true rfl, Nat.le_of_ble_eq_true rfl⟩) ⟨mb_blind, va_recv hK hP (ci := 6) (q0 := j370112) rfl hj370112, fun U hU hW => ⟨rfl, mb_pre hP hK hU hW⟩⟩ rfl rfl hl.1 rfl (lv_room (Nat.le_of_ble_eq_true rfl)) dX7_consume_164 ⟨Nat.le_of_ble_eq_true rfl, Nat.le_of_ble_eq_true rfl⟩) (fun r370111 hr370111 => ?_)
                        obtain ⟨j370113, hj370113⟩ := wG_20 (cy := cy) (N := N) (T := T) (I := Ia370105) (Q := Q) (J := Ja370105) (hM.at 16 (by decide)) (hM.k 16 (by decide) rfl)
                        have hDo := hD
                        refine va_iast (x := r370111) hx hb hK hP hD hS j370113 1 hj370113 rfl (hM.inN (n := 6) 16 (by decide) rfl rfl hki370105) dX7_consume_167 (fun H locs hP hD hS => ?_)
                        have hP := Eq.mp (congrArg (fun w => va_P (dC, dI) vwCl w H) (wS_20 hDo (hM.at 16 (by decide)) (hM.k 16 (by decide) rfl) hj370113)) hP
                        obtain ⟨J370114, eJ370114⟩ : ∃ z, z = va_up Ja370105 (w 16) (upd (Ja370105 (w 16)) (nI k370105).toNatClampNeg r370111) := ⟨_, rfl⟩
                        rw [← eJ370114] at hP
                        have hR : RM w [] I J Ia370105 J370114 := by rw [eJ370114]; exact hR.pj hM (by decide) (by decide)
                        have hMD : MD w J370114 := by rw [eJ370114]; exact hMD.pj hM (by decide) (by decide)
                        have hD : va_D A (va_pl L (wF cy K N T Ia370105 Q J370114)) := pD hDo
                        obtain ⟨sg370115, esg370115⟩ : ∃ z, z = sA (oSe σ (5 * xp.toNatClampNeg + n370007) y370092.toNatClampNeg (k370105 - 1)) 16 ((nI k370105).toNatClampNeg) r370111 := ⟨_, rfl⟩
                        have hMR : MR w Ia370105 J370114 sg370115 := by rw [eJ370114, esg370115]; exact hMR.wa hM (by decide) (by decide)
                        obtain ⟨v370116, ev370116⟩ : ∃ y : Int32, y = (nI k370105) + Int32.ofInt 1 := ⟨_, rfl⟩
                        refine lv_iinc (v := v370116) (lv' := [(7, .int v370116), (6, .int y370092), (5, .int z370090), (4, .ref (w (21 + (5 * xp.toNatClampNeg + n370007)))), (0, .ref (w 0)), (1, .int xp), (2, .int xo), (3, .int cm)]) hx hb dX7_consume_168 hl (k := 0) rfl ev370116.symm (by decide) rfl (fun ls hl => ?_)
                        refine lv_goto (tgt := 143) hx hb dX7_consume_171 (by decide) ?_
                        obtain rfl : v370116 = nI (k370105 + 1) := ev370116.trans (nI_add k370105 1)
                        have e9 : oSe σ (5 * xp.toNatClampNeg + n370007) y370092.toNatClampNeg (k370105 + 1 - 1) = sg370115 := by
                          have ef : v370109.toNatClampNeg = k370105 - 1 + 2 := by rw [ev370109]; rw [show (nI k370105 + 1 : Int32) = nI (k370105 + 1) from nI_add k370105 1, nI_clamp (by omega)]; omega
                          obtain ⟨i, hi⟩ : ∃ i, k370105 = i + 1 := ⟨k370105 - 1, by omega⟩
                          rw [esg370115, hkc370105, hr370111, ef, oSe_2]
                          rw [hi]
                          rfl
                        exact ih370105 (k370105 + 1)  _ _ _ _ _ (by omega) (⟨hiv370105.1, by omega⟩) hR (hML.mono (by omega)) hMD hMU (by rw [e9]; exact hMR) hP hD hS (lv_sub hl [0, 1, 2, 3, 4, 5, 6, 7] rfl)
                    exact hLP370105 5 1  _ _ _ _ _ rfl (⟨rfl, by decide⟩) hR (hML.mono (by omega)) hMD hMU (by rw [← e1s]; exact hMR) hP hD hS (lv_sub hl [0, 1, 2, 3, 4, 5, 6, 7] rfl)
                  · have kc370098 : ¬ (cm.toInt = 0) := by have h9 := c370098; rw [xk_eq, xk_0] at h9; exact h9
                    refine lv_aload hx hb dX7_consume_99 (lv_at hl 2 rfl) ?_
                    refine lv_iload hx hb dX7_consume_101 (lv_at hl 0 rfl) ?_
                    refine lv_bipush (v := 7) hx hb dX7_consume_103 (by decide) ?_
                    obtain ⟨j370118, hj370118⟩ := wG_6 (cy := cy) (N := N) (T := T) (I := I) (Q := Q) (J := J) (hM.lg hjn370007).1 (hM.lg hjn370007).2
                    refine vp_callSi (W.runV (As := [.int y370092, .int 7]) (rest := []) ⟨hx, hb, hml, hown, hts⟩ (f_X6_get l dC dI cy w L K N T Q I J (5 * xp.toNatClampNeg + n370007) y370092 7 σ hM hjn370007 (by omega) (by omega) (by omega) (by omega) (by unfold vp_in; decide) hMR) (cwV 2 hts gX7_consume_X6_get rfl rfl rfl (by decide +kernel) ⟨Nat.le_of_ble_eq_true rfl, Nat.le_of_ble_eq_true rfl⟩) ⟨mb_blind, va_recv hK hP (ci := 6) (q0 := j370118) rfl hj370118, fun U hU hW => ⟨rfl, mb_pre hP hK hU hW⟩⟩ rfl rfl hl.1 rfl (lv_room (Nat.le_of_ble_eq_true rfl)) dX7_consume_105 ⟨Nat.le_of_ble_eq_true rfl, Nat.le_of_ble_eq_true rfl⟩) (fun r370117 hr370117 => ?_)
                    rw [show (7 : Int32).toNatClampNeg = 7 by decide] at hr370117
                    refine lv_iconst (v := 1) hx hb dX7_consume_108 (by decide) ?_
                    refine lv_icmp_ne (tgt := 126) hx hb dX7_consume_109 (by decide) (fun c370119 => ?_) (fun c370119 => ?_)
                    · have kc370119 : ¬ (r370117.toInt = 1) := by have h9 := c370119; rw [xk_eq, xk_1] at h9; exact h9
                      refine lv_aload_n hx hb dX7_consume_126 rfl (lv_at hl 3 rfl) ?_
                      obtain ⟨j370120, hj370120⟩ := wG_7 (cy := cy) (N := N) (T := T) (I := I) (Q := Q) (J := J) (hM.at 0 (by decide)) (hM.k 0 (by decide) rfl)
                      refine va_get (D := (dC, dI)) (ci := 7) (v := .ref (T (w 0) 15)) (C := RX7) (T := TX7) (N := 18) hx hb hts hi7 hown hK hP j370120 hj370120 rfl 15 (by decide) (hts (.fieldLink RX7 58 "TallyLogsModel" "seen" "[I") (by decide +kernel)) (fun _ h9 => h9) rfl dX7_consume_127 ?_
                      refine W.eq (g2 := F0 m 130 ls [.ref (w 16)]) (by rw [hM.t 15 (by decide)]) ?_
                      refine lv_iconst (v := 0) hx hb dX7_consume_130 (by decide) ?_
                      refine lv_aload hx hb dX7_consume_131 (lv_at hl 2 rfl) ?_
                      refine lv_iload hx hb dX7_consume_133 (lv_at hl 0 rfl) ?_
                      refine lv_iconst (v := 0) hx hb dX7_consume_135 (by decide) ?_
                      obtain ⟨j370122, hj370122⟩ := wG_6 (cy := cy) (N := N) (T := T) (I := I) (Q := Q) (J := J) (hM.lg hjn370007).1 (hM.lg hjn370007).2
                      refine vp_callSi (W.runV (As := [.int y370092, .int 0]) (rest := [.int 0, .ref (w 16)]) ⟨hx, hb, hml, hown, hts⟩ (f_X6_get l dC dI cy w L K N T Q I J (5 * xp.toNatClampNeg + n370007) y370092 0 σ hM hjn370007 (by omega) (by omega) (by omega) (by omega) (by unfold vp_in; decide) hMR) (cwV 2 hts gX7_consume_X6_get rfl rfl rfl (by decide +kernel) ⟨Nat.le_of_ble_eq_true rfl, Nat.le_of_ble_eq_true rfl⟩) ⟨mb_blind, va_recv hK hP (ci := 6) (q0 := j370122) rfl hj370122, fun U hU hW => ⟨rfl, mb_pre hP hK hU hW⟩⟩ rfl rfl hl.1 rfl (lv_room (Nat.le_of_ble_eq_true rfl)) dX7_consume_136 ⟨Nat.le_of_ble_eq_true rfl, Nat.le_of_ble_eq_true rfl⟩) (fun r370121 hr370121 => ?_)
                      rw [show (0 : Int32).toNatClampNeg = 0 by decide] at hr370121
                      obtain ⟨j370123, hj370123⟩ := wG_20 (cy := cy) (N := N) (T := T) (I := I) (Q := Q) (J := J) (hM.at 16 (by decide)) (hM.k 16 (by decide) rfl)
                      have hDo := hD
                      refine va_iast (x := r370121) hx hb hK hP hD hS j370123 1 hj370123 rfl (hM.inN (n := 6) 16 (by decide) rfl rfl (by unfold vp_in; decide)) dX7_consume_139 (fun H locs hP hD hS => ?_)
                      have hP := Eq.mp (congrArg (fun w => va_P (dC, dI) vwCl w H) (wS_20 hDo (hM.at 16 (by decide)) (hM.k 16 (by decide) rfl) hj370123)) hP
                      obtain ⟨J370124, eJ370124⟩ : ∃ z, z = va_up J (w 16) (upd (J (w 16)) (0 : Int32).toNatClampNeg r370121) := ⟨_, rfl⟩
                      rw [← eJ370124] at hP
                      have hR : RM w [] I J I J370124 := by rw [eJ370124]; exact hR.pj hM (by decide) (by decide)
                      have hMD : MD w J370124 := by rw [eJ370124]; exact hMD.pj hM (by decide) (by decide)
                      have hD : va_D A (va_pl L (wF cy K N T I Q J370124)) := pD hDo
                      obtain ⟨sg370125, esg370125⟩ : ∃ z, z = sA σ 16 ((0 : Int32).toNatClampNeg) r370121 := ⟨_, rfl⟩
                      have hMR : MR w I J370124 sg370125 := by rw [eJ370124, esg370125]; exact hMR.wa hM (by decide) (by decide)
                      refine lv_iconst (v := 1) hx hb dX7_consume_140 (by decide) ?_
                      refine lv_istore (lv' := [(7, .int 1), (6, .int y370092), (5, .int z370090), (4, .ref (w (21 + (5 * xp.toNatClampNeg + n370007)))), (0, .ref (w 0)), (1, .int xp), (2, .int xo), (3, .int cm)]) hx hb dX7_consume_141 hl (by decide) rfl (fun ls hl => ?_)
                      have e1s : sg370125 = oSe σ (5 * xp.toNatClampNeg + n370007) y370092.toNatClampNeg (1 - 1) := by rw [esg370125, hr370121, cl_0]; rfl
                      have hLP370126 : ∀ (n k370126 : Nat) (Ia370126 Ja370126 : Nat → Nat → Int32) (H : Heap) (locs : List Loc) (ls : Array Slot), k370126 + n = 6 → (Ia370126 = I ∧ 1 ≤ k370126) → RM w [] I J Ia370126 Ja370126 → ML w E Ia370126 → MD w Ja370126 → MU w Ia370126 → MR w Ia370126 Ja370126 (oSe σ (5 * xp.toNatClampNeg + n370007) y370092.toNatClampNeg (k370126 - 1)) →  va_P (dC, dI) vwCl (va_pl L (wF cy K N T Ia370126 Q Ja370126)) H → va_D A (va_pl L (wF cy K N T Ia370126 Q Ja370126)) → va_S A s.heap H locs → lv_has ls 8 [(7, .int (nI k370126)), (6, .int y370092), (5, .int z370090), (4, .ref (w (21 + (5 * xp.toNatClampNeg + n370007)))), (0, .ref (w 0)), (1, .int xp), (2, .int xo), (3, .int cm)] → W p l e (headSpec wsX7_consume ({ frames := 3, cells := 0, slots := 0, locals := 73 })).room s m ([.ref (w 0), .int xp, .int xo, .int cm] : List Value).toArray below meth c H locs 0 0 Qz (F0 m 143 ls []) := by
                        intro n
                        induction n with
                        | zero =>
                          intro k370126  Ia370126 Ja370126 H locs ls hkn370126 hiv370126 hR hML hMD hMU hMR hP hD hS hl
                          obtain rfl : k370126 = 6 := by omega
                          refine lv_iload hx hb dX7_consume_143 (lv_at hl 0 rfl) ?_
                          refine lv_bipush (v := 6) hx hb dX7_consume_145 (by decide) ?_
                          refine lv_icmp_ge (tgt := 174) hx hb dX7_consume_147 (by decide) (fun c370127 => ?_) (fun c370127 => ?_)
                          rotate_left
                          · exact absurd (by decide) c370127
                          refine lv_iload hx hb dX7_consume_174 (lv_at hl 1 rfl) ?_
                          rw [hQz]
                          exact W.iret (v := y370092) hx hb hr (fun t ht hW => ⟨⟨y370092, (Ia370126, Ja370126), rfl, ⟨⟨hML.mono (by omega), hMD, hMU⟩, by have e9 : qCo σ xp xo cm = ((oSe σ (5 * xp.toNatClampNeg + n370007) y370092.toNatClampNeg (6 - 1)), y370092) := (by rw [qCo, if_neg (by have k9 := c370003; simp only [hir370001] at k9; exact k9), oqn370007]; show (if _ then _ else _) = _; rw [if_neg (by have k9 := c370014; simp only [sx370010, sx370012] at k9; exact k9), hmo, ← hiv370091.2, fU_hit (by rw [clT, clT]; omega) (decide_eq_true ⟨by rw [← hr370094]; exact c370096, fun q => c370119 (by rw [hr370117]; exact q.2.1)⟩)]; show (_, nI _) = (_, _); rw [nI, ← xcl9 (by omega)]); show MR w Ia370126 Ja370126 _; rw [e9]; exact hMR, by have e9 : qCo σ xp xo cm = ((oSe σ (5 * xp.toNatClampNeg + n370007) y370092.toNatClampNeg (6 - 1)), y370092) := (by rw [qCo, if_neg (by have k9 := c370003; simp only [hir370001] at k9; exact k9), oqn370007]; show (if _ then _ else _) = _; rw [if_neg (by have k9 := c370014; simp only [sx370010, sx370012] at k9; exact k9), hmo, ← hiv370091.2, fU_hit (by rw [clT, clT]; omega) (decide_eq_true ⟨by rw [← hr370094]; exact c370096, fun q => c370119 (by rw [hr370117]; exact q.2.1)⟩)]; show (_, nI _) = (_, _); rw [nI, ← xcl9 (by omega)]); show _ = _; rw [e9]⟩, by rw [ht]; exact hP, va_K.moved hW.alike hK, hD⟩, hS.F ht⟩) hS.2.2 dX7_consume_176
                        | succ n ih370126 =>
                          intro k370126  Ia370126 Ja370126 H locs ls hkn370126 hiv370126 hR hML hMD hMU hMR hP hD hS hl
                          have hkc370126 : (nI k370126).toNatClampNeg = k370126 := nI_clamp (by omega)
                          have hki370126 : vp_in (nI k370126) 6 := nI_in (by omega) (by decide)
                          refine lv_iload hx hb dX7_consume_143 (lv_at hl 0 rfl) ?_
                          refine lv_bipush (v := 6) hx hb dX7_consume_145 (by decide) ?_
                          refine lv_icmp_ge (tgt := 174) hx hb dX7_consume_147 (by decide) (fun c370128 => ?_) (fun c370128 => ?_)
                          · exact absurd c370128 (nI_ge (b := 6) (by omega) (by decide))
                          refine lv_aload_n hx hb dX7_consume_150 rfl (lv_at hl 4 rfl) ?_
                          obtain ⟨j370129, hj370129⟩ := wG_7 (cy := cy) (N := N) (T := T) (I := Ia370126) (Q := Q) (J := Ja370126) (hM.at 0 (by decide)) (hM.k 0 (by decide) rfl)
                          refine va_get (D := (dC, dI)) (ci := 7) (v := .ref (T (w 0) 15)) (C := RX7) (T := TX7) (N := 18) hx hb hts hi7 hown hK hP j370129 hj370129 rfl 15 (by decide) (hts (.fieldLink RX7 58 "TallyLogsModel" "seen" "[I") (by decide +kernel)) (fun _ h9 => h9) rfl dX7_consume_151 ?_
                          refine W.eq (g2 := F0 m 154 ls [.ref (w 16)]) (by rw [hM.t 15 (by decide)]) ?_
                          refine lv_iload hx hb dX7_consume_154 (lv_at hl 0 rfl) ?_
                          refine lv_aload hx hb dX7_consume_156 (lv_at hl 3 rfl) ?_
                          refine lv_iload hx hb dX7_consume_158 (lv_at hl 1 rfl) ?_
                          refine lv_iload hx hb dX7_consume_160 (lv_at hl 0 rfl) ?_
                          refine lv_iconst (v := 1) hx hb dX7_consume_162 (by decide) ?_
                          refine lv_iadd hx hb dX7_consume_163 ?_
                          refine lv_topi (fun v370130 ev370130 => ?_)
                          have hin370131 : vp_in v370130 8 := by rw [ev370130, show (nI k370126 + 1 : Int32) = nI (k370126 + 1) from nI_add k370126 1]; exact nI_in (by omega) (by decide)
                          obtain ⟨j370133, hj370133⟩ := wG_6 (cy := cy) (N := N) (T := T) (I := Ia370126) (Q := Q) (J := Ja370126) (hM.lg hjn370007).1 (hM.lg hjn370007).2
                          refine vp_callSi (W.runV (As := [.int y370092, .int v370130]) (rest := [.int (nI k370126), .ref (w 16)]) ⟨hx, hb, hml, hown, hts⟩ (f_X6_get l dC dI cy w L K N T Q Ia370126 Ja370126 (5 * xp.toNatClampNeg + n370007) y370092 v370130 (oSe σ (5 * xp.toNatClampNeg + n370007) y370092.toNatClampNeg (k370126 - 1)) hM hjn370007 (by rw [hiv370126.1]; omega) (by rw [hiv370126.1]; omega) (by rw [hiv370126.1]; omega) (by rw [hiv370126.1]; omega) hin370131 hMR) (cwV 2 hts gX7_consume_X6_get rfl rfl rfl (by decide +kernel) ⟨Nat.le_of_ble_eq_true rfl, Nat.le_of_ble_eq_true rfl⟩) ⟨mb_blind, va_recv hK hP (ci := 6) (q0 := j370133) rfl hj370133, fun U hU hW => ⟨rfl, mb_pre hP hK hU hW⟩⟩ rfl rfl hl.1 rfl (lv_room (Nat.le_of_ble_eq_true rfl)) dX7_consume_164 ⟨Nat.le_of_ble_eq_true rfl, Nat.le_of_ble_eq_true rfl⟩) (fun r370132 hr370132 => ?_)
                          obtain ⟨j370134, hj370134⟩ := wG_20 (cy := cy) (N := N) (T := T) (I := Ia370126) (Q := Q) (J := Ja370126) (hM.at 16 (by decide)) (hM.k 16 (by decide) rfl)
                          have hDo := hD
                          refine va_iast (x := r370132) hx hb hK hP hD hS j370134 1 hj370134 rfl (hM.inN (n := 6) 16 (by decide) rfl rfl hki370126) dX7_consume_167 (fun H locs hP hD hS => ?_)
                          have hP := Eq.mp (congrArg (fun w => va_P (dC, dI) vwCl w H) (wS_20 hDo (hM.at 16 (by decide)) (hM.k 16 (by decide) rfl) hj370134)) hP
                          obtain ⟨J370135, eJ370135⟩ : ∃ z, z = va_up Ja370126 (w 16) (upd (Ja370126 (w 16)) (nI k370126).toNatClampNeg r370132) := ⟨_, rfl⟩
                          rw [← eJ370135] at hP
                          have hR : RM w [] I J Ia370126 J370135 := by rw [eJ370135]; exact hR.pj hM (by decide) (by decide)
                          have hMD : MD w J370135 := by rw [eJ370135]; exact hMD.pj hM (by decide) (by decide)
                          have hD : va_D A (va_pl L (wF cy K N T Ia370126 Q J370135)) := pD hDo
                          obtain ⟨sg370136, esg370136⟩ : ∃ z, z = sA (oSe σ (5 * xp.toNatClampNeg + n370007) y370092.toNatClampNeg (k370126 - 1)) 16 ((nI k370126).toNatClampNeg) r370132 := ⟨_, rfl⟩
                          have hMR : MR w Ia370126 J370135 sg370136 := by rw [eJ370135, esg370136]; exact hMR.wa hM (by decide) (by decide)
                          obtain ⟨v370137, ev370137⟩ : ∃ y : Int32, y = (nI k370126) + Int32.ofInt 1 := ⟨_, rfl⟩
                          refine lv_iinc (v := v370137) (lv' := [(7, .int v370137), (6, .int y370092), (5, .int z370090), (4, .ref (w (21 + (5 * xp.toNatClampNeg + n370007)))), (0, .ref (w 0)), (1, .int xp), (2, .int xo), (3, .int cm)]) hx hb dX7_consume_168 hl (k := 0) rfl ev370137.symm (by decide) rfl (fun ls hl => ?_)
                          refine lv_goto (tgt := 143) hx hb dX7_consume_171 (by decide) ?_
                          obtain rfl : v370137 = nI (k370126 + 1) := ev370137.trans (nI_add k370126 1)
                          have e9 : oSe σ (5 * xp.toNatClampNeg + n370007) y370092.toNatClampNeg (k370126 + 1 - 1) = sg370136 := by
                            have ef : v370130.toNatClampNeg = k370126 - 1 + 2 := by rw [ev370130]; rw [show (nI k370126 + 1 : Int32) = nI (k370126 + 1) from nI_add k370126 1, nI_clamp (by omega)]; omega
                            obtain ⟨i, hi⟩ : ∃ i, k370126 = i + 1 := ⟨k370126 - 1, by omega⟩
                            rw [esg370136, hkc370126, hr370132, ef, oSe_2]
                            rw [hi]
                            rfl
                          exact ih370126 (k370126 + 1)  _ _ _ _ _ (by omega) (⟨hiv370126.1, by omega⟩) hR (hML.mono (by omega)) hMD hMU (by rw [e9]; exact hMR) hP hD hS (lv_sub hl [0, 1, 2, 3, 4, 5, 6, 7] rfl)
                      exact hLP370126 5 1  _ _ _ _ _ rfl (⟨rfl, by decide⟩) hR (hML.mono (by omega)) hMD hMU (by rw [← e1s]; exact hMR) hP hD hS (lv_sub hl [0, 1, 2, 3, 4, 5, 6, 7] rfl)
                    · have kc370119 : r370117.toInt = 1 := by have h9 := c370119; rw [xk_eq, xk_1] at h9; exact h9
                      refine lv_aload hx hb dX7_consume_112 (lv_at hl 2 rfl) ?_
                      refine lv_iload hx hb dX7_consume_114 (lv_at hl 0 rfl) ?_
                      refine vp_callSi (W.runS (As := [.ref (w (21 + (5 * xp.toNatClampNeg + n370007))), .int y370092]) (rest := []) ⟨hx, hb, hml, hown, hts⟩ (f_X7_endOf l dC dI cy w L K N T Q I J (5 * xp.toNatClampNeg + n370007) y370092 σ hM hjn370007 (by omega) (by omega) (by omega) (by omega) hMR) (va_cwS 2 hts gX7_consume_X7_endOf rfl rfl rfl (by decide +kernel) ⟨Nat.le_of_ble_eq_true rfl, Nat.le_of_ble_eq_true rfl⟩) ⟨mb_blind, fun U hU hW => ⟨rfl, mb_pre hP hK hU hW⟩⟩ rfl rfl hl.1 rfl (lv_room (Nat.le_of_ble_eq_true rfl)) dX7_consume_116 ⟨Nat.le_of_ble_eq_true rfl, Nat.le_of_ble_eq_true rfl⟩) (fun r370138 hr370138 => ?_)
                      refine lv_iconst (v := 2) hx hb dX7_consume_119 (by decide) ?_
                      refine lv_icmp_ne (tgt := 126) hx hb dX7_consume_120 (by decide) (fun c370139 => ?_) (fun c370139 => ?_)
                      · have kc370139 : ¬ (r370138.toInt = 2) := by have h9 := c370139; rw [xk_eq, xk_2] at h9; exact h9
                        refine lv_aload_n hx hb dX7_consume_126 rfl (lv_at hl 3 rfl) ?_
                        obtain ⟨j370140, hj370140⟩ := wG_7 (cy := cy) (N := N) (T := T) (I := I) (Q := Q) (J := J) (hM.at 0 (by decide)) (hM.k 0 (by decide) rfl)
                        refine va_get (D := (dC, dI)) (ci := 7) (v := .ref (T (w 0) 15)) (C := RX7) (T := TX7) (N := 18) hx hb hts hi7 hown hK hP j370140 hj370140 rfl 15 (by decide) (hts (.fieldLink RX7 58 "TallyLogsModel" "seen" "[I") (by decide +kernel)) (fun _ h9 => h9) rfl dX7_consume_127 ?_
                        refine W.eq (g2 := F0 m 130 ls [.ref (w 16)]) (by rw [hM.t 15 (by decide)]) ?_
                        refine lv_iconst (v := 0) hx hb dX7_consume_130 (by decide) ?_
                        refine lv_aload hx hb dX7_consume_131 (lv_at hl 2 rfl) ?_
                        refine lv_iload hx hb dX7_consume_133 (lv_at hl 0 rfl) ?_
                        refine lv_iconst (v := 0) hx hb dX7_consume_135 (by decide) ?_
                        obtain ⟨j370142, hj370142⟩ := wG_6 (cy := cy) (N := N) (T := T) (I := I) (Q := Q) (J := J) (hM.lg hjn370007).1 (hM.lg hjn370007).2
                        refine vp_callSi (W.runV (As := [.int y370092, .int 0]) (rest := [.int 0, .ref (w 16)]) ⟨hx, hb, hml, hown, hts⟩ (f_X6_get l dC dI cy w L K N T Q I J (5 * xp.toNatClampNeg + n370007) y370092 0 σ hM hjn370007 (by omega) (by omega) (by omega) (by omega) (by unfold vp_in; decide) hMR) (cwV 2 hts gX7_consume_X6_get rfl rfl rfl (by decide +kernel) ⟨Nat.le_of_ble_eq_true rfl, Nat.le_of_ble_eq_true rfl⟩) ⟨mb_blind, va_recv hK hP (ci := 6) (q0 := j370142) rfl hj370142, fun U hU hW => ⟨rfl, mb_pre hP hK hU hW⟩⟩ rfl rfl hl.1 rfl (lv_room (Nat.le_of_ble_eq_true rfl)) dX7_consume_136 ⟨Nat.le_of_ble_eq_true rfl, Nat.le_of_ble_eq_true rfl⟩) (fun r370141 hr370141 => ?_)
                        rw [show (0 : Int32).toNatClampNeg = 0 by decide] at hr370141
                        obtain ⟨j370143, hj370143⟩ := wG_20 (cy := cy) (N := N) (T := T) (I := I) (Q := Q) (J := J) (hM.at 16 (by decide)) (hM.k 16 (by decide) rfl)
                        have hDo := hD
                        refine va_iast (x := r370141) hx hb hK hP hD hS j370143 1 hj370143 rfl (hM.inN (n := 6) 16 (by decide) rfl rfl (by unfold vp_in; decide)) dX7_consume_139 (fun H locs hP hD hS => ?_)
                        have hP := Eq.mp (congrArg (fun w => va_P (dC, dI) vwCl w H) (wS_20 hDo (hM.at 16 (by decide)) (hM.k 16 (by decide) rfl) hj370143)) hP
                        obtain ⟨J370144, eJ370144⟩ : ∃ z, z = va_up J (w 16) (upd (J (w 16)) (0 : Int32).toNatClampNeg r370141) := ⟨_, rfl⟩
                        rw [← eJ370144] at hP
                        have hR : RM w [] I J I J370144 := by rw [eJ370144]; exact hR.pj hM (by decide) (by decide)
                        have hMD : MD w J370144 := by rw [eJ370144]; exact hMD.pj hM (by decide) (by decide)
                        have hD : va_D A (va_pl L (wF cy K N T I Q J370144)) := pD hDo
                        obtain ⟨sg370145, esg370145⟩ : ∃ z, z = sA σ 16 ((0 : Int32).toNatClampNeg) r370141 := ⟨_, rfl⟩
                        have hMR : MR w I J370144 sg370145 := by rw [eJ370144, esg370145]; exact hMR.wa hM (by decide) (by decide)
                        refine lv_iconst (v := 1) hx hb dX7_consume_140 (by decide) ?_
                        refine lv_istore (lv' := [(7, .int 1), (6, .int y370092), (5, .int z370090), (4, .ref (w (21 + (5 * xp.toNatClampNeg + n370007)))), (0, .ref (w 0)), (1, .int xp), (2, .int xo), (3, .int cm)]) hx hb dX7_consume_141 hl (by decide) rfl (fun ls hl => ?_)
                        have e1s : sg370145 = oSe σ (5 * xp.toNatClampNeg + n370007) y370092.toNatClampNeg (1 - 1) := by rw [esg370145, hr370141, cl_0]; rfl
                        have hLP370146 : ∀ (n k370146 : Nat) (Ia370146 Ja370146 : Nat → Nat → Int32) (H : Heap) (locs : List Loc) (ls : Array Slot), k370146 + n = 6 → (Ia370146 = I ∧ 1 ≤ k370146) → RM w [] I J Ia370146 Ja370146 → ML w E Ia370146 → MD w Ja370146 → MU w Ia370146 → MR w Ia370146 Ja370146 (oSe σ (5 * xp.toNatClampNeg + n370007) y370092.toNatClampNeg (k370146 - 1)) →  va_P (dC, dI) vwCl (va_pl L (wF cy K N T Ia370146 Q Ja370146)) H → va_D A (va_pl L (wF cy K N T Ia370146 Q Ja370146)) → va_S A s.heap H locs → lv_has ls 8 [(7, .int (nI k370146)), (6, .int y370092), (5, .int z370090), (4, .ref (w (21 + (5 * xp.toNatClampNeg + n370007)))), (0, .ref (w 0)), (1, .int xp), (2, .int xo), (3, .int cm)] → W p l e (headSpec wsX7_consume ({ frames := 3, cells := 0, slots := 0, locals := 73 })).room s m ([.ref (w 0), .int xp, .int xo, .int cm] : List Value).toArray below meth c H locs 0 0 Qz (F0 m 143 ls []) := by
                          intro n
                          induction n with
                          | zero =>
                            intro k370146  Ia370146 Ja370146 H locs ls hkn370146 hiv370146 hR hML hMD hMU hMR hP hD hS hl
                            obtain rfl : k370146 = 6 := by omega
                            refine lv_iload hx hb dX7_consume_143 (lv_at hl 0 rfl) ?_
                            refine lv_bipush (v := 6) hx hb dX7_consume_145 (by decide) ?_
                            refine lv_icmp_ge (tgt := 174) hx hb dX7_consume_147 (by decide) (fun c370147 => ?_) (fun c370147 => ?_)
                            rotate_left
                            · exact absurd (by decide) c370147
                            refine lv_iload hx hb dX7_consume_174 (lv_at hl 1 rfl) ?_
                            rw [hQz]
                            exact W.iret (v := y370092) hx hb hr (fun t ht hW => ⟨⟨y370092, (Ia370146, Ja370146), rfl, ⟨⟨hML.mono (by omega), hMD, hMU⟩, by have e9 : qCo σ xp xo cm = ((oSe σ (5 * xp.toNatClampNeg + n370007) y370092.toNatClampNeg (6 - 1)), y370092) := (by rw [qCo, if_neg (by have k9 := c370003; simp only [hir370001] at k9; exact k9), oqn370007]; show (if _ then _ else _) = _; rw [if_neg (by have k9 := c370014; simp only [sx370010, sx370012] at k9; exact k9), hmo, ← hiv370091.2, fU_hit (by rw [clT, clT]; omega) (decide_eq_true ⟨by rw [← hr370094]; exact c370096, fun q => c370139 (by rw [hr370138]; exact q.2.2)⟩)]; show (_, nI _) = (_, _); rw [nI, ← xcl9 (by omega)]); show MR w Ia370146 Ja370146 _; rw [e9]; exact hMR, by have e9 : qCo σ xp xo cm = ((oSe σ (5 * xp.toNatClampNeg + n370007) y370092.toNatClampNeg (6 - 1)), y370092) := (by rw [qCo, if_neg (by have k9 := c370003; simp only [hir370001] at k9; exact k9), oqn370007]; show (if _ then _ else _) = _; rw [if_neg (by have k9 := c370014; simp only [sx370010, sx370012] at k9; exact k9), hmo, ← hiv370091.2, fU_hit (by rw [clT, clT]; omega) (decide_eq_true ⟨by rw [← hr370094]; exact c370096, fun q => c370139 (by rw [hr370138]; exact q.2.2)⟩)]; show (_, nI _) = (_, _); rw [nI, ← xcl9 (by omega)]); show _ = _; rw [e9]⟩, by rw [ht]; exact hP, va_K.moved hW.alike hK, hD⟩, hS.F ht⟩) hS.2.2 dX7_consume_176
                          | succ n ih370146 =>
                            intro k370146  Ia370146 Ja370146 H locs ls hkn370146 hiv370146 hR hML hMD hMU hMR hP hD hS hl
                            have hkc370146 : (nI k370146).toNatClampNeg = k370146 := nI_clamp (by omega)
                            have hki370146 : vp_in (nI k370146) 6 := nI_in (by omega) (by decide)
                            refine lv_iload hx hb dX7_consume_143 (lv_at hl 0 rfl) ?_
                            refine lv_bipush (v := 6) hx hb dX7_consume_145 (by decide) ?_
                            refine lv_icmp_ge (tgt := 174) hx hb dX7_consume_147 (by decide) (fun c370148 => ?_) (fun c370148 => ?_)
                            · exact absurd c370148 (nI_ge (b := 6) (by omega) (by decide))
                            refine lv_aload_n hx hb dX7_consume_150 rfl (lv_at hl 4 rfl) ?_
                            obtain ⟨j370149, hj370149⟩ := wG_7 (cy := cy) (N := N) (T := T) (I := Ia370146) (Q := Q) (J := Ja370146) (hM.at 0 (by decide)) (hM.k 0 (by decide) rfl)
                            refine va_get (D := (dC, dI)) (ci := 7) (v := .ref (T (w 0) 15)) (C := RX7) (T := TX7) (N := 18) hx hb hts hi7 hown hK hP j370149 hj370149 rfl 15 (by decide) (hts (.fieldLink RX7 58 "TallyLogsModel" "seen" "[I") (by decide +kernel)) (fun _ h9 => h9) rfl dX7_consume_151 ?_
                            refine W.eq (g2 := F0 m 154 ls [.ref (w 16)]) (by rw [hM.t 15 (by decide)]) ?_
                            refine lv_iload hx hb dX7_consume_154 (lv_at hl 0 rfl) ?_
                            refine lv_aload hx hb dX7_consume_156 (lv_at hl 3 rfl) ?_
                            refine lv_iload hx hb dX7_consume_158 (lv_at hl 1 rfl) ?_
                            refine lv_iload hx hb dX7_consume_160 (lv_at hl 0 rfl) ?_
                            refine lv_iconst (v := 1) hx hb dX7_consume_162 (by decide) ?_
                            refine lv_iadd hx hb dX7_consume_163 ?_
                            refine lv_topi (fun v370150 ev370150 => ?_)
                            have hin370151 : vp_in v370150 8 := by rw [ev370150, show (nI k370146 + 1 : Int32) = nI (k370146 + 1) from nI_add k370146 1]; exact nI_in (by omega) (by decide)
                            obtain ⟨j370153, hj370153⟩ := wG_6 (cy := cy) (N := N) (T := T) (I := Ia370146) (Q := Q) (J := Ja370146) (hM.lg hjn370007).1 (hM.lg hjn370007).2
                            refine vp_callSi (W.runV (As := [.int y370092, .int v370150]) (rest := [.int (nI k370146), .ref (w 16)]) ⟨hx, hb, hml, hown, hts⟩ (f_X6_get l dC dI cy w L K N T Q Ia370146 Ja370146 (5 * xp.toNatClampNeg + n370007) y370092 v370150 (oSe σ (5 * xp.toNatClampNeg + n370007) y370092.toNatClampNeg (k370146 - 1)) hM hjn370007 (by rw [hiv370146.1]; omega) (by rw [hiv370146.1]; omega) (by rw [hiv370146.1]; omega) (by rw [hiv370146.1]; omega) hin370151 hMR) (cwV 2 hts gX7_consume_X6_get rfl rfl rfl (by decide +kernel) ⟨Nat.le_of_ble_eq_true rfl, Nat.le_of_ble_eq_true rfl⟩) ⟨mb_blind, va_recv hK hP (ci := 6) (q0 := j370153) rfl hj370153, fun U hU hW => ⟨rfl, mb_pre hP hK hU hW⟩⟩ rfl rfl hl.1 rfl (lv_room (Nat.le_of_ble_eq_true rfl)) dX7_consume_164 ⟨Nat.le_of_ble_eq_true rfl, Nat.le_of_ble_eq_true rfl⟩) (fun r370152 hr370152 => ?_)
                            obtain ⟨j370154, hj370154⟩ := wG_20 (cy := cy) (N := N) (T := T) (I := Ia370146) (Q := Q) (J := Ja370146) (hM.at 16 (by decide)) (hM.k 16 (by decide) rfl)
                            have hDo := hD
                            refine va_iast (x := r370152) hx hb hK hP hD hS j370154 1 hj370154 rfl (hM.inN (n := 6) 16 (by decide) rfl rfl hki370146) dX7_consume_167 (fun H locs hP hD hS => ?_)
                            have hP := Eq.mp (congrArg (fun w => va_P (dC, dI) vwCl w H) (wS_20 hDo (hM.at 16 (by decide)) (hM.k 16 (by decide) rfl) hj370154)) hP
                            obtain ⟨J370155, eJ370155⟩ : ∃ z, z = va_up Ja370146 (w 16) (upd (Ja370146 (w 16)) (nI k370146).toNatClampNeg r370152) := ⟨_, rfl⟩
                            rw [← eJ370155] at hP
                            have hR : RM w [] I J Ia370146 J370155 := by rw [eJ370155]; exact hR.pj hM (by decide) (by decide)
                            have hMD : MD w J370155 := by rw [eJ370155]; exact hMD.pj hM (by decide) (by decide)
                            have hD : va_D A (va_pl L (wF cy K N T Ia370146 Q J370155)) := pD hDo
                            obtain ⟨sg370156, esg370156⟩ : ∃ z, z = sA (oSe σ (5 * xp.toNatClampNeg + n370007) y370092.toNatClampNeg (k370146 - 1)) 16 ((nI k370146).toNatClampNeg) r370152 := ⟨_, rfl⟩
                            have hMR : MR w Ia370146 J370155 sg370156 := by rw [eJ370155, esg370156]; exact hMR.wa hM (by decide) (by decide)
                            obtain ⟨v370157, ev370157⟩ : ∃ y : Int32, y = (nI k370146) + Int32.ofInt 1 := ⟨_, rfl⟩
                            refine lv_iinc (v := v370157) (lv' := [(7, .int v370157), (6, .int y370092), (5, .int z370090), (4, .ref (w (21 + (5 * xp.toNatClampNeg + n370007)))), (0, .ref (w 0)), (1, .int xp), (2, .int xo), (3, .int cm)]) hx hb dX7_consume_168 hl (k := 0) rfl ev370157.symm (by decide) rfl (fun ls hl => ?_)
                            refine lv_goto (tgt := 143) hx hb dX7_consume_171 (by decide) ?_
                            obtain rfl : v370157 = nI (k370146 + 1) := ev370157.trans (nI_add k370146 1)
                            have e9 : oSe σ (5 * xp.toNatClampNeg + n370007) y370092.toNatClampNeg (k370146 + 1 - 1) = sg370156 := by
                              have ef : v370150.toNatClampNeg = k370146 - 1 + 2 := by rw [ev370150]; rw [show (nI k370146 + 1 : Int32) = nI (k370146 + 1) from nI_add k370146 1, nI_clamp (by omega)]; omega
                              obtain ⟨i, hi⟩ : ∃ i, k370146 = i + 1 := ⟨k370146 - 1, by omega⟩
                              rw [esg370156, hkc370146, hr370152, ef, oSe_2]
                              rw [hi]
                              rfl
                            exact ih370146 (k370146 + 1)  _ _ _ _ _ (by omega) (⟨hiv370146.1, by omega⟩) hR (hML.mono (by omega)) hMD hMU (by rw [e9]; exact hMR) hP hD hS (lv_sub hl [0, 1, 2, 3, 4, 5, 6, 7] rfl)
                        exact hLP370146 5 1  _ _ _ _ _ rfl (⟨rfl, by decide⟩) hR (hML.mono (by omega)) hMD hMU (by rw [← e1s]; exact hMR) hP hD hS (lv_sub hl [0, 1, 2, 3, 4, 5, 6, 7] rfl)
                      · have kc370139 : r370138.toInt = 2 := by have h9 := c370139; rw [xk_eq, xk_2] at h9; exact h9
                        refine lv_goto (tgt := 177) hx hb dX7_consume_123 (by decide) ?_
                        obtain ⟨v370158, ev370158⟩ : ∃ y : Int32, y = y370092 + Int32.ofInt 1 := ⟨_, rfl⟩
                        refine lv_iinc (v := v370158) (lv' := [(6, .int v370158), (5, .int z370090), (4, .ref (w (21 + (5 * xp.toNatClampNeg + n370007)))), (0, .ref (w 0)), (1, .int xp), (2, .int xo), (3, .int cm)]) hx hb dX7_consume_177 hl (k := 0) rfl ev370158.symm (by decide) rfl (fun ls hl => ?_)
                        refine lv_goto (tgt := 77) hx hb dX7_consume_180 (by decide) ?_
                        have tv370158 : v370158.toInt = y370092.toInt + 1 := by rw [ev370158, show y370092 + Int32.ofInt 1 = y370092 + 1 from rfl]; exact xinc (y := z370090) (by rw [xk_lt]; omega)
                        exact ih370091 _ _ (by omega) (by omega) (⟨by omega, by rw [clsucc (y := y370092) (by omega) tv370158, ← fU_step (by rw [clT, clT]; omega) (fun q => (of_decide_eq_true q).2 ⟨c370098, by rw [← hr370117]; exact c370119, by rw [← hr370138]; exact c370139⟩)]; exact hiv370091.2⟩)  (lv_sub hl [0, 1, 2, 3, 4, 5, 6] rfl)
          exact hLP370091 _ _ _ (Nat.lt_succ_self _) (by omega) (⟨by omega, rfl⟩)  (lv_sub hl [0, 1, 2, 3, 4, 5, 6] rfl)
      · refine lv_iconst (v := (-1)) hx hb dX7_consume_45 (by decide) ?_
        exact W.iret (v := (-1)) hx hb hr (fun t ht hW => ⟨⟨(-1), (I, J), rfl, ⟨⟨hML.mono (by omega), hMD, hMU⟩, by have e9 : qCo σ xp xo cm = (σ, (-1)) := (by rw [qCo, if_neg (by have k9 := c370003; simp only [hir370001] at k9; exact k9), oqn370007]; show (if _ then _ else _) = _; rw [if_pos (by have k9 := c370014; simp only [sx370010, sx370012] at k9; exact k9)]); show MR w I J _; rw [e9]; exact hMR, by have e9 : qCo σ xp xo cm = (σ, (-1)) := (by rw [qCo, if_neg (by have k9 := c370003; simp only [hir370001] at k9; exact k9), oqn370007]; show (if _ then _ else _) = _; rw [if_pos (by have k9 := c370014; simp only [sx370010, sx370012] at k9; exact k9)]); show _ = _; rw [e9]⟩, by rw [ht]; exact hP, va_K.moved hW.alike hK, hD⟩, hS.F ht⟩) hS.2.2 dX7_consume_46
  · have kc370003 : r370001.toInt = 0 := by have h9 := c370003; rw [xk_eq, xk_0] at h9; exact h9
    refine lv_iconst (v := (-1)) hx hb dX7_consume_8 (by decide) ?_
    exact W.iret (v := (-1)) hx hb hr (fun t ht hW => ⟨⟨(-1), (I, J), rfl, ⟨⟨hML.mono (by omega), hMD, hMU⟩, by have e9 : qCo σ xp xo cm = (σ, (-1)) := (by rw [qCo, if_pos (by have k9 := c370003; simp only [hir370001] at k9; exact k9)]); show MR w I J _; rw [e9]; exact hMR, by have e9 : qCo σ xp xo cm = (σ, (-1)) := (by rw [qCo, if_pos (by have k9 := c370003; simp only [hir370001] at k9; exact k9)]); show _ = _; rw [e9]⟩, by rw [ht]; exact hP, va_K.moved hW.alike hK, hD⟩, hS.F ht⟩) hS.2.2 dX7_consume_9
