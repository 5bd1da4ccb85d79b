set_option maxHeartbeats 4000000 in
set_option maxRecDepth 100000 in
/-- consume -/
theorem c_X7_consume (l : Launch) (dC : Nat → ClassId) (dI : Nat → Nat → Nat) (cy : Nat → ClassId) (w : Nat → Nat) (L : List Nat) (K N : Nat → Nat) (T : Nat → Nat → Nat) (Q : Nat → Nat → Option Nat) (I J : Nat → Nat → Int32) (sz : Nat) (E : Int) (xp : Int32) (xo : Int32) (cm : Int32) (hM : MS w L K N T Q) (hI : MI w E I J) (hE : E ≤ 1000) : Met l yX7_consume wsX7_consume ({ frames := 3, cells := 0, slots := 0, locals := 73 }) (va_Pc [.ref (w 0), .int xp, .int xo, .int cm] (mW dC dI cy L (wF cy K N T I Q J) sz)) (va_Qi (fun (r : Int32) (d : (Nat → Nat → Int32) × (Nat → Nat → Int32)) => MI w (E + 5) d.1 d.2 ∧ RM w [] I J d.1 d.2) (fun (d : (Nat → Nat → Int32) × (Nat → Nat → Int32)) t => va_P (dC, dI) vwCl (va_pl L (wF cy K N T d.1 Q d.2)) t.heap ∧ va_K (dC, dI) vwCl (mTy cy) t ∧ va_D (va_A (va_pl L (wF cy K N T I Q J)) sz) (va_pl L (wF cy K N T d.1 Q d.2))) (va_A (va_pl L (wF cy K N T I Q J)) sz)) 0 0 (va_A (va_pl L (wF cy K N T I Q J)) sz) := by
  refine Met.ofW (cc := cX7_consume) (maxL := 8) (ret := (some .int)) (by decide) rfl ?_
  intro p e s m args below meth c s₁ B hml hv
  obtain ⟨rfl, hsz, ⟨hP, hK⟩, hD0⟩ := hv
  have hx := B.exec
  have hb := B.bytes
  have hr := B.returns
  have hts := atoms_spec (ws := wsX7_consume) B.pre
  have hown : s.vm.findClass RX7 = some m.cls := findClass_of_methodNamed B.named
  have hlocks := B.notSynchronized
  have hi7 : ∀ w ∈ wsX70, w ∈ wsX7_consume := by decide +kernel
  have hi6 : ∀ w ∈ wsX60, w ∈ wsX7_consume := by decide +kernel
  have hl := lv_entry ([.ref (w 0), .int xp, .int xo, .int cm]) (n := 8) (Nat.le_of_ble_eq_true rfl)
  rw [lg_entry_eq]
  generalize (lg_sl ([.ref (w 0), .int xp, .int xo, .int cm]) ++ List.replicate (8 - (lg_sl ([.ref (w 0), .int xp, .int xo, .int cm])).length) Slot.unset).toArray = ls at hl ⊢
  have hl : lv_has ls 8 [(0, .ref (w 0)), (1, .int xp), (2, .int xo), (3, .int cm)] := hl
  subst hsz
  have hD := hD0.self (sz := s.heap.size)
  generalize hAe : va_A (va_pl L (wF cy K N T I Q J)) s.heap.size = A at hD ⊢
  have hA : ∀ q : Nat, s.heap.size ≤ q → A q := fun q h => by rw [← hAe]; exact Or.inr h
  have hS : va_S A s.heap s.heap [] := va_S.rf
  have hR : RM w [] I J I J := RM.rf
  obtain ⟨hML, hMD, hMU⟩ := hI
  refine lv_aload_n hx hb dX7_consume_0 rfl (lv_at hl 0 rfl) ?_
  refine lv_iload_n hx hb dX7_consume_1 rfl (lv_at hl 1 rfl) ?_
  obtain ⟨j1200, hj1200⟩ := wG_7 (cy := cy) (N := N) (T := T) (I := I) (Q := Q) (J := J) (hM.at 0 (by decide)) (hM.k 0 (by decide) rfl)
  refine vp_callSi (W.runV (As := [.int xp]) (rest := []) ⟨hx, hb, hml, hown, hts⟩ (c_X7_isThere l dC dI cy w L K N T Q I J xp hM) (cwV 1 hts gX7_consume_X7_isThere rfl rfl rfl (by decide +kernel) ⟨Nat.le_of_ble_eq_true rfl, Nat.le_of_ble_eq_true rfl⟩) ⟨mb_blind, va_recv hK hP (ci := 7) (q0 := j1200) rfl hj1200, fun U hU hW => ⟨rfl, mb_pre hP hK hU hW⟩⟩ rfl rfl hl.1 rfl (lv_room (Nat.le_of_ble_eq_true rfl)) dX7_consume_2 ⟨Nat.le_of_ble_eq_true rfl, Nat.le_of_ble_eq_true rfl⟩) (fun r1199 hr1199 => ?_)
  refine lv_if_ne (tgt := 10) hx hb dX7_consume_5 (by decide) (fun c1201 => ?_) (fun c1201 => ?_)
  · have hth1202 := sp_it1 (by rw [← hr1199]; exact c1201)
    have kc1201 : ¬ (r1199.toInt = 0) := by have h9 := c1201; rw [xk_eq, xk_0] at h9; exact h9
    refine lv_aload_n hx hb dX7_consume_10 rfl (lv_at hl 0 rfl) ?_
    refine lv_iload_n hx hb dX7_consume_11 rfl (lv_at hl 1 rfl) ?_
    obtain ⟨j1204, hj1204⟩ := wG_7 (cy := cy) (N := N) (T := T) (I := I) (Q := Q) (J := J) (hM.at 0 (by decide)) (hM.k 0 (by decide) rfl)
    refine va_csq (W.runV (As := [.int xp]) (rest := []) ⟨hx, hb, hml, hown, hts⟩ (c_X7_own l dC dI cy w L K N T Q I J xp hM hth1202.1) (cwV 1 hts gX7_consume_X7_own rfl rfl rfl (by decide +kernel) ⟨Nat.le_of_ble_eq_true rfl, Nat.le_of_ble_eq_true rfl⟩) ⟨mb_blind, va_recv hK hP (ci := 7) (q0 := j1204) rfl hj1204, fun U hU hW => ⟨rfl, mb_pre hP hK hU hW⟩⟩ rfl rfl hl.1 rfl (lv_room (Nat.le_of_ble_eq_true rfl)) dX7_consume_12 ⟨Nat.le_of_ble_eq_true rfl, Nat.le_of_ble_eq_true rfl⟩) (fun r1203 hr1203 => ?_)
    subst hr1203
    rcases sp_ow_cs w (I (w 0) 16) (J (w 4) xp.toNatClampNeg) xp.toNatClampNeg with hon1205 | ⟨n1205, hnn1205, eln1205, hubn1205, hon1205⟩
    · refine W.eq (g2 := F0 m 15 ls [.null]) (by rw [hon1205]; rfl) ?_
      refine lv_astoreN (lv' := [(4, .null), (0, .ref (w 0)), (1, .int xp), (2, .int xo), (3, .int cm)]) hx hb dX7_consume_15 hl (by decide) rfl (fun ls hl => ?_)
      refine lv_aloadN hx hb dX7_consume_17 (lv_at hl 0 rfl) ?_
      refine lv_ifnonnullN hx hb dX7_consume_19 ?_
      refine lv_bipush (v := (-2)) hx hb dX7_consume_22 (by decide) ?_
      exact W.iret (v := (-2)) hx hb hr (fun t ht hW => ⟨⟨(-2), (I, J), rfl, ⟨⟨hML.mono (by omega), hMD, hMU⟩, hR⟩, by rw [ht]; exact hP, va_K.moved hW.alike hK, hD⟩, hS.F ht⟩) hS.2.2 dX7_consume_24
    · have hjn1205 : (5 * xp.toNatClampNeg + n1205) < 20 := by have h1 := vp_lt (n := 4) hth1202.1; omega
      refine W.eq (g2 := F0 m 15 ls [.ref (w (21 + (5 * xp.toNatClampNeg + n1205)))]) (by rw [hon1205]; rfl) ?_
      refine lv_astore (lv' := [(4, .ref (w (21 + (5 * xp.toNatClampNeg + n1205)))), (0, .ref (w 0)), (1, .int xp), (2, .int xo), (3, .int cm)]) hx hb dX7_consume_15 hl (by decide) rfl (fun ls hl => ?_)
      refine lv_aload hx hb dX7_consume_17 (lv_at hl 0 rfl) ?_
      refine lv_ifnonnull (tgt := 25) hx hb dX7_consume_19 (by decide) ?_
      obtain ⟨ha1206, hb1206, hc1206, hd1206, he1206, hf1206⟩ := hML (5 * xp.toNatClampNeg + n1205) hjn1205
      refine lv_iload_n hx hb dX7_consume_25 rfl (lv_at hl 3 rfl) ?_
      refine lv_i2l (v := xo.toInt64) hx hb dX7_consume_26 rfl ?_
      refine lv_aload hx hb dX7_consume_27 (lv_at hl 0 rfl) ?_
      obtain ⟨j1207, hj1207⟩ := wG_6 (cy := cy) (N := N) (T := T) (I := I) (Q := Q) (J := J) (hM.lg hjn1205).1 (hM.lg hjn1205).2
      refine va_get (D := (dC, dI)) (ci := 6) (v := .int (I (w (21 + (5 * xp.toNatClampNeg + n1205))) 1)) (C := RX6) (T := TX6) (N := 7) hx hb hts hi6 hown hK hP j1207 hj1207 rfl 1 (by decide) (hts (.fieldLink RX7 134 "TallyLogsModel$Log" "start" "I") (by decide +kernel)) (fun _ h9 => h9) rfl dX7_consume_29 ?_
      refine lv_topi (fun x1208 ex1208 => ?_)
      have tx1208 : x1208.toInt = (I (w (21 + (5 * xp.toNatClampNeg + n1205))) 1).toInt := congrArg Int32.toInt ex1208
      refine lv_i2l (v := x1208.toInt64) hx hb dX7_consume_32 rfl ?_
      refine lv_aload hx hb dX7_consume_33 (lv_at hl 0 rfl) ?_
      obtain ⟨j1209, hj1209⟩ := wG_6 (cy := cy) (N := N) (T := T) (I := I) (Q := Q) (J := J) (hM.lg hjn1205).1 (hM.lg hjn1205).2
      refine va_get (D := (dC, dI)) (ci := 6) (v := .int (I (w (21 + (5 * xp.toNatClampNeg + n1205))) 3)) (C := RX6) (T := TX6) (N := 7) hx hb hts hi6 hown hK hP j1209 hj1209 rfl 3 (by decide) (hts (.fieldLink RX7 109 "TallyLogsModel$Log" "high" "I") (by decide +kernel)) (fun _ h9 => h9) rfl dX7_consume_35 ?_
      refine lv_topi (fun x1210 ex1210 => ?_)
      have tx1210 : x1210.toInt = (I (w (21 + (5 * xp.toNatClampNeg + n1205))) 3).toInt := congrArg Int32.toInt ex1210
      refine lv_i2l (v := x1210.toInt64) hx hb dX7_consume_38 rfl ?_
      refine vp_callSi (W.runS (As := [.long xo.toInt64, .long x1208.toInt64, .long x1210.toInt64]) (rest := []) ⟨hx, hb, hml, hown, hts⟩ (c_X7_in l xo.toInt64 x1208.toInt64 x1210.toInt64) (va_cwS 3 hts gX7_consume_X7_in rfl rfl rfl (by decide +kernel) ⟨Nat.le_of_ble_eq_true rfl, Nat.le_of_ble_eq_true rfl⟩) preEq rfl rfl hl.1 rfl (lv_room (Nat.le_of_ble_eq_true rfl)) dX7_consume_39 ⟨Nat.le_of_ble_eq_true rfl, Nat.le_of_ble_eq_true rfl⟩) (fun r1211 hr1211 => ?_)
      subst hr1211
      refine lv_if_ne (tgt := 47) hx hb dX7_consume_42 (by decide) (fun c1212 => ?_) (fun c1212 => ?_)
      · have hbt1213 := xin_s2 c1212
        refine lv_iload_n hx hb dX7_consume_47 rfl (lv_at hl 4 rfl) ?_
        refine lv_if_eq (tgt := 67) hx hb dX7_consume_48 (by decide) (fun c1214 => ?_) (fun c1214 => ?_)
        · have kc1214 : cm.toInt = 0 := by have h9 := c1214; rw [xk_eq, xk_0] at h9; exact h9
          refine lv_aload hx hb dX7_consume_67 (lv_at hl 0 rfl) ?_
          obtain ⟨j1215, hj1215⟩ := wG_6 (cy := cy) (N := N) (T := T) (I := I) (Q := Q) (J := J) (hM.lg hjn1205).1 (hM.lg hjn1205).2
          refine va_get (D := (dC, dI)) (ci := 6) (v := .int (I (w (21 + (5 * xp.toNatClampNeg + n1205))) 3)) (C := RX6) (T := TX6) (N := 7) hx hb hts hi6 hown hK hP j1215 hj1215 rfl 3 (by decide) (hts (.fieldLink RX7 109 "TallyLogsModel$Log" "high" "I") (by decide +kernel)) (fun _ h9 => h9) rfl dX7_consume_69 ?_
          refine lv_topi (fun x1216 ex1216 => ?_)
          have tx1216 : x1216.toInt = (I (w (21 + (5 * xp.toNatClampNeg + n1205))) 3).toInt := congrArg Int32.toInt ex1216
          refine lv_istore (lv' := [(5, .int x1216), (4, .ref (w (21 + (5 * xp.toNatClampNeg + n1205)))), (0, .ref (w 0)), (1, .int xp), (2, .int xo), (3, .int cm)]) hx hb dX7_consume_72 hl (by decide) rfl (fun ls hl => ?_)
          refine lv_iload_n hx hb dX7_consume_74 rfl (lv_at hl 4 rfl) ?_
          refine lv_istore (lv' := [(6, .int xo), (5, .int x1216), (4, .ref (w (21 + (5 * xp.toNatClampNeg + n1205)))), (0, .ref (w 0)), (1, .int xp), (2, .int xo), (3, .int cm)]) hx hb dX7_consume_75 hl (by decide) rfl (fun ls hl => ?_)
          refine wq_gen (fun Qz hQz => ?_)
          have hLP1217 : ∀ (n : Nat) (y1218 : Int32) (ls : Array Slot), ((x1216).toInt - y1218.toInt).toNat < n → 0 ≤ y1218.toInt → ((I (w (21 + (5 * xp.toNatClampNeg + n1205))) 1).toInt ≤ y1218.toInt) → lv_has ls 8 [(6, .int y1218), (5, .int x1216), (4, .ref (w (21 + (5 * xp.toNatClampNeg + n1205)))), (0, .ref (w 0)), (1, .int xp), (2, .int xo), (3, .int cm)] → W p l e (headSpec wsX7_consume ({ frames := 3, cells := 0, slots := 0, locals := 73 })).room s m ([.ref (w 0), .int xp, .int xo, .int cm] : List Value).toArray below meth c s.heap [] 0 0 Qz (F0 m 77 ls []) := by
            intro n
            induction n with
            | zero => intro y1218 ls hms; exact absurd hms (Nat.not_lt_zero _)
            | succ n ih1217 =>
              intro y1218 ls hms hnn1217 hiv1217 hl
              refine lv_iload hx hb dX7_consume_77 (lv_at hl 0 rfl) ?_
              refine lv_iload hx hb dX7_consume_79 (lv_at hl 1 rfl) ?_
              refine lv_icmp_ge (tgt := 183) hx hb dX7_consume_81 (by decide) (fun c1219 => ?_) (fun c1219 => ?_)
              · have kc1219 : x1216.toInt ≤ y1218.toInt := by have h9 := c1219; rw [xk_le] at h9; exact h9
                refine lv_bipush (v := (-2)) hx hb dX7_consume_183 (by decide) ?_
                rw [hQz]
                exact W.iret (v := (-2)) hx hb hr (fun t ht hW => ⟨⟨(-2), (I, J), rfl, ⟨⟨hML.mono (by omega), hMD, hMU⟩, hR⟩, by rw [ht]; exact hP, va_K.moved hW.alike hK, hD⟩, hS.F ht⟩) hS.2.2 dX7_consume_185
              · have kc1219 : ¬ (x1216.toInt ≤ y1218.toInt) := by have h9 := c1219; rw [xk_le] at h9; exact h9
                refine lv_aload hx hb dX7_consume_84 (lv_at hl 2 rfl) ?_
                refine lv_iload hx hb dX7_consume_86 (lv_at hl 0 rfl) ?_
                refine lv_iconst (v := 1) hx hb dX7_consume_88 (by decide) ?_
                obtain ⟨j1221, hj1221⟩ := wG_6 (cy := cy) (N := N) (T := T) (I := I) (Q := Q) (J := J) (hM.lg hjn1205).1 (hM.lg hjn1205).2
                refine vp_callSi (W.runV (As := [.int y1218, .int 1]) (rest := []) ⟨hx, hb, hml, hown, hts⟩ (c_X6_get l dC dI cy w L K N T Q I J (5 * xp.toNatClampNeg + n1205) y1218 1 hM hjn1205 (by omega) (by omega) (by unfold vp_in; decide)) (cwV 2 hts gX7_consume_X6_get rfl rfl rfl (by decide +kernel) ⟨Nat.le_of_ble_eq_true rfl, Nat.le_of_ble_eq_true rfl⟩) ⟨mb_blind, va_recv hK hP (ci := 6) (q0 := j1221) rfl hj1221, fun U hU hW => ⟨rfl, mb_pre hP hK hU hW⟩⟩ rfl rfl hl.1 rfl (lv_room (Nat.le_of_ble_eq_true rfl)) dX7_consume_89 ⟨Nat.le_of_ble_eq_true rfl, Nat.le_of_ble_eq_true rfl⟩) (fun r1220 hr1220 => ?_)
                refine lv_if_ne (tgt := 177) hx hb dX7_consume_92 (by decide) (fun c1222 => ?_) (fun c1222 => ?_)
                · have kc1222 : ¬ (r1220.toInt = 0) := by have h9 := c1222; rw [xk_eq, xk_0] at h9; exact h9
                  obtain ⟨v1223, ev1223⟩ : ∃ y : Int32, y = y1218 + Int32.ofInt 1 := ⟨_, rfl⟩
                  refine lv_iinc (v := v1223) (lv' := [(6, .int v1223), (5, .int x1216), (4, .ref (w (21 + (5 * xp.toNatClampNeg + n1205)))), (0, .ref (w 0)), (1, .int xp), (2, .int xo), (3, .int cm)]) hx hb dX7_consume_177 hl (k := 0) rfl ev1223.symm (by decide) rfl (fun ls hl => ?_)
                  refine lv_goto (tgt := 77) hx hb dX7_consume_180 (by decide) ?_
                  have tv1223 : v1223.toInt = y1218.toInt + 1 := by rw [ev1223, show y1218 + Int32.ofInt 1 = y1218 + 1 from rfl]; exact xinc (y := x1216) (by rw [xk_lt]; omega)
                  exact ih1217 _ _ (by omega) (by omega) (by omega)  (lv_sub hl [0, 1, 2, 3, 4, 5, 6] rfl)
                · have kc1222 : r1220.toInt = 0 := by have h9 := c1222; rw [xk_eq, xk_0] at h9; exact h9
                  refine lv_iload_n hx hb dX7_consume_95 rfl (lv_at hl 6 rfl) ?_
                  refine lv_if_eq (tgt := 126) hx hb dX7_consume_96 (by decide) (fun c1224 => ?_) (fun c1224 => ?_)
                  · have kc1224 : cm.toInt = 0 := by have h9 := c1224; rw [xk_eq, xk_0] at h9; exact h9
                    refine lv_aload_n hx hb dX7_consume_126 rfl (lv_at hl 3 rfl) ?_
                    obtain ⟨j1225, hj1225⟩ := wG_7 (cy := cy) (N := N) (T := T) (I := I) (Q := Q) (J := J) (hM.at 0 (by decide)) (hM.k 0 (by decide) rfl)
                    refine va_get (D := (dC, dI)) (ci := 7) (v := .ref (T (w 0) 15)) (C := RX7) (T := TX7) (N := 18) hx hb hts hi7 hown hK hP j1225 hj1225 rfl 15 (by decide) (hts (.fieldLink RX7 58 "TallyLogsModel" "seen" "[I") (by decide +kernel)) (fun _ h9 => h9) rfl dX7_consume_127 ?_
                    refine W.eq (g2 := F0 m 130 ls [.ref (w 16)]) (by rw [hM.t 15 (by decide)]) ?_
                    refine lv_iconst (v := 0) hx hb dX7_consume_130 (by decide) ?_
                    refine lv_aload hx hb dX7_consume_131 (lv_at hl 2 rfl) ?_
                    refine lv_iload hx hb dX7_consume_133 (lv_at hl 0 rfl) ?_
                    refine lv_iconst (v := 0) hx hb dX7_consume_135 (by decide) ?_
                    obtain ⟨j1227, hj1227⟩ := wG_6 (cy := cy) (N := N) (T := T) (I := I) (Q := Q) (J := J) (hM.lg hjn1205).1 (hM.lg hjn1205).2
                    refine vp_callSi (W.runV (As := [.int y1218, .int 0]) (rest := [.int 0, .ref (w 16)]) ⟨hx, hb, hml, hown, hts⟩ (c_X6_get l dC dI cy w L K N T Q I J (5 * xp.toNatClampNeg + n1205) y1218 0 hM hjn1205 (by omega) (by omega) (by unfold vp_in; decide)) (cwV 2 hts gX7_consume_X6_get rfl rfl rfl (by decide +kernel) ⟨Nat.le_of_ble_eq_true rfl, Nat.le_of_ble_eq_true rfl⟩) ⟨mb_blind, va_recv hK hP (ci := 6) (q0 := j1227) rfl hj1227, fun U hU hW => ⟨rfl, mb_pre hP hK hU hW⟩⟩ rfl rfl hl.1 rfl (lv_room (Nat.le_of_ble_eq_true rfl)) dX7_consume_136 ⟨Nat.le_of_ble_eq_true rfl, Nat.le_of_ble_eq_true rfl⟩) (fun r1226 hr1226 => ?_)
                    obtain ⟨j1228, hj1228⟩ := wG_20 (cy := cy) (N := N) (T := T) (I := I) (Q := Q) (J := J) (hM.at 16 (by decide)) (hM.k 16 (by decide) rfl)
                    have hDo := hD
                    refine va_iast (x := r1226) hx hb hK hP hD hS j1228 1 hj1228 rfl (hM.inN (n := 6) 16 (by decide) rfl rfl (by unfold vp_in; decide)) dX7_consume_139 (fun H locs hP hD hS => ?_)
                    have hP := Eq.mp (congrArg (fun w => va_P (dC, dI) vwCl w H) (wS_20 hDo (hM.at 16 (by decide)) (hM.k 16 (by decide) rfl) hj1228)) hP
                    obtain ⟨J1229, eJ1229⟩ : ∃ z, z = va_up J (w 16) (upd (J (w 16)) (0 : Int32).toNatClampNeg r1226) := ⟨_, rfl⟩
                    rw [← eJ1229] at hP
                    have hR : RM w [] I J I J1229 := by rw [eJ1229]; exact hR.pj hM (by decide) (by decide)
                    have hMD : MD w J1229 := by rw [eJ1229]; exact hMD.pj hM (by decide) (by decide)
                    have hD : va_D A (va_pl L (wF cy K N T I Q J1229)) := pD hDo
                    refine lv_iconst (v := 1) hx hb dX7_consume_140 (by decide) ?_
                    refine lv_istore (lv' := [(7, .int 1), (6, .int y1218), (5, .int x1216), (4, .ref (w (21 + (5 * xp.toNatClampNeg + n1205)))), (0, .ref (w 0)), (1, .int xp), (2, .int xo), (3, .int cm)]) hx hb dX7_consume_141 hl (by decide) rfl (fun ls hl => ?_)
                    have hLP1230 : ∀ (n : Nat) (y1231 : Int32) (Ia1230 Ja1230 : Nat → Nat → Int32) (H : Heap) (locs : List Loc) (ls : Array Slot), (6 - y1231.toInt).toNat < n → 0 ≤ y1231.toInt → (Ia1230 = I) → RM w [] I J Ia1230 Ja1230 → ML w E Ia1230 → MD w Ja1230 → MU w Ia1230 →  va_P (dC, dI) vwCl (va_pl L (wF cy K N T Ia1230 Q Ja1230)) H → va_D A (va_pl L (wF cy K N T Ia1230 Q Ja1230)) → va_S A s.heap H locs → lv_has ls 8 [(7, .int y1231), (6, .int y1218), (5, .int x1216), (4, .ref (w (21 + (5 * xp.toNatClampNeg + n1205)))), (0, .ref (w 0)), (1, .int xp), (2, .int xo), (3, .int cm)] → W p l e (headSpec wsX7_consume ({ frames := 3, cells := 0, slots := 0, locals := 73 })).room s m ([.ref (w 0), .int xp, .int xo, .int cm] : List Value).toArray below meth c H locs 0 0 Qz (F0 m 143 ls []) := by
                      intro n
                      induction n with
                      | zero => intro y1231 Ia1230 Ja1230 H locs ls hms; exact absurd hms (Nat.not_lt_zero _)
                      | succ n ih1230 =>
                        intro y1231 Ia1230 Ja1230 H locs ls hms hnn1230 hiv1230 hR hML hMD hMU hP hD hS hl
                        refine lv_iload hx hb dX7_consume_143 (lv_at hl 0 rfl) ?_
                        refine lv_bipush (v := 6) hx hb dX7_consume_145 (by decide) ?_
                        refine lv_icmp_ge (tgt := 174) hx hb dX7_consume_147 (by decide) (fun c1232 => ?_) (fun c1232 => ?_)
                        · have kc1232 : 6 ≤ y1231.toInt := by have h9 := c1232; rw [xk_le, xk_6] at h9; exact h9
                          refine lv_iload hx hb dX7_consume_174 (lv_at hl 1 rfl) ?_
                          rw [hQz]
                          exact W.iret (v := y1218) hx hb hr (fun t ht hW => ⟨⟨y1218, (Ia1230, Ja1230), rfl, ⟨⟨hML.mono (by omega), hMD, hMU⟩, hR⟩, by rw [ht]; exact hP, va_K.moved hW.alike hK, hD⟩, hS.F ht⟩) hS.2.2 dX7_consume_176
                        · have kc1232 : ¬ (6 ≤ y1231.toInt) := by have h9 := c1232; rw [xk_le, xk_6] at h9; exact h9
                          refine lv_aload_n hx hb dX7_consume_150 rfl (lv_at hl 4 rfl) ?_
                          obtain ⟨j1233, hj1233⟩ := wG_7 (cy := cy) (N := N) (T := T) (I := Ia1230) (Q := Q) (J := Ja1230) (hM.at 0 (by decide)) (hM.k 0 (by decide) rfl)
                          refine va_get (D := (dC, dI)) (ci := 7) (v := .ref (T (w 0) 15)) (C := RX7) (T := TX7) (N := 18) hx hb hts hi7 hown hK hP j1233 hj1233 rfl 15 (by decide) (hts (.fieldLink RX7 58 "TallyLogsModel" "seen" "[I") (by decide +kernel)) (fun _ h9 => h9) rfl dX7_consume_151 ?_
                          refine W.eq (g2 := F0 m 154 ls [.ref (w 16)]) (by rw [hM.t 15 (by decide)]) ?_
                          refine lv_iload hx hb dX7_consume_154 (lv_at hl 0 rfl) ?_
                          refine lv_aload hx hb dX7_consume_156 (lv_at hl 3 rfl) ?_
                          refine lv_iload hx hb dX7_consume_158 (lv_at hl 1 rfl) ?_
                          refine lv_iload hx hb dX7_consume_160 (lv_at hl 0 rfl) ?_
                          refine lv_iconst (v := 1) hx hb dX7_consume_162 (by decide) ?_
                          refine lv_iadd hx hb dX7_consume_163 ?_
                          refine lv_topi (fun v1234 ev1234 => ?_)
                          have hin1235 : vp_in v1234 8 := by rw [ev1234]; exact xin_of (by rw [xaddk (k := 1) (by decide) (by omega) (by omega)]; omega) (by rw [xaddk (k := 1) (by decide) (by omega) (by omega)]; omega)
                          obtain ⟨j1237, hj1237⟩ := wG_6 (cy := cy) (N := N) (T := T) (I := Ia1230) (Q := Q) (J := Ja1230) (hM.lg hjn1205).1 (hM.lg hjn1205).2
                          refine vp_callSi (W.runV (As := [.int y1218, .int v1234]) (rest := [.int y1231, .ref (w 16)]) ⟨hx, hb, hml, hown, hts⟩ (c_X6_get l dC dI cy w L K N T Q Ia1230 Ja1230 (5 * xp.toNatClampNeg + n1205) y1218 v1234 hM hjn1205 (by rw [hiv1230]; omega) (by rw [hiv1230]; omega) hin1235) (cwV 2 hts gX7_consume_X6_get rfl rfl rfl (by decide +kernel) ⟨Nat.le_of_ble_eq_true rfl, Nat.le_of_ble_eq_true rfl⟩) ⟨mb_blind, va_recv hK hP (ci := 6) (q0 := j1237) rfl hj1237, fun U hU hW => ⟨rfl, mb_pre hP hK hU hW⟩⟩ rfl rfl hl.1 rfl (lv_room (Nat.le_of_ble_eq_true rfl)) dX7_consume_164 ⟨Nat.le_of_ble_eq_true rfl, Nat.le_of_ble_eq_true rfl⟩) (fun r1236 hr1236 => ?_)
                          obtain ⟨j1238, hj1238⟩ := wG_20 (cy := cy) (N := N) (T := T) (I := Ia1230) (Q := Q) (J := Ja1230) (hM.at 16 (by decide)) (hM.k 16 (by decide) rfl)
                          have hDo := hD
                          refine va_iast (x := r1236) hx hb hK hP hD hS j1238 1 hj1238 rfl (hM.inN (n := 6) 16 (by decide) rfl rfl (xin_of hnn1230 (by have kc := c1232; simp only [xk_lt, xk_le, xk_0, xk_1, xk_2, xk_3, xk_4, xk_5, xk_6, xk_7, xk_8, xk_50] at kc; omega))) dX7_consume_167 (fun H locs hP hD hS => ?_)
                          have hP := Eq.mp (congrArg (fun w => va_P (dC, dI) vwCl w H) (wS_20 hDo (hM.at 16 (by decide)) (hM.k 16 (by decide) rfl) hj1238)) hP
                          obtain ⟨J1239, eJ1239⟩ : ∃ z, z = va_up Ja1230 (w 16) (upd (Ja1230 (w 16)) y1231.toNatClampNeg r1236) := ⟨_, rfl⟩
                          rw [← eJ1239] at hP
                          have hR : RM w [] I J Ia1230 J1239 := by rw [eJ1239]; exact hR.pj hM (by decide) (by decide)
                          have hMD : MD w J1239 := by rw [eJ1239]; exact hMD.pj hM (by decide) (by decide)
                          have hD : va_D A (va_pl L (wF cy K N T Ia1230 Q J1239)) := pD hDo
                          obtain ⟨v1240, ev1240⟩ : ∃ y : Int32, y = y1231 + Int32.ofInt 1 := ⟨_, rfl⟩
                          refine lv_iinc (v := v1240) (lv' := [(7, .int v1240), (6, .int y1218), (5, .int x1216), (4, .ref (w (21 + (5 * xp.toNatClampNeg + n1205)))), (0, .ref (w 0)), (1, .int xp), (2, .int xo), (3, .int cm)]) hx hb dX7_consume_168 hl (k := 0) rfl ev1240.symm (by decide) rfl (fun ls hl => ?_)
                          refine lv_goto (tgt := 143) hx hb dX7_consume_171 (by decide) ?_
                          have tv1240 : v1240.toInt = y1231.toInt + 1 := by rw [ev1240, show y1231 + Int32.ofInt 1 = y1231 + 1 from rfl]; exact xinc (y := (6 : Int32)) (by rw [xk_lt, xk_6]; omega)
                          exact ih1230 _ _ _ _ _ _ (by omega) (by omega) (hiv1230) hR (hML.mono (by omega)) hMD hMU hP hD hS (lv_sub hl [0, 1, 2, 3, 4, 5, 6, 7] rfl)
                    exact hLP1230 _ _ _ _ _ _ _ (Nat.lt_succ_self _) (by decide) (rfl) hR (hML.mono (by omega)) hMD hMU hP hD hS (lv_sub hl [0, 1, 2, 3, 4, 5, 6, 7] rfl)
                  · have kc1224 : ¬ (cm.toInt = 0) := by have h9 := c1224; rw [xk_eq, xk_0] at h9; exact h9
                    refine lv_aload hx hb dX7_consume_99 (lv_at hl 2 rfl) ?_
                    refine lv_iload hx hb dX7_consume_101 (lv_at hl 0 rfl) ?_
                    refine lv_bipush (v := 7) hx hb dX7_consume_103 (by decide) ?_
                    obtain ⟨j1242, hj1242⟩ := wG_6 (cy := cy) (N := N) (T := T) (I := I) (Q := Q) (J := J) (hM.lg hjn1205).1 (hM.lg hjn1205).2
                    refine vp_callSi (W.runV (As := [.int y1218, .int 7]) (rest := []) ⟨hx, hb, hml, hown, hts⟩ (c_X6_get l dC dI cy w L K N T Q I J (5 * xp.toNatClampNeg + n1205) y1218 7 hM hjn1205 (by omega) (by omega) (by unfold vp_in; decide)) (cwV 2 hts gX7_consume_X6_get rfl rfl rfl (by decide +kernel) ⟨Nat.le_of_ble_eq_true rfl, Nat.le_of_ble_eq_true rfl⟩) ⟨mb_blind, va_recv hK hP (ci := 6) (q0 := j1242) rfl hj1242, fun U hU hW => ⟨rfl, mb_pre hP hK hU hW⟩⟩ rfl rfl hl.1 rfl (lv_room (Nat.le_of_ble_eq_true rfl)) dX7_consume_105 ⟨Nat.le_of_ble_eq_true rfl, Nat.le_of_ble_eq_true rfl⟩) (fun r1241 hr1241 => ?_)
                    refine lv_iconst (v := 1) hx hb dX7_consume_108 (by decide) ?_
                    refine lv_icmp_ne (tgt := 126) hx hb dX7_consume_109 (by decide) (fun c1243 => ?_) (fun c1243 => ?_)
                    · have kc1243 : ¬ (r1241.toInt = 1) := by have h9 := c1243; rw [xk_eq, xk_1] at h9; exact h9
                      refine lv_aload_n hx hb dX7_consume_126 rfl (lv_at hl 3 rfl) ?_
                      obtain ⟨j1244, hj1244⟩ := wG_7 (cy := cy) (N := N) (T := T) (I := I) (Q := Q) (J := J) (hM.at 0 (by decide)) (hM.k 0 (by decide) rfl)
                      refine va_get (D := (dC, dI)) (ci := 7) (v := .ref (T (w 0) 15)) (C := RX7) (T := TX7) (N := 18) hx hb hts hi7 hown hK hP j1244 hj1244 rfl 15 (by decide) (hts (.fieldLink RX7 58 "TallyLogsModel" "seen" "[I") (by decide +kernel)) (fun _ h9 => h9) rfl dX7_consume_127 ?_
                      refine W.eq (g2 := F0 m 130 ls [.ref (w 16)]) (by rw [hM.t 15 (by decide)]) ?_
                      refine lv_iconst (v := 0) hx hb dX7_consume_130 (by decide) ?_
                      refine lv_aload hx hb dX7_consume_131 (lv_at hl 2 rfl) ?_
                      refine lv_iload hx hb dX7_consume_133 (lv_at hl 0 rfl) ?_
                      refine lv_iconst (v := 0) hx hb dX7_consume_135 (by decide) ?_
                      obtain ⟨j1246, hj1246⟩ := wG_6 (cy := cy) (N := N) (T := T) (I := I) (Q := Q) (J := J) (hM.lg hjn1205).1 (hM.lg hjn1205).2
                      refine vp_callSi (W.runV (As := [.int y1218, .int 0]) (rest := [.int 0, .ref (w 16)]) ⟨hx, hb, hml, hown, hts⟩ (c_X6_get l dC dI cy w L K N T Q I J (5 * xp.toNatClampNeg + n1205) y1218 0 hM hjn1205 (by omega) (by omega) (by unfold vp_in; decide)) (cwV 2 hts gX7_consume_X6_get rfl rfl rfl (by decide +kernel) ⟨Nat.le_of_ble_eq_true rfl, Nat.le_of_ble_eq_true rfl⟩) ⟨mb_blind, va_recv hK hP (ci := 6) (q0 := j1246) rfl hj1246, fun U hU hW => ⟨rfl, mb_pre hP hK hU hW⟩⟩ rfl rfl hl.1 rfl (lv_room (Nat.le_of_ble_eq_true rfl)) dX7_consume_136 ⟨Nat.le_of_ble_eq_true rfl, Nat.le_of_ble_eq_true rfl⟩) (fun r1245 hr1245 => ?_)
                      obtain ⟨j1247, hj1247⟩ := wG_20 (cy := cy) (N := N) (T := T) (I := I) (Q := Q) (J := J) (hM.at 16 (by decide)) (hM.k 16 (by decide) rfl)
                      have hDo := hD
                      refine va_iast (x := r1245) hx hb hK hP hD hS j1247 1 hj1247 rfl (hM.inN (n := 6) 16 (by decide) rfl rfl (by unfold vp_in; decide)) dX7_consume_139 (fun H locs hP hD hS => ?_)
                      have hP := Eq.mp (congrArg (fun w => va_P (dC, dI) vwCl w H) (wS_20 hDo (hM.at 16 (by decide)) (hM.k 16 (by decide) rfl) hj1247)) hP
                      obtain ⟨J1248, eJ1248⟩ : ∃ z, z = va_up J (w 16) (upd (J (w 16)) (0 : Int32).toNatClampNeg r1245) := ⟨_, rfl⟩
                      rw [← eJ1248] at hP
                      have hR : RM w [] I J I J1248 := by rw [eJ1248]; exact hR.pj hM (by decide) (by decide)
                      have hMD : MD w J1248 := by rw [eJ1248]; exact hMD.pj hM (by decide) (by decide)
                      have hD : va_D A (va_pl L (wF cy K N T I Q J1248)) := pD hDo
                      refine lv_iconst (v := 1) hx hb dX7_consume_140 (by decide) ?_
                      refine lv_istore (lv' := [(7, .int 1), (6, .int y1218), (5, .int x1216), (4, .ref (w (21 + (5 * xp.toNatClampNeg + n1205)))), (0, .ref (w 0)), (1, .int xp), (2, .int xo), (3, .int cm)]) hx hb dX7_consume_141 hl (by decide) rfl (fun ls hl => ?_)
                      have hLP1249 : ∀ (n : Nat) (y1250 : Int32) (Ia1249 Ja1249 : Nat → Nat → Int32) (H : Heap) (locs : List Loc) (ls : Array Slot), (6 - y1250.toInt).toNat < n → 0 ≤ y1250.toInt → (Ia1249 = I) → RM w [] I J Ia1249 Ja1249 → ML w E Ia1249 → MD w Ja1249 → MU w Ia1249 →  va_P (dC, dI) vwCl (va_pl L (wF cy K N T Ia1249 Q Ja1249)) H → va_D A (va_pl L (wF cy K N T Ia1249 Q Ja1249)) → va_S A s.heap H locs → lv_has ls 8 [(7, .int y1250), (6, .int y1218), (5, .int x1216), (4, .ref (w (21 + (5 * xp.toNatClampNeg + n1205)))), (0, .ref (w 0)), (1, .int xp), (2, .int xo), (3, .int cm)] → W p l e (headSpec wsX7_consume ({ frames := 3, cells := 0, slots := 0, locals := 73 })).room s m ([.ref (w 0), .int xp, .int xo, .int cm] : List Value).toArray below meth c H locs 0 0 Qz (F0 m 143 ls []) := by
                        intro n
                        induction n with
                        | zero => intro y1250 Ia1249 Ja1249 H locs ls hms; exact absurd hms (Nat.not_lt_zero _)
                        | succ n ih1249 =>
                          intro y1250 Ia1249 Ja1249 H locs ls hms hnn1249 hiv1249 hR hML hMD hMU hP hD hS hl
                          refine lv_iload hx hb dX7_consume_143 (lv_at hl 0 rfl) ?_
                          refine lv_bipush (v := 6) hx hb dX7_consume_145 (by decide) ?_
                          refine lv_icmp_ge (tgt := 174) hx hb dX7_consume_147 (by decide) (fun c1251 => ?_) (fun c1251 => ?_)
                          · have kc1251 : 6 ≤ y1250.toInt := by have h9 := c1251; rw [xk_le, xk_6] at h9; exact h9
                            refine lv_iload hx hb dX7_consume_174 (lv_at hl 1 rfl) ?_
                            rw [hQz]
                            exact W.iret (v := y1218) hx hb hr (fun t ht hW => ⟨⟨y1218, (Ia1249, Ja1249), rfl, ⟨⟨hML.mono (by omega), hMD, hMU⟩, hR⟩, by rw [ht]; exact hP, va_K.moved hW.alike hK, hD⟩, hS.F ht⟩) hS.2.2 dX7_consume_176
                          · have kc1251 : ¬ (6 ≤ y1250.toInt) := by have h9 := c1251; rw [xk_le, xk_6] at h9; exact h9
                            refine lv_aload_n hx hb dX7_consume_150 rfl (lv_at hl 4 rfl) ?_
                            obtain ⟨j1252, hj1252⟩ := wG_7 (cy := cy) (N := N) (T := T) (I := Ia1249) (Q := Q) (J := Ja1249) (hM.at 0 (by decide)) (hM.k 0 (by decide) rfl)
                            refine va_get (D := (dC, dI)) (ci := 7) (v := .ref (T (w 0) 15)) (C := RX7) (T := TX7) (N := 18) hx hb hts hi7 hown hK hP j1252 hj1252 rfl 15 (by decide) (hts (.fieldLink RX7 58 "TallyLogsModel" "seen" "[I") (by decide +kernel)) (fun _ h9 => h9) rfl dX7_consume_151 ?_
                            refine W.eq (g2 := F0 m 154 ls [.ref (w 16)]) (by rw [hM.t 15 (by decide)]) ?_
                            refine lv_iload hx hb dX7_consume_154 (lv_at hl 0 rfl) ?_
                            refine lv_aload hx hb dX7_consume_156 (lv_at hl 3 rfl) ?_
                            refine lv_iload hx hb dX7_consume_158 (lv_at hl 1 rfl) ?_
                            refine lv_iload hx hb dX7_consume_160 (lv_at hl 0 rfl) ?_
                            refine lv_iconst (v := 1) hx hb dX7_consume_162 (by decide) ?_
                            refine lv_iadd hx hb dX7_consume_163 ?_
                            refine lv_topi (fun v1253 ev1253 => ?_)
                            have hin1254 : vp_in v1253 8 := by rw [ev1253]; exact xin_of (by rw [xaddk (k := 1) (by decide) (by omega) (by omega)]; omega) (by rw [xaddk (k := 1) (by decide) (by omega) (by omega)]; omega)
                            obtain ⟨j1256, hj1256⟩ := wG_6 (cy := cy) (N := N) (T := T) (I := Ia1249) (Q := Q) (J := Ja1249) (hM.lg hjn1205).1 (hM.lg hjn1205).2
                            refine vp_callSi (W.runV (As := [.int y1218, .int v1253]) (rest := [.int y1250, .ref (w 16)]) ⟨hx, hb, hml, hown, hts⟩ (c_X6_get l dC dI cy w L K N T Q Ia1249 Ja1249 (5 * xp.toNatClampNeg + n1205) y1218 v1253 hM hjn1205 (by rw [hiv1249]; omega) (by rw [hiv1249]; omega) hin1254) (cwV 2 hts gX7_consume_X6_get rfl rfl rfl (by decide +kernel) ⟨Nat.le_of_ble_eq_true rfl, Nat.le_of_ble_eq_true rfl⟩) ⟨mb_blind, va_recv hK hP (ci := 6) (q0 := j1256) rfl hj1256, fun U hU hW => ⟨rfl, mb_pre hP hK hU hW⟩⟩ rfl rfl hl.1 rfl (lv_room (Nat.le_of_ble_eq_true rfl)) dX7_consume_164 ⟨Nat.le_of_ble_eq_true rfl, Nat.le_of_ble_eq_true rfl⟩) (fun r1255 hr1255 => ?_)
                            obtain ⟨j1257, hj1257⟩ := wG_20 (cy := cy) (N := N) (T := T) (I := Ia1249) (Q := Q) (J := Ja1249) (hM.at 16 (by decide)) (hM.k 16 (by decide) rfl)
                            have hDo := hD
                            refine va_iast (x := r1255) hx hb hK hP hD hS j1257 1 hj1257 rfl (hM.inN (n := 6) 16 (by decide) rfl rfl (xin_of hnn1249 (by have kc := c1251; simp only [xk_lt, xk_le, xk_0, xk_1, xk_2, xk_3, xk_4, xk_5, xk_6, xk_7, xk_8, xk_50] at kc; omega))) dX7_consume_167 (fun H locs hP hD hS => ?_)
                            have hP := Eq.mp (congrArg (fun w => va_P (dC, dI) vwCl w H) (wS_20 hDo (hM.at 16 (by decide)) (hM.k 16 (by decide) rfl) hj1257)) hP
                            obtain ⟨J1258, eJ1258⟩ : ∃ z, z = va_up Ja1249 (w 16) (upd (Ja1249 (w 16)) y1250.toNatClampNeg r1255) := ⟨_, rfl⟩
                            rw [← eJ1258] at hP
                            have hR : RM w [] I J Ia1249 J1258 := by rw [eJ1258]; exact hR.pj hM (by decide) (by decide)
                            have hMD : MD w J1258 := by rw [eJ1258]; exact hMD.pj hM (by decide) (by decide)
                            have hD : va_D A (va_pl L (wF cy K N T Ia1249 Q J1258)) := pD hDo
                            obtain ⟨v1259, ev1259⟩ : ∃ y : Int32, y = y1250 + Int32.ofInt 1 := ⟨_, rfl⟩
                            refine lv_iinc (v := v1259) (lv' := [(7, .int v1259), (6, .int y1218), (5, .int x1216), (4, .ref (w (21 + (5 * xp.toNatClampNeg + n1205)))), (0, .ref (w 0)), (1, .int xp), (2, .int xo), (3, .int cm)]) hx hb dX7_consume_168 hl (k := 0) rfl ev1259.symm (by decide) rfl (fun ls hl => ?_)
                            refine lv_goto (tgt := 143) hx hb dX7_consume_171 (by decide) ?_
                            have tv1259 : v1259.toInt = y1250.toInt + 1 := by rw [ev1259, show y1250 + Int32.ofInt 1 = y1250 + 1 from rfl]; exact xinc (y := (6 : Int32)) (by rw [xk_lt, xk_6]; omega)
                            exact ih1249 _ _ _ _ _ _ (by omega) (by omega) (hiv1249) hR (hML.mono (by omega)) hMD hMU hP hD hS (lv_sub hl [0, 1, 2, 3, 4, 5, 6, 7] rfl)
                      exact hLP1249 _ _ _ _ _ _ _ (Nat.lt_succ_self _) (by decide) (rfl) hR (hML.mono (by omega)) hMD hMU hP hD hS (lv_sub hl [0, 1, 2, 3, 4, 5, 6, 7] rfl)
                    · have kc1243 : r1241.toInt = 1 := by have h9 := c1243; rw [xk_eq, xk_1] at h9; exact h9
                      refine lv_aload hx hb dX7_consume_112 (lv_at hl 2 rfl) ?_
                      refine lv_iload hx hb dX7_consume_114 (lv_at hl 0 rfl) ?_
                      refine vp_callSi (W.runS (As := [.ref (w (21 + (5 * xp.toNatClampNeg + n1205))), .int y1218]) (rest := []) ⟨hx, hb, hml, hown, hts⟩ (c_X7_endOf l dC dI cy w L K N T Q I J (5 * xp.toNatClampNeg + n1205) y1218 hM hjn1205 (by omega) (by omega) (by omega) (by omega)) (va_cwS 2 hts gX7_consume_X7_endOf rfl rfl rfl (by decide +kernel) ⟨Nat.le_of_ble_eq_true rfl, Nat.le_of_ble_eq_true rfl⟩) ⟨mb_blind, fun U hU hW => ⟨rfl, mb_pre hP hK hU hW⟩⟩ rfl rfl hl.1 rfl (lv_room (Nat.le_of_ble_eq_true rfl)) dX7_consume_116 ⟨Nat.le_of_ble_eq_true rfl, Nat.le_of_ble_eq_true rfl⟩) (fun r1260 hr1260 => ?_)
                      refine lv_iconst (v := 2) hx hb dX7_consume_119 (by decide) ?_
                      refine lv_icmp_ne (tgt := 126) hx hb dX7_consume_120 (by decide) (fun c1261 => ?_) (fun c1261 => ?_)
                      · have kc1261 : ¬ (r1260.toInt = 2) := by have h9 := c1261; rw [xk_eq, xk_2] at h9; exact h9
                        refine lv_aload_n hx hb dX7_consume_126 rfl (lv_at hl 3 rfl) ?_
                        obtain ⟨j1262, hj1262⟩ := wG_7 (cy := cy) (N := N) (T := T) (I := I) (Q := Q) (J := J) (hM.at 0 (by decide)) (hM.k 0 (by decide) rfl)
                        refine va_get (D := (dC, dI)) (ci := 7) (v := .ref (T (w 0) 15)) (C := RX7) (T := TX7) (N := 18) hx hb hts hi7 hown hK hP j1262 hj1262 rfl 15 (by decide) (hts (.fieldLink RX7 58 "TallyLogsModel" "seen" "[I") (by decide +kernel)) (fun _ h9 => h9) rfl dX7_consume_127 ?_
                        refine W.eq (g2 := F0 m 130 ls [.ref (w 16)]) (by rw [hM.t 15 (by decide)]) ?_
                        refine lv_iconst (v := 0) hx hb dX7_consume_130 (by decide) ?_
                        refine lv_aload hx hb dX7_consume_131 (lv_at hl 2 rfl) ?_
                        refine lv_iload hx hb dX7_consume_133 (lv_at hl 0 rfl) ?_
                        refine lv_iconst (v := 0) hx hb dX7_consume_135 (by decide) ?_
                        obtain ⟨j1264, hj1264⟩ := wG_6 (cy := cy) (N := N) (T := T) (I := I) (Q := Q) (J := J) (hM.lg hjn1205).1 (hM.lg hjn1205).2
                        refine vp_callSi (W.runV (As := [.int y1218, .int 0]) (rest := [.int 0, .ref (w 16)]) ⟨hx, hb, hml, hown, hts⟩ (c_X6_get l dC dI cy w L K N T Q I J (5 * xp.toNatClampNeg + n1205) y1218 0 hM hjn1205 (by omega) (by omega) (by unfold vp_in; decide)) (cwV 2 hts gX7_consume_X6_get rfl rfl rfl (by decide +kernel) ⟨Nat.le_of_ble_eq_true rfl, Nat.le_of_ble_eq_true rfl⟩) ⟨mb_blind, va_recv hK hP (ci := 6) (q0 := j1264) rfl hj1264, fun U hU hW => ⟨rfl, mb_pre hP hK hU hW⟩⟩ rfl rfl hl.1 rfl (lv_room (Nat.le_of_ble_eq_true rfl)) dX7_consume_136 ⟨Nat.le_of_ble_eq_true rfl, Nat.le_of_ble_eq_true rfl⟩) (fun r1263 hr1263 => ?_)
                        obtain ⟨j1265, hj1265⟩ := wG_20 (cy := cy) (N := N) (T := T) (I := I) (Q := Q) (J := J) (hM.at 16 (by decide)) (hM.k 16 (by decide) rfl)
                        have hDo := hD
                        refine va_iast (x := r1263) hx hb hK hP hD hS j1265 1 hj1265 rfl (hM.inN (n := 6) 16 (by decide) rfl rfl (by unfold vp_in; decide)) dX7_consume_139 (fun H locs hP hD hS => ?_)
                        have hP := Eq.mp (congrArg (fun w => va_P (dC, dI) vwCl w H) (wS_20 hDo (hM.at 16 (by decide)) (hM.k 16 (by decide) rfl) hj1265)) hP
                        obtain ⟨J1266, eJ1266⟩ : ∃ z, z = va_up J (w 16) (upd (J (w 16)) (0 : Int32).toNatClampNeg r1263) := ⟨_, rfl⟩
                        rw [← eJ1266] at hP
                        have hR : RM w [] I J I J1266 := by rw [eJ1266]; exact hR.pj hM (by decide) (by decide)
                        have hMD : MD w J1266 := by rw [eJ1266]; exact hMD.pj hM (by decide) (by decide)
                        have hD : va_D A (va_pl L (wF cy K N T I Q J1266)) := pD hDo
                        refine lv_iconst (v := 1) hx hb dX7_consume_140 (by decide) ?_
                        refine lv_istore (lv' := [(7, .int 1), (6, .int y1218), (5, .int x1216), (4, .ref (w (21 + (5 * xp.toNatClampNeg + n1205)))), (0, .ref (w 0)), (1, .int xp), (2, .int xo), (3, .int cm)]) hx hb dX7_consume_141 hl (by decide) rfl (fun ls hl => ?_)
                        have hLP1267 : ∀ (n : Nat) (y1268 : Int32) (Ia1267 Ja1267 : Nat → Nat → Int32) (H : Heap) (locs : List Loc) (ls : Array Slot), (6 - y1268.toInt).toNat < n → 0 ≤ y1268.toInt → (Ia1267 = I) → RM w [] I J Ia1267 Ja1267 → ML w E Ia1267 → MD w Ja1267 → MU w Ia1267 →  va_P (dC, dI) vwCl (va_pl L (wF cy K N T Ia1267 Q Ja1267)) H → va_D A (va_pl L (wF cy K N T Ia1267 Q Ja1267)) → va_S A s.heap H locs → lv_has ls 8 [(7, .int y1268), (6, .int y1218), (5, .int x1216), (4, .ref (w (21 + (5 * xp.toNatClampNeg + n1205)))), (0, .ref (w 0)), (1, .int xp), (2, .int xo), (3, .int cm)] → W p l e (headSpec wsX7_consume ({ frames := 3, cells := 0, slots := 0, locals := 73 })).room s m ([.ref (w 0), .int xp, .int xo, .int cm] : List Value).toArray below meth c H locs 0 0 Qz (F0 m 143 ls []) := by
                          intro n
                          induction n with
                          | zero => intro y1268 Ia1267 Ja1267 H locs ls hms; exact absurd hms (Nat.not_lt_zero _)
                          | succ n ih1267 =>
                            intro y1268 Ia1267 Ja1267 H locs ls hms hnn1267 hiv1267 hR hML hMD hMU hP hD hS hl
                            refine lv_iload hx hb dX7_consume_143 (lv_at hl 0 rfl) ?_
                            refine lv_bipush (v := 6) hx hb dX7_consume_145 (by decide) ?_
                            refine lv_icmp_ge (tgt := 174) hx hb dX7_consume_147 (by decide) (fun c1269 => ?_) (fun c1269 => ?_)
                            · have kc1269 : 6 ≤ y1268.toInt := by have h9 := c1269; rw [xk_le, xk_6] at h9; exact h9
                              refine lv_iload hx hb dX7_consume_174 (lv_at hl 1 rfl) ?_
                              rw [hQz]
                              exact W.iret (v := y1218) hx hb hr (fun t ht hW => ⟨⟨y1218, (Ia1267, Ja1267), rfl, ⟨⟨hML.mono (by omega), hMD, hMU⟩, hR⟩, by rw [ht]; exact hP, va_K.moved hW.alike hK, hD⟩, hS.F ht⟩) hS.2.2 dX7_consume_176
                            · have kc1269 : ¬ (6 ≤ y1268.toInt) := by have h9 := c1269; rw [xk_le, xk_6] at h9; exact h9
                              refine lv_aload_n hx hb dX7_consume_150 rfl (lv_at hl 4 rfl) ?_
                              obtain ⟨j1270, hj1270⟩ := wG_7 (cy := cy) (N := N) (T := T) (I := Ia1267) (Q := Q) (J := Ja1267) (hM.at 0 (by decide)) (hM.k 0 (by decide) rfl)
                              refine va_get (D := (dC, dI)) (ci := 7) (v := .ref (T (w 0) 15)) (C := RX7) (T := TX7) (N := 18) hx hb hts hi7 hown hK hP j1270 hj1270 rfl 15 (by decide) (hts (.fieldLink RX7 58 "TallyLogsModel" "seen" "[I") (by decide +kernel)) (fun _ h9 => h9) rfl dX7_consume_151 ?_
                              refine W.eq (g2 := F0 m 154 ls [.ref (w 16)]) (by rw [hM.t 15 (by decide)]) ?_
                              refine lv_iload hx hb dX7_consume_154 (lv_at hl 0 rfl) ?_
                              refine lv_aload hx hb dX7_consume_156 (lv_at hl 3 rfl) ?_
                              refine lv_iload hx hb dX7_consume_158 (lv_at hl 1 rfl) ?_
                              refine lv_iload hx hb dX7_consume_160 (lv_at hl 0 rfl) ?_
                              refine lv_iconst (v := 1) hx hb dX7_consume_162 (by decide) ?_
                              refine lv_iadd hx hb dX7_consume_163 ?_
                              refine lv_topi (fun v1271 ev1271 => ?_)
                              have hin1272 : vp_in v1271 8 := by rw [ev1271]; exact xin_of (by rw [xaddk (k := 1) (by decide) (by omega) (by omega)]; omega) (by rw [xaddk (k := 1) (by decide) (by omega) (by omega)]; omega)
                              obtain ⟨j1274, hj1274⟩ := wG_6 (cy := cy) (N := N) (T := T) (I := Ia1267) (Q := Q) (J := Ja1267) (hM.lg hjn1205).1 (hM.lg hjn1205).2
                              refine vp_callSi (W.runV (As := [.int y1218, .int v1271]) (rest := [.int y1268, .ref (w 16)]) ⟨hx, hb, hml, hown, hts⟩ (c_X6_get l dC dI cy w L K N T Q Ia1267 Ja1267 (5 * xp.toNatClampNeg + n1205) y1218 v1271 hM hjn1205 (by rw [hiv1267]; omega) (by rw [hiv1267]; omega) hin1272) (cwV 2 hts gX7_consume_X6_get rfl rfl rfl (by decide +kernel) ⟨Nat.le_of_ble_eq_true rfl, Nat.le_of_ble_eq_true rfl⟩) ⟨mb_blind, va_recv hK hP (ci := 6) (q0 := j1274) rfl hj1274, fun U hU hW => ⟨rfl, mb_pre hP hK hU hW⟩⟩ rfl rfl hl.1 rfl (lv_room (Nat.le_of_ble_eq_true rfl)) dX7_consume_164 ⟨Nat.le_of_ble_eq_true rfl, Nat.le_of_ble_eq_true rfl⟩) (fun r1273 hr1273 => ?_)
                              obtain ⟨j1275, hj1275⟩ := wG_20 (cy := cy) (N := N) (T := T) (I := Ia1267) (Q := Q) (J := Ja1267) (hM.at 16 (by decide)) (hM.k 16 (by decide) rfl)
                              have hDo := hD
                              refine va_iast (x := r1273) hx hb hK hP hD hS j1275 1 hj1275 rfl (hM.inN (n := 6) 16 (by decide) rfl rfl (xin_of hnn1267 (by have kc := c1269; simp only [xk_lt, xk_le, xk_0, xk_1, xk_2, xk_3, xk_4, xk_5, xk_6, xk_7, xk_8, xk_50] at kc; omega))) dX7_consume_167 (fun H locs hP hD hS => ?_)
                              have hP := Eq.mp (congrArg (fun w => va_P (dC, dI) vwCl w H) (wS_20 hDo (hM.at 16 (by decide)) (hM.k 16 (by decide) rfl) hj1275)) hP
                              obtain ⟨J1276, eJ1276⟩ : ∃ z, z = va_up Ja1267 (w 16) (upd (Ja1267 (w 16)) y1268.toNatClampNeg r1273) := ⟨_, rfl⟩
                              rw [← eJ1276] at hP
                              have hR : RM w [] I J Ia1267 J1276 := by rw [eJ1276]; exact hR.pj hM (by decide) (by decide)
                              have hMD : MD w J1276 := by rw [eJ1276]; exact hMD.pj hM (by decide) (by decide)
                              have hD : va_D A (va_pl L (wF cy K N T Ia1267 Q J1276)) := pD hDo
                              obtain ⟨v1277, ev1277⟩ : ∃ y : Int32, y = y1268 + Int32.ofInt 1 := ⟨_, rfl⟩
                              refine lv_iinc (v := v1277) (lv' := [(7, .int v1277), (6, .int y1218), (5, .int x1216), (4, .ref (w (21 + (5 * xp.toNatClampNeg + n1205)))), (0, .ref (w 0)), (1, .int xp), (2, .int xo), (3, .int cm)]) hx hb dX7_consume_168 hl (k := 0) rfl ev1277.symm (by decide) rfl (fun ls hl => ?_)
                              refine lv_goto (tgt := 143) hx hb dX7_consume_171 (by decide) ?_
                              have tv1277 : v1277.toInt = y1268.toInt + 1 := by rw [ev1277, show y1268 + Int32.ofInt 1 = y1268 + 1 from rfl]; exact xinc (y := (6 : Int32)) (by rw [xk_lt, xk_6]; omega)
                              exact ih1267 _ _ _ _ _ _ (by omega) (by omega) (hiv1267) hR (hML.mono (by omega)) hMD hMU hP hD hS (lv_sub hl [0, 1, 2, 3, 4, 5, 6, 7] rfl)
                        exact hLP1267 _ _ _ _ _ _ _ (Nat.lt_succ_self _) (by decide) (rfl) hR (hML.mono (by omega)) hMD hMU hP hD hS (lv_sub hl [0, 1, 2, 3, 4, 5, 6, 7] rfl)
                      · have kc1261 : r1260.toInt = 2 := by have h9 := c1261; rw [xk_eq, xk_2] at h9; exact h9
                        refine lv_goto (tgt := 177) hx hb dX7_consume_123 (by decide) ?_
                        obtain ⟨v1278, ev1278⟩ : ∃ y : Int32, y = y1218 + Int32.ofInt 1 := ⟨_, rfl⟩
                        refine lv_iinc (v := v1278) (lv' := [(6, .int v1278), (5, .int x1216), (4, .ref (w (21 + (5 * xp.toNatClampNeg + n1205)))), (0, .ref (w 0)), (1, .int xp), (2, .int xo), (3, .int cm)]) hx hb dX7_consume_177 hl (k := 0) rfl ev1278.symm (by decide) rfl (fun ls hl => ?_)
                        refine lv_goto (tgt := 77) hx hb dX7_consume_180 (by decide) ?_
                        have tv1278 : v1278.toInt = y1218.toInt + 1 := by rw [ev1278, show y1218 + Int32.ofInt 1 = y1218 + 1 from rfl]; exact xinc (y := x1216) (by rw [xk_lt]; omega)
                        exact ih1217 _ _ (by omega) (by omega) (by omega)  (lv_sub hl [0, 1, 2, 3, 4, 5, 6] rfl)
          exact hLP1217 _ _ _ (Nat.lt_succ_self _) (by omega) (by omega)  (lv_sub hl [0, 1, 2, 3, 4, 5, 6] rfl)
        · have kc1214 : ¬ (cm.toInt = 0) := by have h9 := c1214; rw [xk_eq, xk_0] at h9; exact h9
          refine lv_aload hx hb dX7_consume_51 (lv_at hl 0 rfl) ?_
          obtain ⟨j1279, hj1279⟩ := wG_6 (cy := cy) (N := N) (T := T) (I := I) (Q := Q) (J := J) (hM.lg hjn1205).1 (hM.lg hjn1205).2
          refine va_get (D := (dC, dI)) (ci := 6) (v := .int (I (w (21 + (5 * xp.toNatClampNeg + n1205))) 3)) (C := RX6) (T := TX6) (N := 7) hx hb hts hi6 hown hK hP j1279 hj1279 rfl 3 (by decide) (hts (.fieldLink RX7 109 "TallyLogsModel$Log" "high" "I") (by decide +kernel)) (fun _ h9 => h9) rfl dX7_consume_53 ?_
          refine lv_topi (fun x1280 ex1280 => ?_)
          have tx1280 : x1280.toInt = (I (w (21 + (5 * xp.toNatClampNeg + n1205))) 3).toInt := congrArg Int32.toInt ex1280
          refine lv_aload hx hb dX7_consume_56 (lv_at hl 0 rfl) ?_
          refine vp_callSi (W.runS (As := [.ref (w (21 + (5 * xp.toNatClampNeg + n1205)))]) (rest := [.int x1280]) ⟨hx, hb, hml, hown, hts⟩ (c_X7_firstOpen l dC dI cy w L K N T Q I J (5 * xp.toNatClampNeg + n1205) hM hjn1205 (by omega) (by omega)) (va_cwS 1 hts gX7_consume_X7_firstOpen rfl rfl rfl (by decide +kernel) ⟨Nat.le_of_ble_eq_true rfl, Nat.le_of_ble_eq_true rfl⟩) ⟨mb_blind, fun U hU hW => ⟨rfl, mb_pre hP hK hU hW⟩⟩ rfl rfl hl.1 rfl (lv_room (Nat.le_of_ble_eq_true rfl)) dX7_consume_58 ⟨Nat.le_of_ble_eq_true rfl, Nat.le_of_ble_eq_true rfl⟩) (fun r1281 hr1281 => ?_)
          refine va_mmin hx hb (by rw [hml]; exact hl.1.symm) hown (hts (.methodLink RX7 105 Lib.Math.min.name) (by decide +kernel)) (hts (.static Lib.Math.min.name) (by decide +kernel)) (hts (.initialized "java/lang/Math") (by decide +kernel)) (hts _ (List.mem_of_getElem? (i := 6) rfl)) (Nat.le_of_ble_eq_true rfl) (Nat.le_of_ble_eq_true rfl) (Nat.le_of_ble_eq_true rfl) (Nat.le_of_ble_eq_true rfl) dX7_consume_61 ?_
          refine lv_topi (fun z1282 ez1282 => ?_)
          have tz1282 : z1282.toInt = min x1280.toInt r1281.toInt := (xmin_t ez1282)
          refine lv_goto (tgt := 72) hx hb dX7_consume_64 (by decide) ?_
          refine lv_istore (lv' := [(5, .int z1282), (4, .ref (w (21 + (5 * xp.toNatClampNeg + n1205)))), (0, .ref (w 0)), (1, .int xp), (2, .int xo), (3, .int cm)]) hx hb dX7_consume_72 hl (by decide) rfl (fun ls hl => ?_)
          refine lv_iload_n hx hb dX7_consume_74 rfl (lv_at hl 4 rfl) ?_
          refine lv_istore (lv' := [(6, .int xo), (5, .int z1282), (4, .ref (w (21 + (5 * xp.toNatClampNeg + n1205)))), (0, .ref (w 0)), (1, .int xp), (2, .int xo), (3, .int cm)]) hx hb dX7_consume_75 hl (by decide) rfl (fun ls hl => ?_)
          refine wq_gen (fun Qz hQz => ?_)
          have hLP1283 : ∀ (n : Nat) (y1284 : Int32) (ls : Array Slot), ((z1282).toInt - y1284.toInt).toNat < n → 0 ≤ y1284.toInt → ((I (w (21 + (5 * xp.toNatClampNeg + n1205))) 1).toInt ≤ y1284.toInt) → lv_has ls 8 [(6, .int y1284), (5, .int z1282), (4, .ref (w (21 + (5 * xp.toNatClampNeg + n1205)))), (0, .ref (w 0)), (1, .int xp), (2, .int xo), (3, .int cm)] → W p l e (headSpec wsX7_consume ({ frames := 3, cells := 0, slots := 0, locals := 73 })).room s m ([.ref (w 0), .int xp, .int xo, .int cm] : List Value).toArray below meth c s.heap [] 0 0 Qz (F0 m 77 ls []) := by
            intro n
            induction n with
            | zero => intro y1284 ls hms; exact absurd hms (Nat.not_lt_zero _)
            | succ n ih1283 =>
              intro y1284 ls hms hnn1283 hiv1283 hl
              refine lv_iload hx hb dX7_consume_77 (lv_at hl 0 rfl) ?_
              refine lv_iload hx hb dX7_consume_79 (lv_at hl 1 rfl) ?_
              refine lv_icmp_ge (tgt := 183) hx hb dX7_consume_81 (by decide) (fun c1285 => ?_) (fun c1285 => ?_)
              · have kc1285 : z1282.toInt ≤ y1284.toInt := by have h9 := c1285; rw [xk_le] at h9; exact h9
                refine lv_bipush (v := (-2)) hx hb dX7_consume_183 (by decide) ?_
                rw [hQz]
                exact W.iret (v := (-2)) hx hb hr (fun t ht hW => ⟨⟨(-2), (I, J), rfl, ⟨⟨hML.mono (by omega), hMD, hMU⟩, hR⟩, by rw [ht]; exact hP, va_K.moved hW.alike hK, hD⟩, hS.F ht⟩) hS.2.2 dX7_consume_185
              · have kc1285 : ¬ (z1282.toInt ≤ y1284.toInt) := by have h9 := c1285; rw [xk_le] at h9; exact h9
                refine lv_aload hx hb dX7_consume_84 (lv_at hl 2 rfl) ?_
                refine lv_iload hx hb dX7_consume_86 (lv_at hl 0 rfl) ?_
                refine lv_iconst (v := 1) hx hb dX7_consume_88 (by decide) ?_
                obtain ⟨j1287, hj1287⟩ := wG_6 (cy := cy) (N := N) (T := T) (I := I) (Q := Q) (J := J) (hM.lg hjn1205).1 (hM.lg hjn1205).2
                refine vp_callSi (W.runV (As := [.int y1284, .int 1]) (rest := []) ⟨hx, hb, hml, hown, hts⟩ (c_X6_get l dC dI cy w L K N T Q I J (5 * xp.toNatClampNeg + n1205) y1284 1 hM hjn1205 (by omega) (by omega) (by unfold vp_in; decide)) (cwV 2 hts gX7_consume_X6_get rfl rfl rfl (by decide +kernel) ⟨Nat.le_of_ble_eq_true rfl, Nat.le_of_ble_eq_true rfl⟩) ⟨mb_blind, va_recv hK hP (ci := 6) (q0 := j1287) rfl hj1287, fun U hU hW => ⟨rfl, mb_pre hP hK hU hW⟩⟩ rfl rfl hl.1 rfl (lv_room (Nat.le_of_ble_eq_true rfl)) dX7_consume_89 ⟨Nat.le_of_ble_eq_true rfl, Nat.le_of_ble_eq_true rfl⟩) (fun r1286 hr1286 => ?_)
                refine lv_if_ne (tgt := 177) hx hb dX7_consume_92 (by decide) (fun c1288 => ?_) (fun c1288 => ?_)
                · have kc1288 : ¬ (r1286.toInt = 0) := by have h9 := c1288; rw [xk_eq, xk_0] at h9; exact h9
                  obtain ⟨v1289, ev1289⟩ : ∃ y : Int32, y = y1284 + Int32.ofInt 1 := ⟨_, rfl⟩
                  refine lv_iinc (v := v1289) (lv' := [(6, .int v1289), (5, .int z1282), (4, .ref (w (21 + (5 * xp.toNatClampNeg + n1205)))), (0, .ref (w 0)), (1, .int xp), (2, .int xo), (3, .int cm)]) hx hb dX7_consume_177 hl (k := 0) rfl ev1289.symm (by decide) rfl (fun ls hl => ?_)
                  refine lv_goto (tgt := 77) hx hb dX7_consume_180 (by decide) ?_
                  have tv1289 : v1289.toInt = y1284.toInt + 1 := by rw [ev1289, show y1284 + Int32.ofInt 1 = y1284 + 1 from rfl]; exact xinc (y := z1282) (by rw [xk_lt]; omega)
                  exact ih1283 _ _ (by omega) (by omega) (by omega)  (lv_sub hl [0, 1, 2, 3, 4, 5, 6] rfl)
                · have kc1288 : r1286.toInt = 0 := by have h9 := c1288; rw [xk_eq, xk_0] at h9; exact h9
                  refine lv_iload_n hx hb dX7_consume_95 rfl (lv_at hl 6 rfl) ?_
                  refine lv_if_eq (tgt := 126) hx hb dX7_consume_96 (by decide) (fun c1290 => ?_) (fun c1290 => ?_)
                  · have kc1290 : cm.toInt = 0 := by have h9 := c1290; rw [xk_eq, xk_0] at h9; exact h9
                    refine lv_aload_n hx hb dX7_consume_126 rfl (lv_at hl 3 rfl) ?_
                    obtain ⟨j1291, hj1291⟩ := wG_7 (cy := cy) (N := N) (T := T) (I := I) (Q := Q) (J := J) (hM.at 0 (by decide)) (hM.k 0 (by decide) rfl)
                    refine va_get (D := (dC, dI)) (ci := 7) (v := .ref (T (w 0) 15)) (C := RX7) (T := TX7) (N := 18) hx hb hts hi7 hown hK hP j1291 hj1291 rfl 15 (by decide) (hts (.fieldLink RX7 58 "TallyLogsModel" "seen" "[I") (by decide +kernel)) (fun _ h9 => h9) rfl dX7_consume_127 ?_
                    refine W.eq (g2 := F0 m 130 ls [.ref (w 16)]) (by rw [hM.t 15 (by decide)]) ?_
                    refine lv_iconst (v := 0) hx hb dX7_consume_130 (by decide) ?_
                    refine lv_aload hx hb dX7_consume_131 (lv_at hl 2 rfl) ?_
                    refine lv_iload hx hb dX7_consume_133 (lv_at hl 0 rfl) ?_
                    refine lv_iconst (v := 0) hx hb dX7_consume_135 (by decide) ?_
                    obtain ⟨j1293, hj1293⟩ := wG_6 (cy := cy) (N := N) (T := T) (I := I) (Q := Q) (J := J) (hM.lg hjn1205).1 (hM.lg hjn1205).2
                    refine vp_callSi (W.runV (As := [.int y1284, .int 0]) (rest := [.int 0, .ref (w 16)]) ⟨hx, hb, hml, hown, hts⟩ (c_X6_get l dC dI cy w L K N T Q I J (5 * xp.toNatClampNeg + n1205) y1284 0 hM hjn1205 (by omega) (by omega) (by unfold vp_in; decide)) (cwV 2 hts gX7_consume_X6_get rfl rfl rfl (by decide +kernel) ⟨Nat.le_of_ble_eq_true rfl, Nat.le_of_ble_eq_true rfl⟩) ⟨mb_blind, va_recv hK hP (ci := 6) (q0 := j1293) rfl hj1293, fun U hU hW => ⟨rfl, mb_pre hP hK hU hW⟩⟩ rfl rfl hl.1 rfl (lv_room (Nat.le_of_ble_eq_true rfl)) dX7_consume_136 ⟨Nat.le_of_ble_eq_true rfl, Nat.le_of_ble_eq_true rfl⟩) (fun r1292 hr1292 => ?_)
                    obtain ⟨j1294, hj1294⟩ := wG_20 (cy := cy) (N := N) (T := T) (I := I) (Q := Q) (J := J) (hM.at 16 (by decide)) (hM.k 16 (by decide) rfl)
                    have hDo := hD
                    refine va_iast (x := r1292) hx hb hK hP hD hS j1294 1 hj1294 rfl (hM.inN (n := 6) 16 (by decide) rfl rfl (by unfold vp_in; decide)) dX7_consume_139 (fun H locs hP hD hS => ?_)
                    have hP := Eq.mp (congrArg (fun w => va_P (dC, dI) vwCl w H) (wS_20 hDo (hM.at 16 (by decide)) (hM.k 16 (by decide) rfl) hj1294)) hP
                    obtain ⟨J1295, eJ1295⟩ : ∃ z, z = va_up J (w 16) (upd (J (w 16)) (0 : Int32).toNatClampNeg r1292) := ⟨_, rfl⟩
                    rw [← eJ1295] at hP
                    have hR : RM w [] I J I J1295 := by rw [eJ1295]; exact hR.pj hM (by decide) (by decide)
                    have hMD : MD w J1295 := by rw [eJ1295]; exact hMD.pj hM (by decide) (by decide)
                    have hD : va_D A (va_pl L (wF cy K N T I Q J1295)) := pD hDo
                    refine lv_iconst (v := 1) hx hb dX7_consume_140 (by decide) ?_
                    refine lv_istore (lv' := [(7, .int 1), (6, .int y1284), (5, .int z1282), (4, .ref (w (21 + (5 * xp.toNatClampNeg + n1205)))), (0, .ref (w 0)), (1, .int xp), (2, .int xo), (3, .int cm)]) hx hb dX7_consume_141 hl (by decide) rfl (fun ls hl => ?_)
                    have hLP1296 : ∀ (n : Nat) (y1297 : Int32) (Ia1296 Ja1296 : Nat → Nat → Int32) (H : Heap) (locs : List Loc) (ls : Array Slot), (6 - y1297.toInt).toNat < n → 0 ≤ y1297.toInt → (Ia1296 = I) → RM w [] I J Ia1296 Ja1296 → ML w E Ia1296 → MD w Ja1296 → MU w Ia1296 →  va_P (dC, dI) vwCl (va_pl L (wF cy K N T Ia1296 Q Ja1296)) H → va_D A (va_pl L (wF cy K N T Ia1296 Q Ja1296)) → va_S A s.heap H locs → lv_has ls 8 [(7, .int y1297), (6, .int y1284), (5, .int z1282), (4, .ref (w (21 + (5 * xp.toNatClampNeg + n1205)))), (0, .ref (w 0)), (1, .int xp), (2, .int xo), (3, .int cm)] → W p l e (headSpec wsX7_consume ({ frames := 3, cells := 0, slots := 0, locals := 73 })).room s m ([.ref (w 0), .int xp, .int xo, .int cm] : List Value).toArray below meth c H locs 0 0 Qz (F0 m 143 ls []) := by
                      intro n
                      induction n with
                      | zero => intro y1297 Ia1296 Ja1296 H locs ls hms; exact absurd hms (Nat.not_lt_zero _)
                      | succ n ih1296 =>
                        intro y1297 Ia1296 Ja1296 H locs ls hms hnn1296 hiv1296 hR hML hMD hMU hP hD hS hl
                        refine lv_iload hx hb dX7_consume_143 (lv_at hl 0 rfl) ?_
                        refine lv_bipush (v := 6) hx hb dX7_consume_145 (by decide) ?_
                        refine lv_icmp_ge (tgt := 174) hx hb dX7_consume_147 (by decide) (fun c1298 => ?_) (fun c1298 => ?_)
                        · have kc1298 : 6 ≤ y1297.toInt := by have h9 := c1298; rw [xk_le, xk_6] at h9; exact h9
                          refine lv_iload hx hb dX7_consume_174 (lv_at hl 1 rfl) ?_
                          rw [hQz]
                          exact W.iret (v := y1284) hx hb hr (fun t ht hW => ⟨⟨y1284, (Ia1296, Ja1296), rfl, ⟨⟨hML.mono (by omega), hMD, hMU⟩, hR⟩, by rw [ht]; exact hP, va_K.moved hW.alike hK, hD⟩, hS.F ht⟩) hS.2.2 dX7_consume_176
                        · have kc1298 : ¬ (6 ≤ y1297.toInt) := by have h9 := c1298; rw [xk_le, xk_6] at h9; exact h9
                          refine lv_aload_n hx hb dX7_consume_150 rfl (lv_at hl 4 rfl) ?_
                          obtain ⟨j1299, hj1299⟩ := wG_7 (cy := cy) (N := N) (T := T) (I := Ia1296) (Q := Q) (J := Ja1296) (hM.at 0 (by decide)) (hM.k 0 (by decide) rfl)
                          refine va_get (D := (dC, dI)) (ci := 7) (v := .ref (T (w 0) 15)) (C := RX7) (T := TX7) (N := 18) hx hb hts hi7 hown hK hP j1299 hj1299 rfl 15 (by decide) (hts (.fieldLink RX7 58 "TallyLogsModel" "seen" "[I") (by decide +kernel)) (fun _ h9 => h9) rfl dX7_consume_151 ?_
                          refine W.eq (g2 := F0 m 154 ls [.ref (w 16)]) (by rw [hM.t 15 (by decide)]) ?_
                          refine lv_iload hx hb dX7_consume_154 (lv_at hl 0 rfl) ?_
                          refine lv_aload hx hb dX7_consume_156 (lv_at hl 3 rfl) ?_
                          refine lv_iload hx hb dX7_consume_158 (lv_at hl 1 rfl) ?_
                          refine lv_iload hx hb dX7_consume_160 (lv_at hl 0 rfl) ?_
                          refine lv_iconst (v := 1) hx hb dX7_consume_162 (by decide) ?_
                          refine lv_iadd hx hb dX7_consume_163 ?_
                          refine lv_topi (fun v1300 ev1300 => ?_)
                          have hin1301 : vp_in v1300 8 := by rw [ev1300]; exact xin_of (by rw [xaddk (k := 1) (by decide) (by omega) (by omega)]; omega) (by rw [xaddk (k := 1) (by decide) (by omega) (by omega)]; omega)
                          obtain ⟨j1303, hj1303⟩ := wG_6 (cy := cy) (N := N) (T := T) (I := Ia1296) (Q := Q) (J := Ja1296) (hM.lg hjn1205).1 (hM.lg hjn1205).2
                          refine vp_callSi (W.runV (As := [.int y1284, .int v1300]) (rest := [.int y1297, .ref (w 16)]) ⟨hx, hb, hml, hown, hts⟩ (c_X6_get l dC dI cy w L K N T Q Ia1296 Ja1296 (5 * xp.toNatClampNeg + n1205) y1284 v1300 hM hjn1205 (by rw [hiv1296]; omega) (by rw [hiv1296]; omega) hin1301) (cwV 2 hts gX7_consume_X6_get rfl rfl rfl (by decide +kernel) ⟨Nat.le_of_ble_eq_true rfl, Nat.le_of_ble_eq_true rfl⟩) ⟨mb_blind, va_recv hK hP (ci := 6) (q0 := j1303) rfl hj1303, fun U hU hW => ⟨rfl, mb_pre hP hK hU hW⟩⟩ rfl rfl hl.1 rfl (lv_room (Nat.le_of_ble_eq_true rfl)) dX7_consume_164 ⟨Nat.le_of_ble_eq_true rfl, Nat.le_of_ble_eq_true rfl⟩) (fun r1302 hr1302 => ?_)
                          obtain ⟨j1304, hj1304⟩ := wG_20 (cy := cy) (N := N) (T := T) (I := Ia1296) (Q := Q) (J := Ja1296) (hM.at 16 (by decide)) (hM.k 16 (by decide) rfl)
                          have hDo := hD
                          refine va_iast (x := r1302) hx hb hK hP hD hS j1304 1 hj1304 rfl (hM.inN (n := 6) 16 (by decide) rfl rfl (xin_of hnn1296 (by have kc := c1298; simp only [xk_lt, xk_le, xk_0, xk_1, xk_2, xk_3, xk_4, xk_5, xk_6, xk_7, xk_8, xk_50] at kc; omega))) dX7_consume_167 (fun H locs hP hD hS => ?_)
                          have hP := Eq.mp (congrArg (fun w => va_P (dC, dI) vwCl w H) (wS_20 hDo (hM.at 16 (by decide)) (hM.k 16 (by decide) rfl) hj1304)) hP
                          obtain ⟨J1305, eJ1305⟩ : ∃ z, z = va_up Ja1296 (w 16) (upd (Ja1296 (w 16)) y1297.toNatClampNeg r1302) := ⟨_, rfl⟩
                          rw [← eJ1305] at hP
                          have hR : RM w [] I J Ia1296 J1305 := by rw [eJ1305]; exact hR.pj hM (by decide) (by decide)
                          have hMD : MD w J1305 := by rw [eJ1305]; exact hMD.pj hM (by decide) (by decide)
                          have hD : va_D A (va_pl L (wF cy K N T Ia1296 Q J1305)) := pD hDo
                          obtain ⟨v1306, ev1306⟩ : ∃ y : Int32, y = y1297 + Int32.ofInt 1 := ⟨_, rfl⟩
                          refine lv_iinc (v := v1306) (lv' := [(7, .int v1306), (6, .int y1284), (5, .int z1282), (4, .ref (w (21 + (5 * xp.toNatClampNeg + n1205)))), (0, .ref (w 0)), (1, .int xp), (2, .int xo), (3, .int cm)]) hx hb dX7_consume_168 hl (k := 0) rfl ev1306.symm (by decide) rfl (fun ls hl => ?_)
                          refine lv_goto (tgt := 143) hx hb dX7_consume_171 (by decide) ?_
                          have tv1306 : v1306.toInt = y1297.toInt + 1 := by rw [ev1306, show y1297 + Int32.ofInt 1 = y1297 + 1 from rfl]; exact xinc (y := (6 : Int32)) (by rw [xk_lt, xk_6]; omega)
                          exact ih1296 _ _ _ _ _ _ (by omega) (by omega) (hiv1296) hR (hML.mono (by omega)) hMD hMU hP hD hS (lv_sub hl [0, 1, 2, 3, 4, 5, 6, 7] rfl)
                    exact hLP1296 _ _ _ _ _ _ _ (Nat.lt_succ_self _) (by decide) (rfl) hR (hML.mono (by omega)) hMD hMU hP hD hS (lv_sub hl [0, 1, 2, 3, 4, 5, 6, 7] rfl)
                  · have kc1290 : ¬ (cm.toInt = 0) := by have h9 := c1290; rw [xk_eq, xk_0] at h9; exact h9
                    refine lv_aload hx hb dX7_consume_99 (lv_at hl 2 rfl) ?_
                    refine lv_iload hx hb dX7_consume_101 (lv_at hl 0 rfl) ?_
                    refine lv_bipush (v := 7) hx hb dX7_consume_103 (by decide) ?_
                    obtain ⟨j1308, hj1308⟩ := wG_6 (cy := cy) (N := N) (T := T) (I := I) (Q := Q) (J := J) (hM.lg hjn1205).1 (hM.lg hjn1205).2
                    refine vp_callSi (W.runV (As := [.int y1284, .int 7]) (rest := []) ⟨hx, hb, hml, hown, hts⟩ (c_X6_get l dC dI cy w L K N T Q I J (5 * xp.toNatClampNeg + n1205) y1284 7 hM hjn1205 (by omega) (by omega) (by unfold vp_in; decide)) (cwV 2 hts gX7_consume_X6_get rfl rfl rfl (by decide +kernel) ⟨Nat.le_of_ble_eq_true rfl, Nat.le_of_ble_eq_true rfl⟩) ⟨mb_blind, va_recv hK hP (ci := 6) (q0 := j1308) rfl hj1308, fun U hU hW => ⟨rfl, mb_pre hP hK hU hW⟩⟩ rfl rfl hl.1 rfl (lv_room (Nat.le_of_ble_eq_true rfl)) dX7_consume_105 ⟨Nat.le_of_ble_eq_true rfl, Nat.le_of_ble_eq_true rfl⟩) (fun r1307 hr1307 => ?_)
                    refine lv_iconst (v := 1) hx hb dX7_consume_108 (by decide) ?_
                    refine lv_icmp_ne (tgt := 126) hx hb dX7_consume_109 (by decide) (fun c1309 => ?_) (fun c1309 => ?_)
                    · have kc1309 : ¬ (r1307.toInt = 1) := by have h9 := c1309; rw [xk_eq, xk_1] at h9; exact h9
                      refine lv_aload_n hx hb dX7_consume_126 rfl (lv_at hl 3 rfl) ?_
                      obtain ⟨j1310, hj1310⟩ := wG_7 (cy := cy) (N := N) (T := T) (I := I) (Q := Q) (J := J) (hM.at 0 (by decide)) (hM.k 0 (by decide) rfl)
                      refine va_get (D := (dC, dI)) (ci := 7) (v := .ref (T (w 0) 15)) (C := RX7) (T := TX7) (N := 18) hx hb hts hi7 hown hK hP j1310 hj1310 rfl 15 (by decide) (hts (.fieldLink RX7 58 "TallyLogsModel" "seen" "[I") (by decide +kernel)) (fun _ h9 => h9) rfl dX7_consume_127 ?_
                      refine W.eq (g2 := F0 m 130 ls [.ref (w 16)]) (by rw [hM.t 15 (by decide)]) ?_
                      refine lv_iconst (v := 0) hx hb dX7_consume_130 (by decide) ?_
                      refine lv_aload hx hb dX7_consume_131 (lv_at hl 2 rfl) ?_
                      refine lv_iload hx hb dX7_consume_133 (lv_at hl 0 rfl) ?_
                      refine lv_iconst (v := 0) hx hb dX7_consume_135 (by decide) ?_
                      obtain ⟨j1312, hj1312⟩ := wG_6 (cy := cy) (N := N) (T := T) (I := I) (Q := Q) (J := J) (hM.lg hjn1205).1 (hM.lg hjn1205).2
                      refine vp_callSi (W.runV (As := [.int y1284, .int 0]) (rest := [.int 0, .ref (w 16)]) ⟨hx, hb, hml, hown, hts⟩ (c_X6_get l dC dI cy w L K N T Q I J (5 * xp.toNatClampNeg + n1205) y1284 0 hM hjn1205 (by omega) (by omega) (by unfold vp_in; decide)) (cwV 2 hts gX7_consume_X6_get rfl rfl rfl (by decide +kernel) ⟨Nat.le_of_ble_eq_true rfl, Nat.le_of_ble_eq_true rfl⟩) ⟨mb_blind, va_recv hK hP (ci := 6) (q0 := j1312) rfl hj1312, fun U hU hW => ⟨rfl, mb_pre hP hK hU hW⟩⟩ rfl rfl hl.1 rfl (lv_room (Nat.le_of_ble_eq_true rfl)) dX7_consume_136 ⟨Nat.le_of_ble_eq_true rfl, Nat.le_of_ble_eq_true rfl⟩) (fun r1311 hr1311 => ?_)
                      obtain ⟨j1313, hj1313⟩ := wG_20 (cy := cy) (N := N) (T := T) (I := I) (Q := Q) (J := J) (hM.at 16 (by decide)) (hM.k 16 (by decide) rfl)
                      have hDo := hD
                      refine va_iast (x := r1311) hx hb hK hP hD hS j1313 1 hj1313 rfl (hM.inN (n := 6) 16 (by decide) rfl rfl (by unfold vp_in; decide)) dX7_consume_139 (fun H locs hP hD hS => ?_)
                      have hP := Eq.mp (congrArg (fun w => va_P (dC, dI) vwCl w H) (wS_20 hDo (hM.at 16 (by decide)) (hM.k 16 (by decide) rfl) hj1313)) hP
                      obtain ⟨J1314, eJ1314⟩ : ∃ z, z = va_up J (w 16) (upd (J (w 16)) (0 : Int32).toNatClampNeg r1311) := ⟨_, rfl⟩
                      rw [← eJ1314] at hP
                      have hR : RM w [] I J I J1314 := by rw [eJ1314]; exact hR.pj hM (by decide) (by decide)
                      have hMD : MD w J1314 := by rw [eJ1314]; exact hMD.pj hM (by decide) (by decide)
                      have hD : va_D A (va_pl L (wF cy K N T I Q J1314)) := pD hDo
                      refine lv_iconst (v := 1) hx hb dX7_consume_140 (by decide) ?_
                      refine lv_istore (lv' := [(7, .int 1), (6, .int y1284), (5, .int z1282), (4, .ref (w (21 + (5 * xp.toNatClampNeg + n1205)))), (0, .ref (w 0)), (1, .int xp), (2, .int xo), (3, .int cm)]) hx hb dX7_consume_141 hl (by decide) rfl (fun ls hl => ?_)
                      have hLP1315 : ∀ (n : Nat) (y1316 : Int32) (Ia1315 Ja1315 : Nat → Nat → Int32) (H : Heap) (locs : List Loc) (ls : Array Slot), (6 - y1316.toInt).toNat < n → 0 ≤ y1316.toInt → (Ia1315 = I) → RM w [] I J Ia1315 Ja1315 → ML w E Ia1315 → MD w Ja1315 → MU w Ia1315 →  va_P (dC, dI) vwCl (va_pl L (wF cy K N T Ia1315 Q Ja1315)) H → va_D A (va_pl L (wF cy K N T Ia1315 Q Ja1315)) → va_S A s.heap H locs → lv_has ls 8 [(7, .int y1316), (6, .int y1284), (5, .int z1282), (4, .ref (w (21 + (5 * xp.toNatClampNeg + n1205)))), (0, .ref (w 0)), (1, .int xp), (2, .int xo), (3, .int cm)] → W p l e (headSpec wsX7_consume ({ frames := 3, cells := 0, slots := 0, locals := 73 })).room s m ([.ref (w 0), .int xp, .int xo, .int cm] : List Value).toArray below meth c H locs 0 0 Qz (F0 m 143 ls []) := by
                        intro n
                        induction n with
                        | zero => intro y1316 Ia1315 Ja1315 H locs ls hms; exact absurd hms (Nat.not_lt_zero _)
                        | succ n ih1315 =>
                          intro y1316 Ia1315 Ja1315 H locs ls hms hnn1315 hiv1315 hR hML hMD hMU hP hD hS hl
                          refine lv_iload hx hb dX7_consume_143 (lv_at hl 0 rfl) ?_
                          refine lv_bipush (v := 6) hx hb dX7_consume_145 (by decide) ?_
                          refine lv_icmp_ge (tgt := 174) hx hb dX7_consume_147 (by decide) (fun c1317 => ?_) (fun c1317 => ?_)
                          · have kc1317 : 6 ≤ y1316.toInt := by have h9 := c1317; rw [xk_le, xk_6] at h9; exact h9
                            refine lv_iload hx hb dX7_consume_174 (lv_at hl 1 rfl) ?_
                            rw [hQz]
                            exact W.iret (v := y1284) hx hb hr (fun t ht hW => ⟨⟨y1284, (Ia1315, Ja1315), rfl, ⟨⟨hML.mono (by omega), hMD, hMU⟩, hR⟩, by rw [ht]; exact hP, va_K.moved hW.alike hK, hD⟩, hS.F ht⟩) hS.2.2 dX7_consume_176
                          · have kc1317 : ¬ (6 ≤ y1316.toInt) := by have h9 := c1317; rw [xk_le, xk_6] at h9; exact h9
                            refine lv_aload_n hx hb dX7_consume_150 rfl (lv_at hl 4 rfl) ?_
                            obtain ⟨j1318, hj1318⟩ := wG_7 (cy := cy) (N := N) (T := T) (I := Ia1315) (Q := Q) (J := Ja1315) (hM.at 0 (by decide)) (hM.k 0 (by decide) rfl)
                            refine va_get (D := (dC, dI)) (ci := 7) (v := .ref (T (w 0) 15)) (C := RX7) (T := TX7) (N := 18) hx hb hts hi7 hown hK hP j1318 hj1318 rfl 15 (by decide) (hts (.fieldLink RX7 58 "TallyLogsModel" "seen" "[I") (by decide +kernel)) (fun _ h9 => h9) rfl dX7_consume_151 ?_
                            refine W.eq (g2 := F0 m 154 ls [.ref (w 16)]) (by rw [hM.t 15 (by decide)]) ?_
                            refine lv_iload hx hb dX7_consume_154 (lv_at hl 0 rfl) ?_
                            refine lv_aload hx hb dX7_consume_156 (lv_at hl 3 rfl) ?_
                            refine lv_iload hx hb dX7_consume_158 (lv_at hl 1 rfl) ?_
                            refine lv_iload hx hb dX7_consume_160 (lv_at hl 0 rfl) ?_
                            refine lv_iconst (v := 1) hx hb dX7_consume_162 (by decide) ?_
                            refine lv_iadd hx hb dX7_consume_163 ?_
                            refine lv_topi (fun v1319 ev1319 => ?_)
                            have hin1320 : vp_in v1319 8 := by rw [ev1319]; exact xin_of (by rw [xaddk (k := 1) (by decide) (by omega) (by omega)]; omega) (by rw [xaddk (k := 1) (by decide) (by omega) (by omega)]; omega)
                            obtain ⟨j1322, hj1322⟩ := wG_6 (cy := cy) (N := N) (T := T) (I := Ia1315) (Q := Q) (J := Ja1315) (hM.lg hjn1205).1 (hM.lg hjn1205).2
                            refine vp_callSi (W.runV (As := [.int y1284, .int v1319]) (rest := [.int y1316, .ref (w 16)]) ⟨hx, hb, hml, hown, hts⟩ (c_X6_get l dC dI cy w L K N T Q Ia1315 Ja1315 (5 * xp.toNatClampNeg + n1205) y1284 v1319 hM hjn1205 (by rw [hiv1315]; omega) (by rw [hiv1315]; omega) hin1320) (cwV 2 hts gX7_consume_X6_get rfl rfl rfl (by decide +kernel) ⟨Nat.le_of_ble_eq_true rfl, Nat.le_of_ble_eq_true rfl⟩) ⟨mb_blind, va_recv hK hP (ci := 6) (q0 := j1322) rfl hj1322, fun U hU hW => ⟨rfl, mb_pre hP hK hU hW⟩⟩ rfl rfl hl.1 rfl (lv_room (Nat.le_of_ble_eq_true rfl)) dX7_consume_164 ⟨Nat.le_of_ble_eq_true rfl, Nat.le_of_ble_eq_true rfl⟩) (fun r1321 hr1321 => ?_)
                            obtain ⟨j1323, hj1323⟩ := wG_20 (cy := cy) (N := N) (T := T) (I := Ia1315) (Q := Q) (J := Ja1315) (hM.at 16 (by decide)) (hM.k 16 (by decide) rfl)
                            have hDo := hD
                            refine va_iast (x := r1321) hx hb hK hP hD hS j1323 1 hj1323 rfl (hM.inN (n := 6) 16 (by decide) rfl rfl (xin_of hnn1315 (by have kc := c1317; simp only [xk_lt, xk_le, xk_0, xk_1, xk_2, xk_3, xk_4, xk_5, xk_6, xk_7, xk_8, xk_50] at kc; omega))) dX7_consume_167 (fun H locs hP hD hS => ?_)
                            have hP := Eq.mp (congrArg (fun w => va_P (dC, dI) vwCl w H) (wS_20 hDo (hM.at 16 (by decide)) (hM.k 16 (by decide) rfl) hj1323)) hP
                            obtain ⟨J1324, eJ1324⟩ : ∃ z, z = va_up Ja1315 (w 16) (upd (Ja1315 (w 16)) y1316.toNatClampNeg r1321) := ⟨_, rfl⟩
                            rw [← eJ1324] at hP
                            have hR : RM w [] I J Ia1315 J1324 := by rw [eJ1324]; exact hR.pj hM (by decide) (by decide)
                            have hMD : MD w J1324 := by rw [eJ1324]; exact hMD.pj hM (by decide) (by decide)
                            have hD : va_D A (va_pl L (wF cy K N T Ia1315 Q J1324)) := pD hDo
                            obtain ⟨v1325, ev1325⟩ : ∃ y : Int32, y = y1316 + Int32.ofInt 1 := ⟨_, rfl⟩
                            refine lv_iinc (v := v1325) (lv' := [(7, .int v1325), (6, .int y1284), (5, .int z1282), (4, .ref (w (21 + (5 * xp.toNatClampNeg + n1205)))), (0, .ref (w 0)), (1, .int xp), (2, .int xo), (3, .int cm)]) hx hb dX7_consume_168 hl (k := 0) rfl ev1325.symm (by decide) rfl (fun ls hl => ?_)
                            refine lv_goto (tgt := 143) hx hb dX7_consume_171 (by decide) ?_
                            have tv1325 : v1325.toInt = y1316.toInt + 1 := by rw [ev1325, show y1316 + Int32.ofInt 1 = y1316 + 1 from rfl]; exact xinc (y := (6 : Int32)) (by rw [xk_lt, xk_6]; omega)
                            exact ih1315 _ _ _ _ _ _ (by omega) (by omega) (hiv1315) hR (hML.mono (by omega)) hMD hMU hP hD hS (lv_sub hl [0, 1, 2, 3, 4, 5, 6, 7] rfl)
                      exact hLP1315 _ _ _ _ _ _ _ (Nat.lt_succ_self _) (by decide) (rfl) hR (hML.mono (by omega)) hMD hMU hP hD hS (lv_sub hl [0, 1, 2, 3, 4, 5, 6, 7] rfl)
                    · have kc1309 : r1307.toInt = 1 := by have h9 := c1309; rw [xk_eq, xk_1] at h9; exact h9
                      refine lv_aload hx hb dX7_consume_112 (lv_at hl 2 rfl) ?_
                      refine lv_iload hx hb dX7_consume_114 (lv_at hl 0 rfl) ?_
                      refine vp_callSi (W.runS (As := [.ref (w (21 + (5 * xp.toNatClampNeg + n1205))), .int y1284]) (rest := []) ⟨hx, hb, hml, hown, hts⟩ (c_X7_endOf l dC dI cy w L K N T Q I J (5 * xp.toNatClampNeg + n1205) y1284 hM hjn1205 (by omega) (by omega) (by omega) (by omega)) (va_cwS 2 hts gX7_consume_X7_endOf rfl rfl rfl (by decide +kernel) ⟨Nat.le_of_ble_eq_true rfl, Nat.le_of_ble_eq_true rfl⟩) ⟨mb_blind, fun U hU hW => ⟨rfl, mb_pre hP hK hU hW⟩⟩ rfl rfl hl.1 rfl (lv_room (Nat.le_of_ble_eq_true rfl)) dX7_consume_116 ⟨Nat.le_of_ble_eq_true rfl, Nat.le_of_ble_eq_true rfl⟩) (fun r1326 hr1326 => ?_)
                      refine lv_iconst (v := 2) hx hb dX7_consume_119 (by decide) ?_
                      refine lv_icmp_ne (tgt := 126) hx hb dX7_consume_120 (by decide) (fun c1327 => ?_) (fun c1327 => ?_)
                      · have kc1327 : ¬ (r1326.toInt = 2) := by have h9 := c1327; rw [xk_eq, xk_2] at h9; exact h9
                        refine lv_aload_n hx hb dX7_consume_126 rfl (lv_at hl 3 rfl) ?_
                        obtain ⟨j1328, hj1328⟩ := wG_7 (cy := cy) (N := N) (T := T) (I := I) (Q := Q) (J := J) (hM.at 0 (by decide)) (hM.k 0 (by decide) rfl)
                        refine va_get (D := (dC, dI)) (ci := 7) (v := .ref (T (w 0) 15)) (C := RX7) (T := TX7) (N := 18) hx hb hts hi7 hown hK hP j1328 hj1328 rfl 15 (by decide) (hts (.fieldLink RX7 58 "TallyLogsModel" "seen" "[I") (by decide +kernel)) (fun _ h9 => h9) rfl dX7_consume_127 ?_
                        refine W.eq (g2 := F0 m 130 ls [.ref (w 16)]) (by rw [hM.t 15 (by decide)]) ?_
                        refine lv_iconst (v := 0) hx hb dX7_consume_130 (by decide) ?_
                        refine lv_aload hx hb dX7_consume_131 (lv_at hl 2 rfl) ?_
                        refine lv_iload hx hb dX7_consume_133 (lv_at hl 0 rfl) ?_
                        refine lv_iconst (v := 0) hx hb dX7_consume_135 (by decide) ?_
                        obtain ⟨j1330, hj1330⟩ := wG_6 (cy := cy) (N := N) (T := T) (I := I) (Q := Q) (J := J) (hM.lg hjn1205).1 (hM.lg hjn1205).2
                        refine vp_callSi (W.runV (As := [.int y1284, .int 0]) (rest := [.int 0, .ref (w 16)]) ⟨hx, hb, hml, hown, hts⟩ (c_X6_get l dC dI cy w L K N T Q I J (5 * xp.toNatClampNeg + n1205) y1284 0 hM hjn1205 (by omega) (by omega) (by unfold vp_in; decide)) (cwV 2 hts gX7_consume_X6_get rfl rfl rfl (by decide +kernel) ⟨Nat.le_of_ble_eq_true rfl, Nat.le_of_ble_eq_true rfl⟩) ⟨mb_blind, va_recv hK hP (ci := 6) (q0 := j1330) rfl hj1330, fun U hU hW => ⟨rfl, mb_pre hP hK hU hW⟩⟩ rfl rfl hl.1 rfl (lv_room (Nat.le_of_ble_eq_true rfl)) dX7_consume_136 ⟨Nat.le_of_ble_eq_true rfl, Nat.le_of_ble_eq_true rfl⟩) (fun r1329 hr1329 => ?_)
                        obtain ⟨j1331, hj1331⟩ := wG_20 (cy := cy) (N := N) (T := T) (I := I) (Q := Q) (J := J) (hM.at 16 (by decide)) (hM.k 16 (by decide) rfl)
                        have hDo := hD
                        refine va_iast (x := r1329) hx hb hK hP hD hS j1331 1 hj1331 rfl (hM.inN (n := 6) 16 (by decide) rfl rfl (by unfold vp_in; decide)) dX7_consume_139 (fun H locs hP hD hS => ?_)
                        have hP := Eq.mp (congrArg (fun w => va_P (dC, dI) vwCl w H) (wS_20 hDo (hM.at 16 (by decide)) (hM.k 16 (by decide) rfl) hj1331)) hP
                        obtain ⟨J1332, eJ1332⟩ : ∃ z, z = va_up J (w 16) (upd (J (w 16)) (0 : Int32).toNatClampNeg r1329) := ⟨_, rfl⟩
                        rw [← eJ1332] at hP
                        have hR : RM w [] I J I J1332 := by rw [eJ1332]; exact hR.pj hM (by decide) (by decide)
                        have hMD : MD w J1332 := by rw [eJ1332]; exact hMD.pj hM (by decide) (by decide)
                        have hD : va_D A (va_pl L (wF cy K N T I Q J1332)) := pD hDo
                        refine lv_iconst (v := 1) hx hb dX7_consume_140 (by decide) ?_
                        refine lv_istore (lv' := [(7, .int 1), (6, .int y1284), (5, .int z1282), (4, .ref (w (21 + (5 * xp.toNatClampNeg + n1205)))), (0, .ref (w 0)), (1, .int xp), (2, .int xo), (3, .int cm)]) hx hb dX7_consume_141 hl (by decide) rfl (fun ls hl => ?_)
                        have hLP1333 : ∀ (n : Nat) (y1334 : Int32) (Ia1333 Ja1333 : Nat → Nat → Int32) (H : Heap) (locs : List Loc) (ls : Array Slot), (6 - y1334.toInt).toNat < n → 0 ≤ y1334.toInt → (Ia1333 = I) → RM w [] I J Ia1333 Ja1333 → ML w E Ia1333 → MD w Ja1333 → MU w Ia1333 →  va_P (dC, dI) vwCl (va_pl L (wF cy K N T Ia1333 Q Ja1333)) H → va_D A (va_pl L (wF cy K N T Ia1333 Q Ja1333)) → va_S A s.heap H locs → lv_has ls 8 [(7, .int y1334), (6, .int y1284), (5, .int z1282), (4, .ref (w (21 + (5 * xp.toNatClampNeg + n1205)))), (0, .ref (w 0)), (1, .int xp), (2, .int xo), (3, .int cm)] → W p l e (headSpec wsX7_consume ({ frames := 3, cells := 0, slots := 0, locals := 73 })).room s m ([.ref (w 0), .int xp, .int xo, .int cm] : List Value).toArray below meth c H locs 0 0 Qz (F0 m 143 ls []) := by
                          intro n
                          induction n with
                          | zero => intro y1334 Ia1333 Ja1333 H locs ls hms; exact absurd hms (Nat.not_lt_zero _)
                          | succ n ih1333 =>
                            intro y1334 Ia1333 Ja1333 H locs ls hms hnn1333 hiv1333 hR hML hMD hMU hP hD hS hl
                            refine lv_iload hx hb dX7_consume_143 (lv_at hl 0 rfl) ?_
                            refine lv_bipush (v := 6) hx hb dX7_consume_145 (by decide) ?_
                            refine lv_icmp_ge (tgt := 174) hx hb dX7_consume_147 (by decide) (fun c1335 => ?_) (fun c1335 => ?_)
                            · have kc1335 : 6 ≤ y1334.toInt := by have h9 := c1335; rw [xk_le, xk_6] at h9; exact h9
                              refine lv_iload hx hb dX7_consume_174 (lv_at hl 1 rfl) ?_
                              rw [hQz]
                              exact W.iret (v := y1284) hx hb hr (fun t ht hW => ⟨⟨y1284, (Ia1333, Ja1333), rfl, ⟨⟨hML.mono (by omega), hMD, hMU⟩, hR⟩, by rw [ht]; exact hP, va_K.moved hW.alike hK, hD⟩, hS.F ht⟩) hS.2.2 dX7_consume_176
                            · have kc1335 : ¬ (6 ≤ y1334.toInt) := by have h9 := c1335; rw [xk_le, xk_6] at h9; exact h9
                              refine lv_aload_n hx hb dX7_consume_150 rfl (lv_at hl 4 rfl) ?_
                              obtain ⟨j1336, hj1336⟩ := wG_7 (cy := cy) (N := N) (T := T) (I := Ia1333) (Q := Q) (J := Ja1333) (hM.at 0 (by decide)) (hM.k 0 (by decide) rfl)
                              refine va_get (D := (dC, dI)) (ci := 7) (v := .ref (T (w 0) 15)) (C := RX7) (T := TX7) (N := 18) hx hb hts hi7 hown hK hP j1336 hj1336 rfl 15 (by decide) (hts (.fieldLink RX7 58 "TallyLogsModel" "seen" "[I") (by decide +kernel)) (fun _ h9 => h9) rfl dX7_consume_151 ?_
                              refine W.eq (g2 := F0 m 154 ls [.ref (w 16)]) (by rw [hM.t 15 (by decide)]) ?_
                              refine lv_iload hx hb dX7_consume_154 (lv_at hl 0 rfl) ?_
                              refine lv_aload hx hb dX7_consume_156 (lv_at hl 3 rfl) ?_
                              refine lv_iload hx hb dX7_consume_158 (lv_at hl 1 rfl) ?_
                              refine lv_iload hx hb dX7_consume_160 (lv_at hl 0 rfl) ?_
                              refine lv_iconst (v := 1) hx hb dX7_consume_162 (by decide) ?_
                              refine lv_iadd hx hb dX7_consume_163 ?_
                              refine lv_topi (fun v1337 ev1337 => ?_)
                              have hin1338 : vp_in v1337 8 := by rw [ev1337]; exact xin_of (by rw [xaddk (k := 1) (by decide) (by omega) (by omega)]; omega) (by rw [xaddk (k := 1) (by decide) (by omega) (by omega)]; omega)
                              obtain ⟨j1340, hj1340⟩ := wG_6 (cy := cy) (N := N) (T := T) (I := Ia1333) (Q := Q) (J := Ja1333) (hM.lg hjn1205).1 (hM.lg hjn1205).2
                              refine vp_callSi (W.runV (As := [.int y1284, .int v1337]) (rest := [.int y1334, .ref (w 16)]) ⟨hx, hb, hml, hown, hts⟩ (c_X6_get l dC dI cy w L K N T Q Ia1333 Ja1333 (5 * xp.toNatClampNeg + n1205) y1284 v1337 hM hjn1205 (by rw [hiv1333]; omega) (by rw [hiv1333]; omega) hin1338) (cwV 2 hts gX7_consume_X6_get rfl rfl rfl (by decide +kernel) ⟨Nat.le_of_ble_eq_true rfl, Nat.le_of_ble_eq_true rfl⟩) ⟨mb_blind, va_recv hK hP (ci := 6) (q0 := j1340) rfl hj1340, fun U hU hW => ⟨rfl, mb_pre hP hK hU hW⟩⟩ rfl rfl hl.1 rfl (lv_room (Nat.le_of_ble_eq_true rfl)) dX7_consume_164 ⟨Nat.le_of_ble_eq_true rfl, Nat.le_of_ble_eq_true rfl⟩) (fun r1339 hr1339 => ?_)
                              obtain ⟨j1341, hj1341⟩ := wG_20 (cy := cy) (N := N) (T := T) (I := Ia1333) (Q := Q) (J := Ja1333) (hM.at 16 (by decide)) (hM.k 16 (by decide) rfl)
                              have hDo := hD
                              refine va_iast (x := r1339) hx hb hK hP hD hS j1341 1 hj1341 rfl (hM.inN (n := 6) 16 (by decide) rfl rfl (xin_of hnn1333 (by have kc := c1335; simp only [xk_lt, xk_le, xk_0, xk_1, xk_2, xk_3, xk_4, xk_5, xk_6, xk_7, xk_8, xk_50] at kc; omega))) dX7_consume_167 (fun H locs hP hD hS => ?_)
                              have hP := Eq.mp (congrArg (fun w => va_P (dC, dI) vwCl w H) (wS_20 hDo (hM.at 16 (by decide)) (hM.k 16 (by decide) rfl) hj1341)) hP
                              obtain ⟨J1342, eJ1342⟩ : ∃ z, z = va_up Ja1333 (w 16) (upd (Ja1333 (w 16)) y1334.toNatClampNeg r1339) := ⟨_, rfl⟩
                              rw [← eJ1342] at hP
                              have hR : RM w [] I J Ia1333 J1342 := by rw [eJ1342]; exact hR.pj hM (by decide) (by decide)
                              have hMD : MD w J1342 := by rw [eJ1342]; exact hMD.pj hM (by decide) (by decide)
                              have hD : va_D A (va_pl L (wF cy K N T Ia1333 Q J1342)) := pD hDo
                              obtain ⟨v1343, ev1343⟩ : ∃ y : Int32, y = y1334 + Int32.ofInt 1 := ⟨_, rfl⟩
                              refine lv_iinc (v := v1343) (lv' := [(7, .int v1343), (6, .int y1284), (5, .int z1282), (4, .ref (w (21 + (5 * xp.toNatClampNeg + n1205)))), (0, .ref (w 0)), (1, .int xp), (2, .int xo), (3, .int cm)]) hx hb dX7_consume_168 hl (k := 0) rfl ev1343.symm (by decide) rfl (fun ls hl => ?_)
                              refine lv_goto (tgt := 143) hx hb dX7_consume_171 (by decide) ?_
                              have tv1343 : v1343.toInt = y1334.toInt + 1 := by rw [ev1343, show y1334 + Int32.ofInt 1 = y1334 + 1 from rfl]; exact xinc (y := (6 : Int32)) (by rw [xk_lt, xk_6]; omega)
                              exact ih1333 _ _ _ _ _ _ (by omega) (by omega) (hiv1333) hR (hML.mono (by omega)) hMD hMU hP hD hS (lv_sub hl [0, 1, 2, 3, 4, 5, 6, 7] rfl)
                        exact hLP1333 _ _ _ _ _ _ _ (Nat.lt_succ_self _) (by decide) (rfl) hR (hML.mono (by omega)) hMD hMU hP hD hS (lv_sub hl [0, 1, 2, 3, 4, 5, 6, 7] rfl)
                      · have kc1327 : r1326.toInt = 2 := by have h9 := c1327; rw [xk_eq, xk_2] at h9; exact h9
                        refine lv_goto (tgt := 177) hx hb dX7_consume_123 (by decide) ?_
                        obtain ⟨v1344, ev1344⟩ : ∃ y : Int32, y = y1284 + Int32.ofInt 1 := ⟨_, rfl⟩
                        refine lv_iinc (v := v1344) (lv' := [(6, .int v1344), (5, .int z1282), (4, .ref (w (21 + (5 * xp.toNatClampNeg + n1205)))), (0, .ref (w 0)), (1, .int xp), (2, .int xo), (3, .int cm)]) hx hb dX7_consume_177 hl (k := 0) rfl ev1344.symm (by decide) rfl (fun ls hl => ?_)
                        refine lv_goto (tgt := 77) hx hb dX7_consume_180 (by decide) ?_
                        have tv1344 : v1344.toInt = y1284.toInt + 1 := by rw [ev1344, show y1284 + Int32.ofInt 1 = y1284 + 1 from rfl]; exact xinc (y := z1282) (by rw [xk_lt]; omega)
                        exact ih1283 _ _ (by omega) (by omega) (by omega)  (lv_sub hl [0, 1, 2, 3, 4, 5, 6] rfl)
          exact hLP1283 _ _ _ (Nat.lt_succ_self _) (by omega) (by omega)  (lv_sub hl [0, 1, 2, 3, 4, 5, 6] rfl)
      · refine lv_iconst (v := (-1)) hx hb dX7_consume_45 (by decide) ?_
        exact W.iret (v := (-1)) hx hb hr (fun t ht hW => ⟨⟨(-1), (I, J), rfl, ⟨⟨hML.mono (by omega), hMD, hMU⟩, hR⟩, by rw [ht]; exact hP, va_K.moved hW.alike hK, hD⟩, hS.F ht⟩) hS.2.2 dX7_consume_46
  · have kc1201 : r1199.toInt = 0 := by have h9 := c1201; rw [xk_eq, xk_0] at h9; exact h9
    refine lv_iconst (v := (-1)) hx hb dX7_consume_8 (by decide) ?_
    exact W.iret (v := (-1)) hx hb hr (fun t ht hW => ⟨⟨(-1), (I, J), rfl, ⟨⟨hML.mono (by omega), hMD, hMU⟩, hR⟩, by rw [ht]; exact hP, va_K.moved hW.alike hK, hD⟩, hS.F ht⟩) hS.2.2 dX7_consume_9
set_option maxHeartbeats 4000000 in
set_option maxRecDepth 100000 in
/-- produce -/
theorem c_X7_produce (l : Launch) (dC : Nat → ClassId) (dI : Nat → Nat → Nat) (cy : Nat → ClassId) (w : Nat → Nat) (L : List Nat) (K N : Nat → Nat) (T : Nat → Nat → Nat) (Q : Nat → Nat → Option Nat) (I J : Nat → Nat → Int32) (sz : Nat) (E : Int) (xp : Int32) (xh : Int32) (xs : Int32) (xk : Int32) (xv : Int32) (al : Int32) (hM : MS w L K N T Q) (hI : MI w E I J) (hE : E ≤ 1000) : Met l yX7_produce wsX7_produce ({ frames := 4, cells := 0, slots := 0, locals := 99 }) (va_Pc [.ref (w 0), .int xp, .int xh, .int xs, .int xk, .int xv, .int al] (mW dC dI cy L (wF cy K N T I Q J) sz)) (va_Qi (fun (r : Int32) (d : (Nat → Nat → Int32) × (Nat → Nat → Int32)) => MI w (E + 5) d.1 d.2 ∧ RM w [] I J d.1 d.2) (fun (d : (Nat → Nat → Int32) × (Nat → Nat → Int32)) t => va_P (dC, dI) vwCl (va_pl L (wF cy K N T d.1 Q d.2)) t.heap ∧ va_K (dC, dI) vwCl (mTy cy) t ∧ va_D (va_A (va_pl L (wF cy K N T I Q J)) sz) (va_pl L (wF cy K N T d.1 Q d.2))) (va_A (va_pl L (wF cy K N T I Q J)) sz)) 0 0 (va_A (va_pl L (wF cy K N T I Q J)) sz) := by
  refine Met.ofW (cc := cX7_produce) (maxL := 12) (ret := (some .int)) (by decide) rfl ?_
  intro p e s m args below meth c s₁ B hml hv
  obtain ⟨rfl, hsz, ⟨hP, hK⟩, hD0⟩ := hv
  have hx := B.exec
  have hb := B.bytes
  have hr := B.returns
  have hts := atoms_spec (ws := wsX7_produce) B.pre
  have hown : s.vm.findClass RX7 = some m.cls := findClass_of_methodNamed B.named
  have hlocks := B.notSynchronized
  have hi7 : ∀ w ∈ wsX70, w ∈ wsX7_produce := by decide +kernel
  have hi6 : ∀ w ∈ wsX60, w ∈ wsX7_produce := by decide +kernel
  have hl := lv_entry ([.ref (w 0), .int xp, .int xh, .int xs, .int xk, .int xv, .int al]) (n := 12) (Nat.le_of_ble_eq_true rfl)
  rw [lg_entry_eq]
  generalize (lg_sl ([.ref (w 0), .int xp, .int xh, .int xs, .int xk, .int xv, .int al]) ++ List.replicate (12 - (lg_sl ([.ref (w 0), .int xp, .int xh, .int xs, .int xk, .int xv, .int al])).length) Slot.unset).toArray = ls at hl ⊢
  have hl : lv_has ls 12 [(0, .ref (w 0)), (1, .int xp), (2, .int xh), (3, .int xs), (4, .int xk), (5, .int xv), (6, .int al)] := hl
  subst hsz
  have hD := hD0.self (sz := s.heap.size)
  generalize hAe : va_A (va_pl L (wF cy K N T I Q J)) s.heap.size = A at hD ⊢
  have hA : ∀ q : Nat, s.heap.size ≤ q → A q := fun q h => by rw [← hAe]; exact Or.inr h
  have hS : va_S A s.heap s.heap [] := va_S.rf
  have hR : RM w [] I J I J := RM.rf
  obtain ⟨hML, hMD, hMU⟩ := hI
  refine lv_aload_n hx hb dX7_produce_0 rfl (lv_at hl 0 rfl) ?_
  refine lv_iload_n hx hb dX7_produce_1 rfl (lv_at hl 1 rfl) ?_
  obtain ⟨j1346, hj1346⟩ := wG_7 (cy := cy) (N := N) (T := T) (I := I) (Q := Q) (J := J) (hM.at 0 (by decide)) (hM.k 0 (by decide) rfl)
  refine vp_callSi (W.runV (As := [.int xp]) (rest := []) ⟨hx, hb, hml, hown, hts⟩ (c_X7_isThere l dC dI cy w L K N T Q I J xp hM) (cwV 1 hts gX7_produce_X7_isThere rfl rfl rfl (by decide +kernel) ⟨Nat.le_of_ble_eq_true rfl, Nat.le_of_ble_eq_true rfl⟩) ⟨mb_blind, va_recv hK hP (ci := 7) (q0 := j1346) rfl hj1346, fun U hU hW => ⟨rfl, mb_pre hP hK hU hW⟩⟩ rfl rfl hl.1 rfl (lv_room (Nat.le_of_ble_eq_true rfl)) dX7_produce_2 ⟨Nat.le_of_ble_eq_true rfl, Nat.le_of_ble_eq_true rfl⟩) (fun r1345 hr1345 => ?_)
  refine lv_if_eq (tgt := 20) hx hb dX7_produce_5 (by decide) (fun c1347 => ?_) (fun c1347 => ?_)
  · have kc1347 : r1345.toInt = 0 := by have h9 := c1347; rw [xk_eq, xk_0] at h9; exact h9
    refine lv_iconst (v := (-1)) hx hb dX7_produce_20 (by decide) ?_
    exact W.iret (v := (-1)) hx hb hr (fun t ht hW => ⟨⟨(-1), (I, J), rfl, ⟨⟨hML.mono (by omega), hMD, hMU⟩, hR⟩, by rw [ht]; exact hP, va_K.moved hW.alike hK, hD⟩, hS.F ht⟩) hS.2.2 dX7_produce_21
  · have hth1348 := sp_it1 (by rw [← hr1345]; exact c1347)
    have kc1347 : ¬ (r1345.toInt = 0) := by have h9 := c1347; rw [xk_eq, xk_0] at h9; exact h9
    refine lv_iload_n hx hb dX7_produce_8 rfl (lv_at hl 2 rfl) ?_
    refine lv_iconst (v := (-1)) hx hb dX7_produce_9 (by decide) ?_
    refine lv_icmp_eq (tgt := 22) hx hb dX7_produce_10 (by decide) (fun c1349 => ?_) (fun c1349 => ?_)
    · have kc1349 : xh.toInt = (-1) := by have h9 := c1349; rw [xk_eq, (show ((-1) : Int32).toInt = -1 by decide)] at h9; exact h9
      refine lv_aload_n hx hb dX7_produce_22 rfl (lv_at hl 0 rfl) ?_
      refine lv_iload_n hx hb dX7_produce_23 rfl (lv_at hl 1 rfl) ?_
      obtain ⟨j1351, hj1351⟩ := wG_7 (cy := cy) (N := N) (T := T) (I := I) (Q := Q) (J := J) (hM.at 0 (by decide)) (hM.k 0 (by decide) rfl)
      refine va_csq (W.runV (As := [.int xp]) (rest := []) ⟨hx, hb, hml, hown, hts⟩ (c_X7_own l dC dI cy w L K N T Q I J xp hM hth1348.1) (cwV 1 hts gX7_produce_X7_own rfl rfl rfl (by decide +kernel) ⟨Nat.le_of_ble_eq_true rfl, Nat.le_of_ble_eq_true rfl⟩) ⟨mb_blind, va_recv hK hP (ci := 7) (q0 := j1351) rfl hj1351, fun U hU hW => ⟨rfl, mb_pre hP hK hU hW⟩⟩ rfl rfl hl.1 rfl (lv_room (Nat.le_of_ble_eq_true rfl)) dX7_produce_24 ⟨Nat.le_of_ble_eq_true rfl, Nat.le_of_ble_eq_true rfl⟩) (fun r1350 hr1350 => ?_)
      subst hr1350
      rcases sp_ow_cs w (I (w 0) 16) (J (w 4) xp.toNatClampNeg) xp.toNatClampNeg with hon1352 | ⟨n1352, hnn1352, eln1352, hubn1352, hon1352⟩
      · refine W.eq (g2 := F0 m 27 ls [.null]) (by rw [hon1352]; rfl) ?_
        refine lv_astoreN (lv' := [(7, .null), (0, .ref (w 0)), (1, .int xp), (2, .int xh), (3, .int xs), (4, .int xk), (5, .int xv), (6, .int al)]) hx hb dX7_produce_27 hl (by decide) rfl (fun ls hl => ?_)
        refine lv_aloadN hx hb dX7_produce_29 (lv_at hl 0 rfl) ?_
        refine lv_ifnonnullN hx hb dX7_produce_31 ?_
        refine lv_bipush (v := (-2)) hx hb dX7_produce_34 (by decide) ?_
        exact W.iret (v := (-2)) hx hb hr (fun t ht hW => ⟨⟨(-2), (I, J), rfl, ⟨⟨hML.mono (by omega), hMD, hMU⟩, hR⟩, by rw [ht]; exact hP, va_K.moved hW.alike hK, hD⟩, hS.F ht⟩) hS.2.2 dX7_produce_36
      · have hjn1352 : (5 * xp.toNatClampNeg + n1352) < 20 := by have h1 := vp_lt (n := 4) hth1348.1; omega
        refine W.eq (g2 := F0 m 27 ls [.ref (w (21 + (5 * xp.toNatClampNeg + n1352)))]) (by rw [hon1352]; rfl) ?_
        refine lv_astore (lv' := [(7, .ref (w (21 + (5 * xp.toNatClampNeg + n1352)))), (0, .ref (w 0)), (1, .int xp), (2, .int xh), (3, .int xs), (4, .int xk), (5, .int xv), (6, .int al)]) hx hb dX7_produce_27 hl (by decide) rfl (fun ls hl => ?_)
        refine lv_aload hx hb dX7_produce_29 (lv_at hl 0 rfl) ?_
        refine lv_ifnonnull (tgt := 37) hx hb dX7_produce_31 (by decide) ?_
        obtain ⟨ha1353, hb1353, hc1353, hd1353, he1353, hf1353⟩ := hML (5 * xp.toNatClampNeg + n1352) hjn1352
        refine lv_iload_n hx hb dX7_produce_37 rfl (lv_at hl 3 rfl) ?_
        refine lv_if_ge (tgt := 45) hx hb dX7_produce_38 (by decide) (fun c1354 => ?_) (fun c1354 => ?_)
        · exact absurd c1354 (by rw [c1349]; decide)
        refine lv_iconst (v := (-1)) hx hb dX7_produce_41 (by decide) ?_
        refine lv_goto (tgt := 49) hx hb dX7_produce_42 (by decide) ?_
        refine lv_istore (lv' := [(8, .int (-1)), (7, .ref (w (21 + (5 * xp.toNatClampNeg + n1352)))), (0, .ref (w 0)), (1, .int xp), (2, .int xh), (3, .int xs), (4, .int xk), (5, .int xv), (6, .int al)]) hx hb dX7_produce_49 hl (by decide) rfl (fun ls hl => ?_)
        refine lv_iload_n hx hb dX7_produce_51 rfl (lv_at hl 4 rfl) ?_
        refine lv_if_ge (tgt := 59) hx hb dX7_produce_52 (by decide) (fun c1355 => ?_) (fun c1355 => ?_)
        · exact absurd c1355 (by rw [c1349]; decide)
        refine lv_iconst (v := (-1)) hx hb dX7_produce_55 (by decide) ?_
        refine lv_goto (tgt := 63) hx hb dX7_produce_56 (by decide) ?_
        refine lv_istore (lv' := [(9, .int (-1)), (8, .int (-1)), (7, .ref (w (21 + (5 * xp.toNatClampNeg + n1352)))), (0, .ref (w 0)), (1, .int xp), (2, .int xh), (3, .int xs), (4, .int xk), (5, .int xv), (6, .int al)]) hx hb dX7_produce_63 hl (by decide) rfl (fun ls hl => ?_)
        refine lv_iload hx hb dX7_produce_65 (lv_at hl 1 rfl) ?_
        refine lv_if_lt (tgt := 96) hx hb dX7_produce_67 (by decide) (fun c1356 => ?_) (fun c1356 => ?_)
        rotate_left
        · exact absurd c1356 (by decide)
        refine lv_iload hx hb dX7_produce_96 (lv_at hl 9 rfl) ?_
        refine lv_if_eq (tgt := 122) hx hb dX7_produce_98 (by decide) (fun c1357 => ?_) (fun c1357 => ?_)
        · have kc1357 : al.toInt = 0 := by have h9 := c1357; rw [xk_eq, xk_0] at h9; exact h9
          refine lv_iload hx hb dX7_produce_122 (lv_at hl 1 rfl) ?_
          refine lv_if_lt (tgt := 241) hx hb dX7_produce_124 (by decide) (fun c1358 => ?_) (fun c1358 => ?_)
          rotate_left
          · exact absurd c1358 (by decide)
          refine lv_aload hx hb dX7_produce_241 (lv_at hl 2 rfl) ?_
          obtain ⟨j1360, hj1360⟩ := wG_6 (cy := cy) (N := N) (T := T) (I := I) (Q := Q) (J := J) (hM.lg hjn1352).1 (hM.lg hjn1352).2
          refine vp_callSi (W.runV (As := []) (rest := []) ⟨hx, hb, hml, hown, hts⟩ (c_X6_many l dC dI cy w L K N T Q I J (5 * xp.toNatClampNeg + n1352) hM hjn1352) (cwV 0 hts gX7_produce_X6_many rfl rfl rfl (by decide +kernel) ⟨Nat.le_of_ble_eq_true rfl, Nat.le_of_ble_eq_true rfl⟩) ⟨mb_blind, va_recv hK hP (ci := 6) (q0 := j1360) rfl hj1360, fun U hU hW => ⟨rfl, mb_pre hP hK hU hW⟩⟩ rfl rfl hl.1 rfl (lv_room (Nat.le_of_ble_eq_true rfl)) dX7_produce_243 ⟨Nat.le_of_ble_eq_true rfl, Nat.le_of_ble_eq_true rfl⟩) (fun r1359 hr1359 => ?_)
          obtain ⟨ha1361, hb1361, hc1361, hd1361, he1361, hf1361⟩ := hML (5 * xp.toNatClampNeg + n1352) hjn1352
          have tr1359 : r1359.toInt = (I (w (21 + (5 * xp.toNatClampNeg + n1352))) 2).toInt - (I (w (21 + (5 * xp.toNatClampNeg + n1352))) 1).toInt := by rw [hr1359]; exact xsub (by omega) (by omega)
          refine lv_bipush (v := 60) hx hb dX7_produce_246 (by decide) ?_
          refine lv_icmp_ne (tgt := 254) hx hb dX7_produce_248 (by decide) (fun c1362 => ?_) (fun c1362 => ?_)
          · have kc1362 : ¬ (r1359.toInt = 60) := by have h9 := c1362; rw [xk_eq, (show (60 : Int32).toInt = 60 by decide)] at h9; exact h9
            refine lv_iload hx hb dX7_produce_254 (lv_at hl 1 rfl) ?_
            refine lv_if_lt (tgt := 274) hx hb dX7_produce_256 (by decide) (fun c1363 => ?_) (fun c1363 => ?_)
            rotate_left
            · exact absurd c1363 (by decide)
            refine lv_iconst (v := 0) hx hb dX7_produce_274 (by decide) ?_
            refine lv_istore (lv' := [(10, .int 0), (9, .int (-1)), (8, .int (-1)), (7, .ref (w (21 + (5 * xp.toNatClampNeg + n1352)))), (0, .ref (w 0)), (1, .int xp), (2, .int xh), (3, .int xs), (4, .int xk), (5, .int xv), (6, .int al)]) hx hb dX7_produce_275 hl (by decide) rfl (fun ls hl => ?_)
            refine lv_aload hx hb dX7_produce_277 (lv_at hl 3 rfl) ?_
            refine lv_aload_n hx hb dX7_produce_279 rfl (lv_at hl 4 rfl) ?_
            obtain ⟨j1364, hj1364⟩ := wG_7 (cy := cy) (N := N) (T := T) (I := I) (Q := Q) (J := J) (hM.at 0 (by decide)) (hM.k 0 (by decide) rfl)
            refine va_get (D := (dC, dI)) (ci := 7) (v := .ref (T (w 0) 4)) (C := RX7) (T := TX7) (N := 18) hx hb hts hi7 hown hK hP j1364 hj1364 rfl 4 (by decide) (hts (.fieldLink RX7 25 "TallyLogsModel" "epoch" "[I") (by decide +kernel)) (fun _ h9 => h9) rfl dX7_produce_280 ?_
            refine W.eq (g2 := F0 m 283 ls [.ref (w 5), .ref (w (21 + (5 * xp.toNatClampNeg + n1352)))]) (by rw [hM.t 4 (by decide)]) ?_
            refine lv_iload_n hx hb dX7_produce_283 rfl (lv_at hl 5 rfl) ?_
            obtain ⟨j1365, hj1365⟩ := wG_20 (cy := cy) (N := N) (T := T) (I := I) (Q := Q) (J := J) (hM.at 5 (by decide)) (hM.k 5 (by decide) rfl)
            refine va_iald hx hb hK hP j1365 1 hj1365 rfl (hM.inN (n := 4) 5 (by decide) rfl rfl hth1348.1) dX7_produce_284 ?_
            refine lv_topi (fun x1366 ex1366 => ?_)
            refine lv_iconst (v := 0) hx hb dX7_produce_285 (by decide) ?_
            refine lv_iload hx hb dX7_produce_286 (lv_at hl 2 rfl) ?_
            refine lv_iload hx hb dX7_produce_288 (lv_at hl 1 rfl) ?_
            refine lv_iload hx hb dX7_produce_290 (lv_at hl 2 rfl) ?_
            refine lv_if_ge (tgt := 299) hx hb dX7_produce_292 (by decide) (fun c1367 => ?_) (fun c1367 => ?_)
            · exact absurd c1367 (by decide)
            refine lv_iconst (v := (-1)) hx hb dX7_produce_295 (by decide) ?_
            refine lv_goto (tgt := 300) hx hb dX7_produce_296 (by decide) ?_
            refine lv_iload hx hb dX7_produce_300 (lv_at hl 8 rfl) ?_
            refine lv_iload hx hb dX7_produce_302 (lv_at hl 9 rfl) ?_
            refine lv_iload hx hb dX7_produce_304 (lv_at hl 0 rfl) ?_
            refine lv_if_eq (tgt := 313) hx hb dX7_produce_306 (by decide) (fun c1368 => ?_) (fun c1368 => ?_)
            rotate_left
            · exact absurd c1368 (by decide)
            refine lv_iconst (v := 0) hx hb dX7_produce_313 (by decide) ?_
            obtain ⟨j1369, hj1369⟩ := wG_6 (cy := cy) (N := N) (T := T) (I := I) (Q := Q) (J := J) (hM.lg hjn1352).1 (hM.lg hjn1352).2
            have hFc := pfree hD hS hA
            refine va_callv (va_runV (As := [.int x1366, .int 0, .int (-1), .int (-1), .int (-1), .int xk, .int xv, .int 0]) (rest := []) ⟨hx, hb, hml, hown, hts⟩ (c_X6_add l dC dI cy w L K N T Q I J s.heap.size (5 * xp.toNatClampNeg + n1352) x1366 0 (-1) (-1) (-1) xk xv 0 hM hjn1352 (by omega) (by omega) (by omega) (by omega)) (cwV 8 hts gX7_produce_X6_add rfl rfl rfl (by decide +kernel) ⟨Nat.le_of_ble_eq_true rfl, Nat.le_of_ble_eq_true rfl⟩) ⟨mw_blind, va_recv hK hP (ci := 6) (q0 := j1369) rfl hj1369, fun U hU hW => ⟨rfl, mw_pre hP hK hD hU hW⟩⟩ rfl rfl hl.1 rfl (lv_room (Nat.le_of_ble_eq_true rfl)) dX7_produce_314 ⟨Nat.le_of_ble_eq_true rfl, Nat.le_of_ble_eq_true rfl⟩) hS (fun q _ h => hFc q h) hFc (fun d9 t H1 locs ht hvm hw hB hz1 hk1 hS => ?_)
            obtain ⟨I1370, J1370⟩ := d9
            obtain ⟨hP, hK1, hD1⟩ := hB
            rw [ht] at hP
            have hD := hD1.weaken (fun _ _ _ h => hFc _ h)
            generalize H1 = H at hP hS ⊢
            have hP : va_P (dC, dI) vwCl (va_pl L (wF cy K N T I1370 Q J1370)) H := hP
            have hD : va_D A (va_pl L (wF cy K N T I1370 Q J1370)) := hD
            have hw1372 : LW w I J I1370 J1370 (5 * xp.toNatClampNeg + n1352) _ _ := hw
            have hR : RM w [] I J I1370 J1370 := hR.lw hM hjn1352 hw1372
            have hMD : MD w J1370 := hMD.lw hM hjn1352 hw1372
            have hMU : MU w I1370 := hMU.lw hM hjn1352 hw1372
            have q1hw1372 : (I1370 (w (21 + (5 * xp.toNatClampNeg + n1352))) 1).toInt = _ := hw1372.2.2.1
            have q2hw1372 : (I1370 (w (21 + (5 * xp.toNatClampNeg + n1352))) 2).toInt = _ := hw1372.2.2.2
            have q3hw1372 : (I1370 (w (21 + (5 * xp.toNatClampNeg + n1352))) 3).toInt = _ := congrArg Int32.toInt hw1372.f3
            have q4hw1372 : (I1370 (w (21 + (5 * xp.toNatClampNeg + n1352))) 4).toInt = _ := congrArg Int32.toInt hw1372.f4
            have hML : ML w (E + 1) I1370 := hML.lw hM hjn1352 hw1372 (by omega) ⟨by omega, by omega, by omega, by omega, by omega, by omega⟩
            refine lv_iload hx hb dX7_produce_317 (lv_at hl 0 rfl) ?_
            refine lv_if_eq (tgt := 335) hx hb dX7_produce_319 (by decide) (fun c1373 => ?_) (fun c1373 => ?_)
            rotate_left
            · exact absurd c1373 (by decide)
            refine lv_aload_n hx hb dX7_produce_335 rfl (lv_at hl 4 rfl) ?_
            refine lv_iload_n hx hb dX7_produce_336 rfl (lv_at hl 5 rfl) ?_
            obtain ⟨j1374, hj1374⟩ := wG_7 (cy := cy) (N := N) (T := T) (I := I1370) (Q := Q) (J := J1370) (hM.at 0 (by decide)) (hM.k 0 (by decide) rfl)
            have hFc := pfree hD hS hA
            refine va_callv (va_runV (As := [.int xp]) (rest := []) ⟨hx, hb, hml, hown, hts⟩ (c_X7_rise l dC dI cy w L K N T Q I1370 J1370 H.size xp hM hth1348.1 (hMD _ (vp_lt (n := 4) hth1348.1))) (cwV 1 hts gX7_produce_X7_rise rfl rfl rfl (by decide +kernel) ⟨Nat.le_of_ble_eq_true rfl, Nat.le_of_ble_eq_true rfl⟩) ⟨mw_blind, va_recv hK hP (ci := 7) (q0 := j1374) rfl hj1374, fun U hU hW => ⟨rfl, mw_pre hP hK hD hU hW⟩⟩ rfl rfl hl.1 rfl (lv_room (Nat.le_of_ble_eq_true rfl)) dX7_produce_337 ⟨Nat.le_of_ble_eq_true rfl, Nat.le_of_ble_eq_true rfl⟩) hS (fun q _ h => hFc q h) hFc (fun d9 t H1 locs ht hvm hw hB hz1 hk1 hS => ?_)
            obtain ⟨I1375, J1375⟩ := d9
            obtain ⟨hP, hK1, hD1⟩ := hB
            rw [ht] at hP
            have hD := hD1.weaken (fun _ _ _ h => hFc _ h)
            generalize H1 = H at hP hS ⊢
            have hP : va_P (dC, dI) vwCl (va_pl L (wF cy K N T I1375 Q J1375)) H := hP
            have hD : va_D A (va_pl L (wF cy K N T I1375 Q J1375)) := hD
            have hw1377 : RZ w I1370 J1370 I1375 J1375 xp.toNatClampNeg := hw
            have hR : RM w [] I J I1375 J1375 := hR.rz hM (vp_lt (n := 4) hth1348.1) hw1377
            have hMD : MD w J1375 := hMD.rz hw1377
            have hMU : MU w I1375 := hMU.rz hM (vp_lt (n := 4) hth1348.1) hw1377
            have hML : ML w (E + 1) I1375 := hML.rz hM (vp_lt (n := 4) hth1348.1) hw1377
            refine lv_aload hx hb dX7_produce_340 (lv_at hl 3 rfl) ?_
            obtain ⟨j1378, hj1378⟩ := wG_6 (cy := cy) (N := N) (T := T) (I := I1375) (Q := Q) (J := J1375) (hM.lg hjn1352).1 (hM.lg hjn1352).2
            refine va_get (D := (dC, dI)) (ci := 6) (v := .int (I1375 (w (21 + (5 * xp.toNatClampNeg + n1352))) 2)) (C := RX6) (T := TX6) (N := 7) hx hb hts hi6 hown hK hP j1378 hj1378 rfl 2 (by decide) (hts (.fieldLink RX7 89 "TallyLogsModel$Log" "end" "I") (by decide +kernel)) (fun _ h9 => h9) rfl dX7_produce_342 ?_
            refine lv_topi (fun x1379 ex1379 => ?_)
            have tx1379 : x1379.toInt = (I1375 (w (21 + (5 * xp.toNatClampNeg + n1352))) 2).toInt := congrArg Int32.toInt ex1379
            refine lv_iconst (v := 1) hx hb dX7_produce_345 (by decide) ?_
            refine lv_isub hx hb dX7_produce_346 ?_
            refine lv_topi (fun v1380 ev1380 => ?_)
            exact W.iret (v := v1380) hx hb hr (fun t ht hW => ⟨⟨v1380, (I1375, J1375), rfl, ⟨⟨hML.mono (by omega), hMD, hMU⟩, hR⟩, by rw [ht]; exact hP, va_K.moved hW.alike hK, hD⟩, hS.F ht⟩) hS.2.2 dX7_produce_347
          · have kc1362 : r1359.toInt = 60 := by have h9 := c1362; rw [xk_eq, (show (60 : Int32).toInt = 60 by decide)] at h9; exact h9
            refine lv_bipush (v := (-3)) hx hb dX7_produce_251 (by decide) ?_
            exact W.iret (v := (-3)) hx hb hr (fun t ht hW => ⟨⟨(-3), (I, J), rfl, ⟨⟨hML.mono (by omega), hMD, hMU⟩, hR⟩, by rw [ht]; exact hP, va_K.moved hW.alike hK, hD⟩, hS.F ht⟩) hS.2.2 dX7_produce_253
        · have kc1357 : ¬ (al.toInt = 0) := by have h9 := c1357; rw [xk_eq, xk_0] at h9; exact h9
          refine lv_aload_n hx hb dX7_produce_101 rfl (lv_at hl 3 rfl) ?_
          obtain ⟨j1381, hj1381⟩ := wG_7 (cy := cy) (N := N) (T := T) (I := I) (Q := Q) (J := J) (hM.at 0 (by decide)) (hM.k 0 (by decide) rfl)
          refine va_get (D := (dC, dI)) (ci := 7) (v := .ref (T (w 0) 6)) (C := RX7) (T := TX7) (N := 18) hx hb hts hi7 hown hK hP j1381 hj1381 rfl 6 (by decide) (hts (.fieldLink RX7 31 "TallyLogsModel" "step" "[I") (by decide +kernel)) (fun _ h9 => h9) rfl dX7_produce_102 ?_
          refine W.eq (g2 := F0 m 105 ls [.ref (w 7)]) (by rw [hM.t 6 (by decide)]) ?_
          refine lv_iload_n hx hb dX7_produce_105 rfl (lv_at hl 4 rfl) ?_
          obtain ⟨j1382, hj1382⟩ := wG_20 (cy := cy) (N := N) (T := T) (I := I) (Q := Q) (J := J) (hM.at 7 (by decide)) (hM.k 7 (by decide) rfl)
          refine va_iald hx hb hK hP j1382 1 hj1382 rfl (hM.inN (n := 4) 7 (by decide) rfl rfl hth1348.1) dX7_produce_106 ?_
          refine lv_topi (fun x1383 ex1383 => ?_)
          refine vp_callSi (W.runS (As := [.int x1383]) (rest := []) ⟨hx, hb, hml, hown, hts⟩ (c_J6_bitCount_0f7a4 l x1383) (va_cwS 1 hts gX7_produce_J6_bitCount_0f7a4 rfl rfl rfl (by decide +kernel) ⟨Nat.le_of_ble_eq_true rfl, Nat.le_of_ble_eq_true rfl⟩) preEq rfl rfl hl.1 rfl (lv_room (Nat.le_of_ble_eq_true rfl)) dX7_produce_107 ⟨Nat.le_of_ble_eq_true rfl, Nat.le_of_ble_eq_true rfl⟩) (fun r1384 hr1384 => ?_)
          subst hr1384
          refine lv_aload_n hx hb dX7_produce_110 rfl (lv_at hl 3 rfl) ?_
          obtain ⟨j1385, hj1385⟩ := wG_7 (cy := cy) (N := N) (T := T) (I := I) (Q := Q) (J := J) (hM.at 0 (by decide)) (hM.k 0 (by decide) rfl)
          refine va_get (D := (dC, dI)) (ci := 7) (v := .ref (T (w 0) 5)) (C := RX7) (T := TX7) (N := 18) hx hb hts hi7 hown hK hP j1385 hj1385 rfl 5 (by decide) (hts (.fieldLink RX7 28 "TallyLogsModel" "min" "[I") (by decide +kernel)) (fun _ h9 => h9) rfl dX7_produce_111 ?_
          refine W.eq (g2 := F0 m 114 ls [.ref (w 6), .int (sp_bc x1383)]) (by rw [hM.t 5 (by decide)]) ?_
          refine lv_iload_n hx hb dX7_produce_114 rfl (lv_at hl 4 rfl) ?_
          obtain ⟨j1386, hj1386⟩ := wG_20 (cy := cy) (N := N) (T := T) (I := I) (Q := Q) (J := J) (hM.at 6 (by decide)) (hM.k 6 (by decide) rfl)
          refine va_iald hx hb hK hP j1386 1 hj1386 rfl (hM.inN (n := 4) 6 (by decide) rfl rfl hth1348.1) dX7_produce_115 ?_
          refine lv_topi (fun x1387 ex1387 => ?_)
          refine lv_icmp_ge (tgt := 122) hx hb dX7_produce_116 (by decide) (fun c1388 => ?_) (fun c1388 => ?_)
          · have kc1388 : x1387.toInt ≤ (sp_bc x1383).toInt := by have h9 := c1388; rw [xk_le] at h9; exact h9
            refine lv_iload hx hb dX7_produce_122 (lv_at hl 1 rfl) ?_
            refine lv_if_lt (tgt := 241) hx hb dX7_produce_124 (by decide) (fun c1389 => ?_) (fun c1389 => ?_)
            rotate_left
            · exact absurd c1389 (by decide)
            refine lv_aload hx hb dX7_produce_241 (lv_at hl 2 rfl) ?_
            obtain ⟨j1391, hj1391⟩ := wG_6 (cy := cy) (N := N) (T := T) (I := I) (Q := Q) (J := J) (hM.lg hjn1352).1 (hM.lg hjn1352).2
            refine vp_callSi (W.runV (As := []) (rest := []) ⟨hx, hb, hml, hown, hts⟩ (c_X6_many l dC dI cy w L K N T Q I J (5 * xp.toNatClampNeg + n1352) hM hjn1352) (cwV 0 hts gX7_produce_X6_many rfl rfl rfl (by decide +kernel) ⟨Nat.le_of_ble_eq_true rfl, Nat.le_of_ble_eq_true rfl⟩) ⟨mb_blind, va_recv hK hP (ci := 6) (q0 := j1391) rfl hj1391, fun U hU hW => ⟨rfl, mb_pre hP hK hU hW⟩⟩ rfl rfl hl.1 rfl (lv_room (Nat.le_of_ble_eq_true rfl)) dX7_produce_243 ⟨Nat.le_of_ble_eq_true rfl, Nat.le_of_ble_eq_true rfl⟩) (fun r1390 hr1390 => ?_)
            obtain ⟨ha1392, hb1392, hc1392, hd1392, he1392, hf1392⟩ := hML (5 * xp.toNatClampNeg + n1352) hjn1352
            have tr1390 : r1390.toInt = (I (w (21 + (5 * xp.toNatClampNeg + n1352))) 2).toInt - (I (w (21 + (5 * xp.toNatClampNeg + n1352))) 1).toInt := by rw [hr1390]; exact xsub (by omega) (by omega)
            refine lv_bipush (v := 60) hx hb dX7_produce_246 (by decide) ?_
            refine lv_icmp_ne (tgt := 254) hx hb dX7_produce_248 (by decide) (fun c1393 => ?_) (fun c1393 => ?_)
            · have kc1393 : ¬ (r1390.toInt = 60) := by have h9 := c1393; rw [xk_eq, (show (60 : Int32).toInt = 60 by decide)] at h9; exact h9
              refine lv_iload hx hb dX7_produce_254 (lv_at hl 1 rfl) ?_
              refine lv_if_lt (tgt := 274) hx hb dX7_produce_256 (by decide) (fun c1394 => ?_) (fun c1394 => ?_)
              rotate_left
              · exact absurd c1394 (by decide)
              refine lv_iconst (v := 0) hx hb dX7_produce_274 (by decide) ?_
              refine lv_istore (lv' := [(10, .int 0), (9, .int (-1)), (8, .int (-1)), (7, .ref (w (21 + (5 * xp.toNatClampNeg + n1352)))), (0, .ref (w 0)), (1, .int xp), (2, .int xh), (3, .int xs), (4, .int xk), (5, .int xv), (6, .int al)]) hx hb dX7_produce_275 hl (by decide) rfl (fun ls hl => ?_)
              refine lv_aload hx hb dX7_produce_277 (lv_at hl 3 rfl) ?_
              refine lv_aload_n hx hb dX7_produce_279 rfl (lv_at hl 4 rfl) ?_
              obtain ⟨j1395, hj1395⟩ := wG_7 (cy := cy) (N := N) (T := T) (I := I) (Q := Q) (J := J) (hM.at 0 (by decide)) (hM.k 0 (by decide) rfl)
              refine va_get (D := (dC, dI)) (ci := 7) (v := .ref (T (w 0) 4)) (C := RX7) (T := TX7) (N := 18) hx hb hts hi7 hown hK hP j1395 hj1395 rfl 4 (by decide) (hts (.fieldLink RX7 25 "TallyLogsModel" "epoch" "[I") (by decide +kernel)) (fun _ h9 => h9) rfl dX7_produce_280 ?_
              refine W.eq (g2 := F0 m 283 ls [.ref (w 5), .ref (w (21 + (5 * xp.toNatClampNeg + n1352)))]) (by rw [hM.t 4 (by decide)]) ?_
              refine lv_iload_n hx hb dX7_produce_283 rfl (lv_at hl 5 rfl) ?_
              obtain ⟨j1396, hj1396⟩ := wG_20 (cy := cy) (N := N) (T := T) (I := I) (Q := Q) (J := J) (hM.at 5 (by decide)) (hM.k 5 (by decide) rfl)
              refine va_iald hx hb hK hP j1396 1 hj1396 rfl (hM.inN (n := 4) 5 (by decide) rfl rfl hth1348.1) dX7_produce_284 ?_
              refine lv_topi (fun x1397 ex1397 => ?_)
              refine lv_iconst (v := 0) hx hb dX7_produce_285 (by decide) ?_
              refine lv_iload hx hb dX7_produce_286 (lv_at hl 2 rfl) ?_
              refine lv_iload hx hb dX7_produce_288 (lv_at hl 1 rfl) ?_
              refine lv_iload hx hb dX7_produce_290 (lv_at hl 2 rfl) ?_
              refine lv_if_ge (tgt := 299) hx hb dX7_produce_292 (by decide) (fun c1398 => ?_) (fun c1398 => ?_)
              · exact absurd c1398 (by decide)
              refine lv_iconst (v := (-1)) hx hb dX7_produce_295 (by decide) ?_
              refine lv_goto (tgt := 300) hx hb dX7_produce_296 (by decide) ?_
              refine lv_iload hx hb dX7_produce_300 (lv_at hl 8 rfl) ?_
              refine lv_iload hx hb dX7_produce_302 (lv_at hl 9 rfl) ?_
              refine lv_iload hx hb dX7_produce_304 (lv_at hl 0 rfl) ?_
              refine lv_if_eq (tgt := 313) hx hb dX7_produce_306 (by decide) (fun c1399 => ?_) (fun c1399 => ?_)
              rotate_left
              · exact absurd c1399 (by decide)
              refine lv_iconst (v := 0) hx hb dX7_produce_313 (by decide) ?_
              obtain ⟨j1400, hj1400⟩ := wG_6 (cy := cy) (N := N) (T := T) (I := I) (Q := Q) (J := J) (hM.lg hjn1352).1 (hM.lg hjn1352).2
              have hFc := pfree hD hS hA
              refine va_callv (va_runV (As := [.int x1397, .int 0, .int (-1), .int (-1), .int (-1), .int xk, .int xv, .int 0]) (rest := []) ⟨hx, hb, hml, hown, hts⟩ (c_X6_add l dC dI cy w L K N T Q I J s.heap.size (5 * xp.toNatClampNeg + n1352) x1397 0 (-1) (-1) (-1) xk xv 0 hM hjn1352 (by omega) (by omega) (by omega) (by omega)) (cwV 8 hts gX7_produce_X6_add rfl rfl rfl (by decide +kernel) ⟨Nat.le_of_ble_eq_true rfl, Nat.le_of_ble_eq_true rfl⟩) ⟨mw_blind, va_recv hK hP (ci := 6) (q0 := j1400) rfl hj1400, fun U hU hW => ⟨rfl, mw_pre hP hK hD hU hW⟩⟩ rfl rfl hl.1 rfl (lv_room (Nat.le_of_ble_eq_true rfl)) dX7_produce_314 ⟨Nat.le_of_ble_eq_true rfl, Nat.le_of_ble_eq_true rfl⟩) hS (fun q _ h => hFc q h) hFc (fun d9 t H1 locs ht hvm hw hB hz1 hk1 hS => ?_)
              obtain ⟨I1401, J1401⟩ := d9
              obtain ⟨hP, hK1, hD1⟩ := hB
              rw [ht] at hP
              have hD := hD1.weaken (fun _ _ _ h => hFc _ h)
              generalize H1 = H at hP hS ⊢
              have hP : va_P (dC, dI) vwCl (va_pl L (wF cy K N T I1401 Q J1401)) H := hP
              have hD : va_D A (va_pl L (wF cy K N T I1401 Q J1401)) := hD
              have hw1403 : LW w I J I1401 J1401 (5 * xp.toNatClampNeg + n1352) _ _ := hw
              have hR : RM w [] I J I1401 J1401 := hR.lw hM hjn1352 hw1403
              have hMD : MD w J1401 := hMD.lw hM hjn1352 hw1403
              have hMU : MU w I1401 := hMU.lw hM hjn1352 hw1403
              have q1hw1403 : (I1401 (w (21 + (5 * xp.toNatClampNeg + n1352))) 1).toInt = _ := hw1403.2.2.1
              have q2hw1403 : (I1401 (w (21 + (5 * xp.toNatClampNeg + n1352))) 2).toInt = _ := hw1403.2.2.2
              have q3hw1403 : (I1401 (w (21 + (5 * xp.toNatClampNeg + n1352))) 3).toInt = _ := congrArg Int32.toInt hw1403.f3
              have q4hw1403 : (I1401 (w (21 + (5 * xp.toNatClampNeg + n1352))) 4).toInt = _ := congrArg Int32.toInt hw1403.f4
              have hML : ML w (E + 1) I1401 := hML.lw hM hjn1352 hw1403 (by omega) ⟨by omega, by omega, by omega, by omega, by omega, by omega⟩
              refine lv_iload hx hb dX7_produce_317 (lv_at hl 0 rfl) ?_
              refine lv_if_eq (tgt := 335) hx hb dX7_produce_319 (by decide) (fun c1404 => ?_) (fun c1404 => ?_)
              rotate_left
              · exact absurd c1404 (by decide)
              refine lv_aload_n hx hb dX7_produce_335 rfl (lv_at hl 4 rfl) ?_
              refine lv_iload_n hx hb dX7_produce_336 rfl (lv_at hl 5 rfl) ?_
              obtain ⟨j1405, hj1405⟩ := wG_7 (cy := cy) (N := N) (T := T) (I := I1401) (Q := Q) (J := J1401) (hM.at 0 (by decide)) (hM.k 0 (by decide) rfl)
              have hFc := pfree hD hS hA
              refine va_callv (va_runV (As := [.int xp]) (rest := []) ⟨hx, hb, hml, hown, hts⟩ (c_X7_rise l dC dI cy w L K N T Q I1401 J1401 H.size xp hM hth1348.1 (hMD _ (vp_lt (n := 4) hth1348.1))) (cwV 1 hts gX7_produce_X7_rise rfl rfl rfl (by decide +kernel) ⟨Nat.le_of_ble_eq_true rfl, Nat.le_of_ble_eq_true rfl⟩) ⟨mw_blind, va_recv hK hP (ci := 7) (q0 := j1405) rfl hj1405, fun U hU hW => ⟨rfl, mw_pre hP hK hD hU hW⟩⟩ rfl rfl hl.1 rfl (lv_room (Nat.le_of_ble_eq_true rfl)) dX7_produce_337 ⟨Nat.le_of_ble_eq_true rfl, Nat.le_of_ble_eq_true rfl⟩) hS (fun q _ h => hFc q h) hFc (fun d9 t H1 locs ht hvm hw hB hz1 hk1 hS => ?_)
              obtain ⟨I1406, J1406⟩ := d9
              obtain ⟨hP, hK1, hD1⟩ := hB
              rw [ht] at hP
              have hD := hD1.weaken (fun _ _ _ h => hFc _ h)
              generalize H1 = H at hP hS ⊢
              have hP : va_P (dC, dI) vwCl (va_pl L (wF cy K N T I1406 Q J1406)) H := hP
              have hD : va_D A (va_pl L (wF cy K N T I1406 Q J1406)) := hD
              have hw1408 : RZ w I1401 J1401 I1406 J1406 xp.toNatClampNeg := hw
              have hR : RM w [] I J I1406 J1406 := hR.rz hM (vp_lt (n := 4) hth1348.1) hw1408
              have hMD : MD w J1406 := hMD.rz hw1408
              have hMU : MU w I1406 := hMU.rz hM (vp_lt (n := 4) hth1348.1) hw1408
              have hML : ML w (E + 1) I1406 := hML.rz hM (vp_lt (n := 4) hth1348.1) hw1408
              refine lv_aload hx hb dX7_produce_340 (lv_at hl 3 rfl) ?_
              obtain ⟨j1409, hj1409⟩ := wG_6 (cy := cy) (N := N) (T := T) (I := I1406) (Q := Q) (J := J1406) (hM.lg hjn1352).1 (hM.lg hjn1352).2
              refine va_get (D := (dC, dI)) (ci := 6) (v := .int (I1406 (w (21 + (5 * xp.toNatClampNeg + n1352))) 2)) (C := RX6) (T := TX6) (N := 7) hx hb hts hi6 hown hK hP j1409 hj1409 rfl 2 (by decide) (hts (.fieldLink RX7 89 "TallyLogsModel$Log" "end" "I") (by decide +kernel)) (fun _ h9 => h9) rfl dX7_produce_342 ?_
              refine lv_topi (fun x1410 ex1410 => ?_)
              have tx1410 : x1410.toInt = (I1406 (w (21 + (5 * xp.toNatClampNeg + n1352))) 2).toInt := congrArg Int32.toInt ex1410
              refine lv_iconst (v := 1) hx hb dX7_produce_345 (by decide) ?_
              refine lv_isub hx hb dX7_produce_346 ?_
              refine lv_topi (fun v1411 ev1411 => ?_)
              exact W.iret (v := v1411) hx hb hr (fun t ht hW => ⟨⟨v1411, (I1406, J1406), rfl, ⟨⟨hML.mono (by omega), hMD, hMU⟩, hR⟩, by rw [ht]; exact hP, va_K.moved hW.alike hK, hD⟩, hS.F ht⟩) hS.2.2 dX7_produce_347
            · have kc1393 : r1390.toInt = 60 := by have h9 := c1393; rw [xk_eq, (show (60 : Int32).toInt = 60 by decide)] at h9; exact h9
              refine lv_bipush (v := (-3)) hx hb dX7_produce_251 (by decide) ?_
              exact W.iret (v := (-3)) hx hb hr (fun t ht hW => ⟨⟨(-3), (I, J), rfl, ⟨⟨hML.mono (by omega), hMD, hMU⟩, hR⟩, by rw [ht]; exact hP, va_K.moved hW.alike hK, hD⟩, hS.F ht⟩) hS.2.2 dX7_produce_253
          · have kc1388 : ¬ (x1387.toInt ≤ (sp_bc x1383).toInt) := by have h9 := c1388; rw [xk_le] at h9; exact h9
            refine lv_bipush (v := (-5)) hx hb dX7_produce_119 (by decide) ?_
            exact W.iret (v := (-5)) hx hb hr (fun t ht hW => ⟨⟨(-5), (I, J), rfl, ⟨⟨hML.mono (by omega), hMD, hMU⟩, hR⟩, by rw [ht]; exact hP, va_K.moved hW.alike hK, hD⟩, hS.F ht⟩) hS.2.2 dX7_produce_121
    · have kc1349 : ¬ (xh.toInt = (-1)) := by have h9 := c1349; rw [xk_eq, (show ((-1) : Int32).toInt = -1 by decide)] at h9; exact h9
      refine lv_iload_n hx hb dX7_produce_13 rfl (lv_at hl 2 rfl) ?_
      refine vp_callSi (W.runS (As := [.int xh]) (rest := []) ⟨hx, hb, hml, hown, hts⟩ (c_X7_isHandle l xh) (va_cwS 1 hts gX7_produce_X7_isHandle rfl rfl rfl (by decide +kernel) ⟨Nat.le_of_ble_eq_true rfl, Nat.le_of_ble_eq_true rfl⟩) preEq rfl rfl hl.1 rfl (lv_room (Nat.le_of_ble_eq_true rfl)) dX7_produce_14 ⟨Nat.le_of_ble_eq_true rfl, Nat.le_of_ble_eq_true rfl⟩) (fun r1412 hr1412 => ?_)
      subst hr1412
      refine lv_if_ne (tgt := 22) hx hb dX7_produce_17 (by decide) (fun c1413 => ?_) (fun c1413 => ?_)
      · have hih1414 := sp_ih1 c1413
        refine lv_aload_n hx hb dX7_produce_22 rfl (lv_at hl 0 rfl) ?_
        refine lv_iload_n hx hb dX7_produce_23 rfl (lv_at hl 1 rfl) ?_
        obtain ⟨j1416, hj1416⟩ := wG_7 (cy := cy) (N := N) (T := T) (I := I) (Q := Q) (J := J) (hM.at 0 (by decide)) (hM.k 0 (by decide) rfl)
        refine va_csq (W.runV (As := [.int xp]) (rest := []) ⟨hx, hb, hml, hown, hts⟩ (c_X7_own l dC dI cy w L K N T Q I J xp hM hth1348.1) (cwV 1 hts gX7_produce_X7_own rfl rfl rfl (by decide +kernel) ⟨Nat.le_of_ble_eq_true rfl, Nat.le_of_ble_eq_true rfl⟩) ⟨mb_blind, va_recv hK hP (ci := 7) (q0 := j1416) rfl hj1416, fun U hU hW => ⟨rfl, mb_pre hP hK hU hW⟩⟩ rfl rfl hl.1 rfl (lv_room (Nat.le_of_ble_eq_true rfl)) dX7_produce_24 ⟨Nat.le_of_ble_eq_true rfl, Nat.le_of_ble_eq_true rfl⟩) (fun r1415 hr1415 => ?_)
        subst hr1415
        rcases sp_ow_cs w (I (w 0) 16) (J (w 4) xp.toNatClampNeg) xp.toNatClampNeg with hon1417 | ⟨n1417, hnn1417, eln1417, hubn1417, hon1417⟩
        · refine W.eq (g2 := F0 m 27 ls [.null]) (by rw [hon1417]; rfl) ?_
          refine lv_astoreN (lv' := [(7, .null), (0, .ref (w 0)), (1, .int xp), (2, .int xh), (3, .int xs), (4, .int xk), (5, .int xv), (6, .int al)]) hx hb dX7_produce_27 hl (by decide) rfl (fun ls hl => ?_)
          refine lv_aloadN hx hb dX7_produce_29 (lv_at hl 0 rfl) ?_
          refine lv_ifnonnullN hx hb dX7_produce_31 ?_
          refine lv_bipush (v := (-2)) hx hb dX7_produce_34 (by decide) ?_
          exact W.iret (v := (-2)) hx hb hr (fun t ht hW => ⟨⟨(-2), (I, J), rfl, ⟨⟨hML.mono (by omega), hMD, hMU⟩, hR⟩, by rw [ht]; exact hP, va_K.moved hW.alike hK, hD⟩, hS.F ht⟩) hS.2.2 dX7_produce_36
        · have hjn1417 : (5 * xp.toNatClampNeg + n1417) < 20 := by have h1 := vp_lt (n := 4) hth1348.1; omega
          refine W.eq (g2 := F0 m 27 ls [.ref (w (21 + (5 * xp.toNatClampNeg + n1417)))]) (by rw [hon1417]; rfl) ?_
          refine lv_astore (lv' := [(7, .ref (w (21 + (5 * xp.toNatClampNeg + n1417)))), (0, .ref (w 0)), (1, .int xp), (2, .int xh), (3, .int xs), (4, .int xk), (5, .int xv), (6, .int al)]) hx hb dX7_produce_27 hl (by decide) rfl (fun ls hl => ?_)
          refine lv_aload hx hb dX7_produce_29 (lv_at hl 0 rfl) ?_
          refine lv_ifnonnull (tgt := 37) hx hb dX7_produce_31 (by decide) ?_
          obtain ⟨ha1418, hb1418, hc1418, hd1418, he1418, hf1418⟩ := hML (5 * xp.toNatClampNeg + n1417) hjn1417
          refine lv_iload_n hx hb dX7_produce_37 rfl (lv_at hl 3 rfl) ?_
          refine lv_if_ge (tgt := 45) hx hb dX7_produce_38 (by decide) (fun c1419 => ?_) (fun c1419 => ?_)
          rotate_left
          · exact absurd hih1414.1 c1419
          refine lv_iload_n hx hb dX7_produce_45 rfl (lv_at hl 3 rfl) ?_
          refine lv_bipush (v := 8) hx hb dX7_produce_46 (by decide) ?_
          refine lv_irem hx hb dX7_produce_48 (by decide) ?_
          refine lv_topi (fun v1420 ev1420 => ?_)
          have hin1421 : vp_in v1420 6 := by rw [ev1420]; exact hih1414.2
          refine lv_istore (lv' := [(8, .int v1420), (7, .ref (w (21 + (5 * xp.toNatClampNeg + n1417)))), (0, .ref (w 0)), (1, .int xp), (2, .int xh), (3, .int xs), (4, .int xk), (5, .int xv), (6, .int al)]) hx hb dX7_produce_49 hl (by decide) rfl (fun ls hl => ?_)
          refine lv_iload_n hx hb dX7_produce_51 rfl (lv_at hl 4 rfl) ?_
          refine lv_if_ge (tgt := 59) hx hb dX7_produce_52 (by decide) (fun c1422 => ?_) (fun c1422 => ?_)
          rotate_left
          · exact absurd hih1414.1 c1422
          refine lv_iload_n hx hb dX7_produce_59 rfl (lv_at hl 4 rfl) ?_
          refine lv_bipush (v := 8) hx hb dX7_produce_60 (by decide) ?_
          refine lv_idiv hx hb dX7_produce_62 (by decide) ?_
          refine lv_topi (fun v1423 ev1423 => ?_)
          refine lv_istore (lv' := [(9, .int v1423), (8, .int v1420), (7, .ref (w (21 + (5 * xp.toNatClampNeg + n1417)))), (0, .ref (w 0)), (1, .int xp), (2, .int xh), (3, .int xs), (4, .int xk), (5, .int xv), (6, .int al)]) hx hb dX7_produce_63 hl (by decide) rfl (fun ls hl => ?_)
          refine lv_iload hx hb dX7_produce_65 (lv_at hl 1 rfl) ?_
          refine lv_if_lt (tgt := 96) hx hb dX7_produce_67 (by decide) (fun c1424 => ?_) (fun c1424 => ?_)
          · exact absurd ((xk_lt _ _).mp c1424) (by rw [xk_0]; have h9 := vp_in_iff.mp hin1421; omega)
          refine lv_aload_n hx hb dX7_produce_70 rfl (lv_at hl 3 rfl) ?_
          obtain ⟨j1425, hj1425⟩ := wG_7 (cy := cy) (N := N) (T := T) (I := I) (Q := Q) (J := J) (hM.at 0 (by decide)) (hM.k 0 (by decide) rfl)
          refine va_get (D := (dC, dI)) (ci := 7) (v := .ref (T (w 0) 7)) (C := RX7) (T := TX7) (N := 18) hx hb hts hi7 hown hK hP j1425 hj1425 rfl 7 (by decide) (hts (.fieldLink RX7 34 "TallyLogsModel" "generation" "[I") (by decide +kernel)) (fun _ h9 => h9) rfl dX7_produce_71 ?_
          refine W.eq (g2 := F0 m 74 ls [.ref (w 8)]) (by rw [hM.t 7 (by decide)]) ?_
          refine lv_iload hx hb dX7_produce_74 (lv_at hl 1 rfl) ?_
          obtain ⟨j1426, hj1426⟩ := wG_20 (cy := cy) (N := N) (T := T) (I := I) (Q := Q) (J := J) (hM.at 8 (by decide)) (hM.k 8 (by decide) rfl)
          refine va_iald hx hb hK hP j1426 1 hj1426 rfl (hM.inN (n := 6) 8 (by decide) rfl rfl hin1421) dX7_produce_76 ?_
          refine lv_topi (fun x1427 ex1427 => ?_)
          refine lv_iload hx hb dX7_produce_77 (lv_at hl 0 rfl) ?_
          refine lv_icmp_ne (tgt := 93) hx hb dX7_produce_79 (by decide) (fun c1428 => ?_) (fun c1428 => ?_)
          · have kc1428 : ¬ (x1427.toInt = v1423.toInt) := by have h9 := c1428; rw [xk_eq] at h9; exact h9
            refine lv_bipush (v := (-4)) hx hb dX7_produce_93 (by decide) ?_
            exact W.iret (v := (-4)) hx hb hr (fun t ht hW => ⟨⟨(-4), (I, J), rfl, ⟨⟨hML.mono (by omega), hMD, hMU⟩, hR⟩, by rw [ht]; exact hP, va_K.moved hW.alike hK, hD⟩, hS.F ht⟩) hS.2.2 dX7_produce_95
          · have kc1428 : x1427.toInt = v1423.toInt := by have h9 := c1428; rw [xk_eq] at h9; exact h9
            refine lv_aload_n hx hb dX7_produce_82 rfl (lv_at hl 3 rfl) ?_
            obtain ⟨j1429, hj1429⟩ := wG_7 (cy := cy) (N := N) (T := T) (I := I) (Q := Q) (J := J) (hM.at 0 (by decide)) (hM.k 0 (by decide) rfl)
            refine va_get (D := (dC, dI)) (ci := 7) (v := .ref (T (w 0) 8)) (C := RX7) (T := TX7) (N := 18) hx hb hts hi7 hown hK hP j1429 hj1429 rfl 8 (by decide) (hts (.fieldLink RX7 37 "TallyLogsModel" "mode" "[I") (by decide +kernel)) (fun _ h9 => h9) rfl dX7_produce_83 ?_
            refine W.eq (g2 := F0 m 86 ls [.ref (w 9)]) (by rw [hM.t 8 (by decide)]) ?_
            refine lv_iload hx hb dX7_produce_86 (lv_at hl 1 rfl) ?_
            obtain ⟨j1430, hj1430⟩ := wG_20 (cy := cy) (N := N) (T := T) (I := I) (Q := Q) (J := J) (hM.at 9 (by decide)) (hM.k 9 (by decide) rfl)
            refine va_iald hx hb hK hP j1430 1 hj1430 rfl (hM.inN (n := 6) 9 (by decide) rfl rfl hin1421) dX7_produce_88 ?_
            refine lv_topi (fun x1431 ex1431 => ?_)
            refine lv_iconst (v := 2) hx hb dX7_produce_89 (by decide) ?_
            refine lv_icmp_ne (tgt := 96) hx hb dX7_produce_90 (by decide) (fun c1432 => ?_) (fun c1432 => ?_)
            · have kc1432 : ¬ (x1431.toInt = 2) := by have h9 := c1432; rw [xk_eq, xk_2] at h9; exact h9
              refine lv_iload hx hb dX7_produce_96 (lv_at hl 9 rfl) ?_
              refine lv_if_eq (tgt := 122) hx hb dX7_produce_98 (by decide) (fun c1433 => ?_) (fun c1433 => ?_)
              · have kc1433 : al.toInt = 0 := by have h9 := c1433; rw [xk_eq, xk_0] at h9; exact h9
                refine lv_iload hx hb dX7_produce_122 (lv_at hl 1 rfl) ?_
                refine lv_if_lt (tgt := 241) hx hb dX7_produce_124 (by decide) (fun c1434 => ?_) (fun c1434 => ?_)
                · exact absurd ((xk_lt _ _).mp c1434) (by rw [xk_0]; have h9 := vp_in_iff.mp hin1421; omega)
                refine lv_iconst (v := (-1)) hx hb dX7_produce_127 (by decide) ?_
                refine lv_istore (lv' := [(10, .int (-1)), (9, .int v1423), (8, .int v1420), (7, .ref (w (21 + (5 * xp.toNatClampNeg + n1417)))), (0, .ref (w 0)), (1, .int xp), (2, .int xh), (3, .int xs), (4, .int xk), (5, .int xv), (6, .int al)]) hx hb dX7_produce_128 hl (by decide) rfl (fun ls hl => ?_)
                refine lv_aload hx hb dX7_produce_130 (lv_at hl 3 rfl) ?_
                obtain ⟨j1435, hj1435⟩ := wG_6 (cy := cy) (N := N) (T := T) (I := I) (Q := Q) (J := J) (hM.lg hjn1417).1 (hM.lg hjn1417).2
                refine va_get (D := (dC, dI)) (ci := 6) (v := .int (I (w (21 + (5 * xp.toNatClampNeg + n1417))) 1)) (C := RX6) (T := TX6) (N := 7) hx hb hts hi6 hown hK hP j1435 hj1435 rfl 1 (by decide) (hts (.fieldLink RX7 134 "TallyLogsModel$Log" "start" "I") (by decide +kernel)) (fun _ h9 => h9) rfl dX7_produce_132 ?_
                refine lv_topi (fun x1436 ex1436 => ?_)
                have tx1436 : x1436.toInt = (I (w (21 + (5 * xp.toNatClampNeg + n1417))) 1).toInt := congrArg Int32.toInt ex1436
                refine lv_istore (lv' := [(11, .int x1436), (10, .int (-1)), (9, .int v1423), (8, .int v1420), (7, .ref (w (21 + (5 * xp.toNatClampNeg + n1417)))), (0, .ref (w 0)), (1, .int xp), (2, .int xh), (3, .int xs), (4, .int xk), (5, .int xv), (6, .int al)]) hx hb dX7_produce_135 hl (by decide) rfl (fun ls hl => ?_)
                refine wq_gen (fun Qz hQz => ?_)
                have hLP1437 : ∀ (n : Nat) (y1438 y1439 : Int32) (ls : Array Slot), ((I (w (21 + (5 * xp.toNatClampNeg + n1417))) 2).toInt - y1438.toInt).toNat < n → 0 ≤ y1438.toInt → ((I (w (21 + (5 * xp.toNatClampNeg + n1417))) 1).toInt ≤ y1438.toInt ∧ (y1439.toInt = -1 ∨ ((I (w (21 + (5 * xp.toNatClampNeg + n1417))) 1).toInt ≤ y1439.toInt ∧ y1439.toInt < (I (w (21 + (5 * xp.toNatClampNeg + n1417))) 2).toInt))) → lv_has ls 12 [(11, .int y1438), (10, .int y1439), (9, .int v1423), (8, .int v1420), (7, .ref (w (21 + (5 * xp.toNatClampNeg + n1417)))), (0, .ref (w 0)), (1, .int xp), (2, .int xh), (3, .int xs), (4, .int xk), (5, .int xv), (6, .int al)] → W p l e (headSpec wsX7_produce ({ frames := 4, cells := 0, slots := 0, locals := 99 })).room s m ([.ref (w 0), .int xp, .int xh, .int xs, .int xk, .int xv, .int al] : List Value).toArray below meth c s.heap [] 0 0 Qz (F0 m 137 ls []) := by
                  intro n
                  induction n with
                  | zero => intro y1438 y1439 ls hms; exact absurd hms (Nat.not_lt_zero _)
                  | succ n ih1437 =>
                    intro y1438 y1439 ls hms hnn1437 hiv1437 hl
                    refine lv_iload hx hb dX7_produce_137 (lv_at hl 0 rfl) ?_
                    refine lv_aload hx hb dX7_produce_139 (lv_at hl 4 rfl) ?_
                    obtain ⟨j1440, hj1440⟩ := wG_6 (cy := cy) (N := N) (T := T) (I := I) (Q := Q) (J := J) (hM.lg hjn1417).1 (hM.lg hjn1417).2
                    refine va_get (D := (dC, dI)) (ci := 6) (v := .int (I (w (21 + (5 * xp.toNatClampNeg + n1417))) 2)) (C := RX6) (T := TX6) (N := 7) hx hb hts hi6 hown hK hP j1440 hj1440 rfl 2 (by decide) (hts (.fieldLink RX7 89 "TallyLogsModel$Log" "end" "I") (by decide +kernel)) (fun _ h9 => h9) rfl dX7_produce_141 ?_
                    refine lv_topi (fun x1441 ex1441 => ?_)
                    have tx1441 : x1441.toInt = (I (w (21 + (5 * xp.toNatClampNeg + n1417))) 2).toInt := congrArg Int32.toInt ex1441
                    refine lv_icmp_ge (tgt := 212) hx hb dX7_produce_144 (by decide) (fun c1442 => ?_) (fun c1442 => ?_)
                    · have kc1442 : x1441.toInt ≤ y1438.toInt := by have h9 := c1442; rw [xk_le] at h9; exact h9
                      refine lv_iload hx hb dX7_produce_212 (lv_at hl 1 rfl) ?_
                      refine lv_if_ge (tgt := 224) hx hb dX7_produce_214 (by decide) (fun c1443 => ?_) (fun c1443 => ?_)
                      · have kc1443 : 0 ≤ y1439.toInt := by have h9 := c1443; rw [xk_le, xk_0] at h9; exact h9
                        refine lv_iload_n hx hb dX7_produce_224 rfl (lv_at hl 8 rfl) ?_
                        refine lv_aload hx hb dX7_produce_225 (lv_at hl 4 rfl) ?_
                        refine lv_iload hx hb dX7_produce_227 (lv_at hl 1 rfl) ?_
                        refine lv_iconst (v := 4) hx hb dX7_produce_229 (by decide) ?_
                        obtain ⟨j1445, hj1445⟩ := wG_6 (cy := cy) (N := N) (T := T) (I := I) (Q := Q) (J := J) (hM.lg hjn1417).1 (hM.lg hjn1417).2
                        refine vp_callSi (W.runV (As := [.int y1439, .int 4]) (rest := [.int xs]) ⟨hx, hb, hml, hown, hts⟩ (c_X6_get l dC dI cy w L K N T Q I J (5 * xp.toNatClampNeg + n1417) y1439 4 hM hjn1417 (by omega) (by omega) (by unfold vp_in; decide)) (cwV 2 hts gX7_produce_X6_get rfl rfl rfl (by decide +kernel) ⟨Nat.le_of_ble_eq_true rfl, Nat.le_of_ble_eq_true rfl⟩) ⟨mb_blind, va_recv hK hP (ci := 6) (q0 := j1445) rfl hj1445, fun U hU hW => ⟨rfl, mb_pre hP hK hU hW⟩⟩ rfl rfl hl.1 rfl (lv_room (Nat.le_of_ble_eq_true rfl)) dX7_produce_230 ⟨Nat.le_of_ble_eq_true rfl, Nat.le_of_ble_eq_true rfl⟩) (fun r1444 hr1444 => ?_)
                        refine lv_iconst (v := 1) hx hb dX7_produce_233 (by decide) ?_
                        refine lv_iadd hx hb dX7_produce_234 ?_
                        refine lv_topi (fun v1446 ev1446 => ?_)
                        refine lv_icmp_eq (tgt := 241) hx hb dX7_produce_235 (by decide) (fun c1447 => ?_) (fun c1447 => ?_)
                        · have kc1447 : xs.toInt = v1446.toInt := by have h9 := c1447; rw [xk_eq] at h9; exact h9
                          refine lv_aload hx hb dX7_produce_241 (lv_at hl 4 rfl) ?_
                          obtain ⟨j1449, hj1449⟩ := wG_6 (cy := cy) (N := N) (T := T) (I := I) (Q := Q) (J := J) (hM.lg hjn1417).1 (hM.lg hjn1417).2
                          refine vp_callSi (W.runV (As := []) (rest := []) ⟨hx, hb, hml, hown, hts⟩ (c_X6_many l dC dI cy w L K N T Q I J (5 * xp.toNatClampNeg + n1417) hM hjn1417) (cwV 0 hts gX7_produce_X6_many rfl rfl rfl (by decide +kernel) ⟨Nat.le_of_ble_eq_true rfl, Nat.le_of_ble_eq_true rfl⟩) ⟨mb_blind, va_recv hK hP (ci := 6) (q0 := j1449) rfl hj1449, fun U hU hW => ⟨rfl, mb_pre hP hK hU hW⟩⟩ rfl rfl hl.1 rfl (lv_room (Nat.le_of_ble_eq_true rfl)) dX7_produce_243 ⟨Nat.le_of_ble_eq_true rfl, Nat.le_of_ble_eq_true rfl⟩) (fun r1448 hr1448 => ?_)
                          obtain ⟨ha1450, hb1450, hc1450, hd1450, he1450, hf1450⟩ := hML (5 * xp.toNatClampNeg + n1417) hjn1417
                          have tr1448 : r1448.toInt = (I (w (21 + (5 * xp.toNatClampNeg + n1417))) 2).toInt - (I (w (21 + (5 * xp.toNatClampNeg + n1417))) 1).toInt := by rw [hr1448]; exact xsub (by omega) (by omega)
                          refine lv_bipush (v := 60) hx hb dX7_produce_246 (by decide) ?_
                          refine lv_icmp_ne (tgt := 254) hx hb dX7_produce_248 (by decide) (fun c1451 => ?_) (fun c1451 => ?_)
                          · have kc1451 : ¬ (r1448.toInt = 60) := by have h9 := c1451; rw [xk_eq, (show (60 : Int32).toInt = 60 by decide)] at h9; exact h9
                            refine lv_iload hx hb dX7_produce_254 (lv_at hl 3 rfl) ?_
                            refine lv_if_lt (tgt := 274) hx hb dX7_produce_256 (by decide) (fun c1452 => ?_) (fun c1452 => ?_)
                            · exact absurd ((xk_lt _ _).mp c1452) (by rw [xk_0]; have h9 := vp_in_iff.mp hin1421; omega)
                            refine lv_aload_n hx hb dX7_produce_259 rfl (lv_at hl 5 rfl) ?_
                            obtain ⟨j1453, hj1453⟩ := wG_7 (cy := cy) (N := N) (T := T) (I := I) (Q := Q) (J := J) (hM.at 0 (by decide)) (hM.k 0 (by decide) rfl)
                            refine va_get (D := (dC, dI)) (ci := 7) (v := .ref (T (w 0) 8)) (C := RX7) (T := TX7) (N := 18) hx hb hts hi7 hown hK hP j1453 hj1453 rfl 8 (by decide) (hts (.fieldLink RX7 37 "TallyLogsModel" "mode" "[I") (by decide +kernel)) (fun _ h9 => h9) rfl dX7_produce_260 ?_
                            refine W.eq (g2 := F0 m 263 ls [.ref (w 9)]) (by rw [hM.t 8 (by decide)]) ?_
                            refine lv_iload hx hb dX7_produce_263 (lv_at hl 3 rfl) ?_
                            obtain ⟨j1454, hj1454⟩ := wG_20 (cy := cy) (N := N) (T := T) (I := I) (Q := Q) (J := J) (hM.at 9 (by decide)) (hM.k 9 (by decide) rfl)
                            refine va_iald hx hb hK hP j1454 1 hj1454 rfl (hM.inN (n := 6) 9 (by decide) rfl rfl hin1421) dX7_produce_265 ?_
                            refine lv_topi (fun x1455 ex1455 => ?_)
                            refine lv_iconst (v := 1) hx hb dX7_produce_266 (by decide) ?_
                            refine lv_icmp_ne (tgt := 274) hx hb dX7_produce_267 (by decide) (fun c1456 => ?_) (fun c1456 => ?_)
                            · have kc1456 : ¬ (x1455.toInt = 1) := by have h9 := c1456; rw [xk_eq, xk_1] at h9; exact h9
                              refine lv_iconst (v := 0) hx hb dX7_produce_274 (by decide) ?_
                              refine lv_istore (lv' := [(10, .int 0), (11, .int y1438), (9, .int v1423), (8, .int v1420), (7, .ref (w (21 + (5 * xp.toNatClampNeg + n1417)))), (0, .ref (w 0)), (1, .int xp), (2, .int xh), (3, .int xs), (4, .int xk), (5, .int xv), (6, .int al)]) hx hb dX7_produce_275 hl (by decide) rfl (fun ls hl => ?_)
                              refine lv_aload hx hb dX7_produce_277 (lv_at hl 4 rfl) ?_
                              refine lv_aload_n hx hb dX7_produce_279 rfl (lv_at hl 5 rfl) ?_
                              obtain ⟨j1457, hj1457⟩ := wG_7 (cy := cy) (N := N) (T := T) (I := I) (Q := Q) (J := J) (hM.at 0 (by decide)) (hM.k 0 (by decide) rfl)
                              refine va_get (D := (dC, dI)) (ci := 7) (v := .ref (T (w 0) 4)) (C := RX7) (T := TX7) (N := 18) hx hb hts hi7 hown hK hP j1457 hj1457 rfl 4 (by decide) (hts (.fieldLink RX7 25 "TallyLogsModel" "epoch" "[I") (by decide +kernel)) (fun _ h9 => h9) rfl dX7_produce_280 ?_
                              refine W.eq (g2 := F0 m 283 ls [.ref (w 5), .ref (w (21 + (5 * xp.toNatClampNeg + n1417)))]) (by rw [hM.t 4 (by decide)]) ?_
                              refine lv_iload_n hx hb dX7_produce_283 rfl (lv_at hl 6 rfl) ?_
                              obtain ⟨j1458, hj1458⟩ := wG_20 (cy := cy) (N := N) (T := T) (I := I) (Q := Q) (J := J) (hM.at 5 (by decide)) (hM.k 5 (by decide) rfl)
                              refine va_iald hx hb hK hP j1458 1 hj1458 rfl (hM.inN (n := 4) 5 (by decide) rfl rfl hth1348.1) dX7_produce_284 ?_
                              refine lv_topi (fun x1459 ex1459 => ?_)
                              refine lv_iconst (v := 0) hx hb dX7_produce_285 (by decide) ?_
                              refine lv_iload hx hb dX7_produce_286 (lv_at hl 3 rfl) ?_
                              refine lv_iload hx hb dX7_produce_288 (lv_at hl 2 rfl) ?_
                              refine lv_iload hx hb dX7_produce_290 (lv_at hl 3 rfl) ?_
                              refine lv_if_ge (tgt := 299) hx hb dX7_produce_292 (by decide) (fun c1460 => ?_) (fun c1460 => ?_)
                              rotate_left
                              · exact absurd ((xk_le _ _).mpr (by rw [xk_0]; have h9 := vp_in_iff.mp hin1421; omega)) c1460
                              refine lv_iload_n hx hb dX7_produce_299 rfl (lv_at hl 8 rfl) ?_
                              refine lv_iload hx hb dX7_produce_300 (lv_at hl 9 rfl) ?_
                              refine lv_iload hx hb dX7_produce_302 (lv_at hl 10 rfl) ?_
                              refine lv_iload hx hb dX7_produce_304 (lv_at hl 0 rfl) ?_
                              refine lv_if_eq (tgt := 313) hx hb dX7_produce_306 (by decide) (fun c1461 => ?_) (fun c1461 => ?_)
                              rotate_left
                              · exact absurd c1461 (by decide)
                              refine lv_iconst (v := 0) hx hb dX7_produce_313 (by decide) ?_
                              obtain ⟨j1462, hj1462⟩ := wG_6 (cy := cy) (N := N) (T := T) (I := I) (Q := Q) (J := J) (hM.lg hjn1417).1 (hM.lg hjn1417).2
                              have hFc := pfree hD hS hA
                              refine va_callv (va_runV (As := [.int x1459, .int 0, .int v1420, .int v1423, .int xs, .int xk, .int xv, .int 0]) (rest := []) ⟨hx, hb, hml, hown, hts⟩ (c_X6_add l dC dI cy w L K N T Q I J s.heap.size (5 * xp.toNatClampNeg + n1417) x1459 0 v1420 v1423 xs xk xv 0 hM hjn1417 (by omega) (by omega) (by omega) (by omega)) (cwV 8 hts gX7_produce_X6_add rfl rfl rfl (by decide +kernel) ⟨Nat.le_of_ble_eq_true rfl, Nat.le_of_ble_eq_true rfl⟩) ⟨mw_blind, va_recv hK hP (ci := 6) (q0 := j1462) rfl hj1462, fun U hU hW => ⟨rfl, mw_pre hP hK hD hU hW⟩⟩ rfl rfl hl.1 rfl (lv_room (Nat.le_of_ble_eq_true rfl)) dX7_produce_314 ⟨Nat.le_of_ble_eq_true rfl, Nat.le_of_ble_eq_true rfl⟩) hS (fun q _ h => hFc q h) hFc (fun d9 t H1 locs ht hvm hw hB hz1 hk1 hS => ?_)
                              obtain ⟨I1463, J1463⟩ := d9
                              obtain ⟨hP, hK1, hD1⟩ := hB
                              rw [ht] at hP
                              have hD := hD1.weaken (fun _ _ _ h => hFc _ h)
                              generalize H1 = H at hP hS ⊢
                              have hP : va_P (dC, dI) vwCl (va_pl L (wF cy K N T I1463 Q J1463)) H := hP
                              have hD : va_D A (va_pl L (wF cy K N T I1463 Q J1463)) := hD
                              have hw1465 : LW w I J I1463 J1463 (5 * xp.toNatClampNeg + n1417) _ _ := hw
                              have hR : RM w [] I J I1463 J1463 := hR.lw hM hjn1417 hw1465
                              have hMD : MD w J1463 := hMD.lw hM hjn1417 hw1465
                              have hMU : MU w I1463 := hMU.lw hM hjn1417 hw1465
                              have q1hw1465 : (I1463 (w (21 + (5 * xp.toNatClampNeg + n1417))) 1).toInt = _ := hw1465.2.2.1
                              have q2hw1465 : (I1463 (w (21 + (5 * xp.toNatClampNeg + n1417))) 2).toInt = _ := hw1465.2.2.2
                              have q3hw1465 : (I1463 (w (21 + (5 * xp.toNatClampNeg + n1417))) 3).toInt = _ := congrArg Int32.toInt hw1465.f3
                              have q4hw1465 : (I1463 (w (21 + (5 * xp.toNatClampNeg + n1417))) 4).toInt = _ := congrArg Int32.toInt hw1465.f4
                              have hML : ML w (E + 1) I1463 := hML.lw hM hjn1417 hw1465 (by omega) ⟨by omega, by omega, by omega, by omega, by omega, by omega⟩
                              refine lv_iload hx hb dX7_produce_317 (lv_at hl 0 rfl) ?_
                              refine lv_if_eq (tgt := 335) hx hb dX7_produce_319 (by decide) (fun c1466 => ?_) (fun c1466 => ?_)
                              rotate_left
                              · exact absurd c1466 (by decide)
                              refine lv_aload_n hx hb dX7_produce_335 rfl (lv_at hl 5 rfl) ?_
                              refine lv_iload_n hx hb dX7_produce_336 rfl (lv_at hl 6 rfl) ?_
                              obtain ⟨j1467, hj1467⟩ := wG_7 (cy := cy) (N := N) (T := T) (I := I1463) (Q := Q) (J := J1463) (hM.at 0 (by decide)) (hM.k 0 (by decide) rfl)
                              have hFc := pfree hD hS hA
                              refine va_callv (va_runV (As := [.int xp]) (rest := []) ⟨hx, hb, hml, hown, hts⟩ (c_X7_rise l dC dI cy w L K N T Q I1463 J1463 H.size xp hM hth1348.1 (hMD _ (vp_lt (n := 4) hth1348.1))) (cwV 1 hts gX7_produce_X7_rise rfl rfl rfl (by decide +kernel) ⟨Nat.le_of_ble_eq_true rfl, Nat.le_of_ble_eq_true rfl⟩) ⟨mw_blind, va_recv hK hP (ci := 7) (q0 := j1467) rfl hj1467, fun U hU hW => ⟨rfl, mw_pre hP hK hD hU hW⟩⟩ rfl rfl hl.1 rfl (lv_room (Nat.le_of_ble_eq_true rfl)) dX7_produce_337 ⟨Nat.le_of_ble_eq_true rfl, Nat.le_of_ble_eq_true rfl⟩) hS (fun q _ h => hFc q h) hFc (fun d9 t H1 locs ht hvm hw hB hz1 hk1 hS => ?_)
                              obtain ⟨I1468, J1468⟩ := d9
                              obtain ⟨hP, hK1, hD1⟩ := hB
                              rw [ht] at hP
                              have hD := hD1.weaken (fun _ _ _ h => hFc _ h)
                              generalize H1 = H at hP hS ⊢
                              have hP : va_P (dC, dI) vwCl (va_pl L (wF cy K N T I1468 Q J1468)) H := hP
                              have hD : va_D A (va_pl L (wF cy K N T I1468 Q J1468)) := hD
                              have hw1470 : RZ w I1463 J1463 I1468 J1468 xp.toNatClampNeg := hw
                              have hR : RM w [] I J I1468 J1468 := hR.rz hM (vp_lt (n := 4) hth1348.1) hw1470
                              have hMD : MD w J1468 := hMD.rz hw1470
                              have hMU : MU w I1468 := hMU.rz hM (vp_lt (n := 4) hth1348.1) hw1470
                              have hML : ML w (E + 1) I1468 := hML.rz hM (vp_lt (n := 4) hth1348.1) hw1470
                              refine lv_aload hx hb dX7_produce_340 (lv_at hl 4 rfl) ?_
                              obtain ⟨j1471, hj1471⟩ := wG_6 (cy := cy) (N := N) (T := T) (I := I1468) (Q := Q) (J := J1468) (hM.lg hjn1417).1 (hM.lg hjn1417).2
                              refine va_get (D := (dC, dI)) (ci := 6) (v := .int (I1468 (w (21 + (5 * xp.toNatClampNeg + n1417))) 2)) (C := RX6) (T := TX6) (N := 7) hx hb hts hi6 hown hK hP j1471 hj1471 rfl 2 (by decide) (hts (.fieldLink RX7 89 "TallyLogsModel$Log" "end" "I") (by decide +kernel)) (fun _ h9 => h9) rfl dX7_produce_342 ?_
                              refine lv_topi (fun x1472 ex1472 => ?_)
                              have tx1472 : x1472.toInt = (I1468 (w (21 + (5 * xp.toNatClampNeg + n1417))) 2).toInt := congrArg Int32.toInt ex1472
                              refine lv_iconst (v := 1) hx hb dX7_produce_345 (by decide) ?_
                              refine lv_isub hx hb dX7_produce_346 ?_
                              refine lv_topi (fun v1473 ev1473 => ?_)
                              rw [hQz]
                              exact W.iret (v := v1473) hx hb hr (fun t ht hW => ⟨⟨v1473, (I1468, J1468), rfl, ⟨⟨hML.mono (by omega), hMD, hMU⟩, hR⟩, by rw [ht]; exact hP, va_K.moved hW.alike hK, hD⟩, hS.F ht⟩) hS.2.2 dX7_produce_347
                            · have kc1456 : x1455.toInt = 1 := by have h9 := c1456; rw [xk_eq, xk_1] at h9; exact h9
                              refine lv_iconst (v := 1) hx hb dX7_produce_270 (by decide) ?_
                              refine lv_goto (tgt := 275) hx hb dX7_produce_271 (by decide) ?_
                              refine lv_istore (lv' := [(10, .int 1), (11, .int y1438), (9, .int v1423), (8, .int v1420), (7, .ref (w (21 + (5 * xp.toNatClampNeg + n1417)))), (0, .ref (w 0)), (1, .int xp), (2, .int xh), (3, .int xs), (4, .int xk), (5, .int xv), (6, .int al)]) hx hb dX7_produce_275 hl (by decide) rfl (fun ls hl => ?_)
                              refine lv_aload hx hb dX7_produce_277 (lv_at hl 4 rfl) ?_
                              refine lv_aload_n hx hb dX7_produce_279 rfl (lv_at hl 5 rfl) ?_
                              obtain ⟨j1474, hj1474⟩ := wG_7 (cy := cy) (N := N) (T := T) (I := I) (Q := Q) (J := J) (hM.at 0 (by decide)) (hM.k 0 (by decide) rfl)
                              refine va_get (D := (dC, dI)) (ci := 7) (v := .ref (T (w 0) 4)) (C := RX7) (T := TX7) (N := 18) hx hb hts hi7 hown hK hP j1474 hj1474 rfl 4 (by decide) (hts (.fieldLink RX7 25 "TallyLogsModel" "epoch" "[I") (by decide +kernel)) (fun _ h9 => h9) rfl dX7_produce_280 ?_
                              refine W.eq (g2 := F0 m 283 ls [.ref (w 5), .ref (w (21 + (5 * xp.toNatClampNeg + n1417)))]) (by rw [hM.t 4 (by decide)]) ?_
                              refine lv_iload_n hx hb dX7_produce_283 rfl (lv_at hl 6 rfl) ?_
                              obtain ⟨j1475, hj1475⟩ := wG_20 (cy := cy) (N := N) (T := T) (I := I) (Q := Q) (J := J) (hM.at 5 (by decide)) (hM.k 5 (by decide) rfl)
                              refine va_iald hx hb hK hP j1475 1 hj1475 rfl (hM.inN (n := 4) 5 (by decide) rfl rfl hth1348.1) dX7_produce_284 ?_
                              refine lv_topi (fun x1476 ex1476 => ?_)
                              refine lv_iconst (v := 0) hx hb dX7_produce_285 (by decide) ?_
                              refine lv_iload hx hb dX7_produce_286 (lv_at hl 3 rfl) ?_
                              refine lv_iload hx hb dX7_produce_288 (lv_at hl 2 rfl) ?_
                              refine lv_iload hx hb dX7_produce_290 (lv_at hl 3 rfl) ?_
                              refine lv_if_ge (tgt := 299) hx hb dX7_produce_292 (by decide) (fun c1477 => ?_) (fun c1477 => ?_)
                              rotate_left
                              · exact absurd ((xk_le _ _).mpr (by rw [xk_0]; have h9 := vp_in_iff.mp hin1421; omega)) c1477
                              refine lv_iload_n hx hb dX7_produce_299 rfl (lv_at hl 8 rfl) ?_
                              refine lv_iload hx hb dX7_produce_300 (lv_at hl 9 rfl) ?_
                              refine lv_iload hx hb dX7_produce_302 (lv_at hl 10 rfl) ?_
                              refine lv_iload hx hb dX7_produce_304 (lv_at hl 0 rfl) ?_
                              refine lv_if_eq (tgt := 313) hx hb dX7_produce_306 (by decide) (fun c1478 => ?_) (fun c1478 => ?_)
                              · exact absurd c1478 (by decide)
                              refine lv_iconst (v := 1) hx hb dX7_produce_309 (by decide) ?_
                              refine lv_goto (tgt := 314) hx hb dX7_produce_310 (by decide) ?_
                              obtain ⟨j1479, hj1479⟩ := wG_6 (cy := cy) (N := N) (T := T) (I := I) (Q := Q) (J := J) (hM.lg hjn1417).1 (hM.lg hjn1417).2
                              have hFc := pfree hD hS hA
                              refine va_callv (va_runV (As := [.int x1476, .int 0, .int v1420, .int v1423, .int xs, .int xk, .int xv, .int 1]) (rest := []) ⟨hx, hb, hml, hown, hts⟩ (c_X6_add l dC dI cy w L K N T Q I J s.heap.size (5 * xp.toNatClampNeg + n1417) x1476 0 v1420 v1423 xs xk xv 1 hM hjn1417 (by omega) (by omega) (by omega) (by omega)) (cwV 8 hts gX7_produce_X6_add rfl rfl rfl (by decide +kernel) ⟨Nat.le_of_ble_eq_true rfl, Nat.le_of_ble_eq_true rfl⟩) ⟨mw_blind, va_recv hK hP (ci := 6) (q0 := j1479) rfl hj1479, fun U hU hW => ⟨rfl, mw_pre hP hK hD hU hW⟩⟩ rfl rfl hl.1 rfl (lv_room (Nat.le_of_ble_eq_true rfl)) dX7_produce_314 ⟨Nat.le_of_ble_eq_true rfl, Nat.le_of_ble_eq_true rfl⟩) hS (fun q _ h => hFc q h) hFc (fun d9 t H1 locs ht hvm hw hB hz1 hk1 hS => ?_)
                              obtain ⟨I1480, J1480⟩ := d9
                              obtain ⟨hP, hK1, hD1⟩ := hB
                              rw [ht] at hP
                              have hD := hD1.weaken (fun _ _ _ h => hFc _ h)
                              generalize H1 = H at hP hS ⊢
                              have hP : va_P (dC, dI) vwCl (va_pl L (wF cy K N T I1480 Q J1480)) H := hP
                              have hD : va_D A (va_pl L (wF cy K N T I1480 Q J1480)) := hD
                              have hw1482 : LW w I J I1480 J1480 (5 * xp.toNatClampNeg + n1417) _ _ := hw
                              have hR : RM w [] I J I1480 J1480 := hR.lw hM hjn1417 hw1482
                              have hMD : MD w J1480 := hMD.lw hM hjn1417 hw1482
                              have hMU : MU w I1480 := hMU.lw hM hjn1417 hw1482
                              have q1hw1482 : (I1480 (w (21 + (5 * xp.toNatClampNeg + n1417))) 1).toInt = _ := hw1482.2.2.1
                              have q2hw1482 : (I1480 (w (21 + (5 * xp.toNatClampNeg + n1417))) 2).toInt = _ := hw1482.2.2.2
                              have q3hw1482 : (I1480 (w (21 + (5 * xp.toNatClampNeg + n1417))) 3).toInt = _ := congrArg Int32.toInt hw1482.f3
                              have q4hw1482 : (I1480 (w (21 + (5 * xp.toNatClampNeg + n1417))) 4).toInt = _ := congrArg Int32.toInt hw1482.f4
                              have hML : ML w (E + 1) I1480 := hML.lw hM hjn1417 hw1482 (by omega) ⟨by omega, by omega, by omega, by omega, by omega, by omega⟩
                              refine lv_iload hx hb dX7_produce_317 (lv_at hl 0 rfl) ?_
                              refine lv_if_eq (tgt := 335) hx hb dX7_produce_319 (by decide) (fun c1483 => ?_) (fun c1483 => ?_)
                              · exact absurd c1483 (by decide)
                              refine lv_aload_n hx hb dX7_produce_322 rfl (lv_at hl 5 rfl) ?_
                              obtain ⟨j1484, hj1484⟩ := wG_7 (cy := cy) (N := N) (T := T) (I := I1480) (Q := Q) (J := J1480) (hM.at 0 (by decide)) (hM.k 0 (by decide) rfl)
                              refine va_get (D := (dC, dI)) (ci := 7) (v := .ref (T (w 0) 9)) (C := RX7) (T := TX7) (N := 18) hx hb hts hi7 hown hK hP j1484 hj1484 rfl 9 (by decide) (hts (.fieldLink RX7 40 "TallyLogsModel" "bound" "[I") (by decide +kernel)) (fun _ h9 => h9) rfl dX7_produce_323 ?_
                              refine W.eq (g2 := F0 m 326 ls [.ref (w 10)]) (by rw [hM.t 9 (by decide)]) ?_
                              refine lv_iload hx hb dX7_produce_326 (lv_at hl 3 rfl) ?_
                              refine lv_dup2_11 hx hb dX7_produce_328 rfl rfl ?_
                              obtain ⟨j1485, hj1485⟩ := wG_20 (cy := cy) (N := N) (T := T) (I := I1480) (Q := Q) (J := J1480) (hM.at 10 (by decide)) (hM.k 10 (by decide) rfl)
                              refine va_iald hx hb hK hP j1485 1 hj1485 rfl (hM.inN (n := 6) 10 (by decide) rfl rfl hin1421) dX7_produce_329 ?_
                              refine lv_topi (fun x1486 ex1486 => ?_)
                              refine lv_iconst (v := 1) hx hb dX7_produce_330 (by decide) ?_
                              refine lv_iload_n hx hb dX7_produce_331 rfl (lv_at hl 6 rfl) ?_
                              refine lv_ishl hx hb dX7_produce_332 ?_
                              refine lv_topi (fun v1487 ev1487 => ?_)
                              refine lv_ior hx hb dX7_produce_333 ?_
                              refine lv_topi (fun v1488 ev1488 => ?_)
                              obtain ⟨j1489, hj1489⟩ := wG_20 (cy := cy) (N := N) (T := T) (I := I1480) (Q := Q) (J := J1480) (hM.at 10 (by decide)) (hM.k 10 (by decide) rfl)
                              have hDo := hD
                              refine va_iast (x := v1488) hx hb hK hP hD hS j1489 1 hj1489 rfl (hM.inN (n := 6) 10 (by decide) rfl rfl hin1421) dX7_produce_334 (fun H locs hP hD hS => ?_)
                              have hP := Eq.mp (congrArg (fun w => va_P (dC, dI) vwCl w H) (wS_20 hDo (hM.at 10 (by decide)) (hM.k 10 (by decide) rfl) hj1489)) hP
                              obtain ⟨J1490, eJ1490⟩ : ∃ z, z = va_up J1480 (w 10) (upd (J1480 (w 10)) v1420.toNatClampNeg v1488) := ⟨_, rfl⟩
                              rw [← eJ1490] at hP
                              have hR : RM w [] I J I1480 J1490 := by rw [eJ1490]; exact hR.pj hM (by decide) (by decide)
                              have hMD : MD w J1490 := by rw [eJ1490]; exact hMD.pj hM (by decide) (by decide)
                              have hD : va_D A (va_pl L (wF cy K N T I1480 Q J1490)) := pD hDo
                              refine lv_aload_n hx hb dX7_produce_335 rfl (lv_at hl 5 rfl) ?_
                              refine lv_iload_n hx hb dX7_produce_336 rfl (lv_at hl 6 rfl) ?_
                              obtain ⟨j1491, hj1491⟩ := wG_7 (cy := cy) (N := N) (T := T) (I := I1480) (Q := Q) (J := J1490) (hM.at 0 (by decide)) (hM.k 0 (by decide) rfl)
                              have hFc := pfree hD hS hA
                              refine va_callv (va_runV (As := [.int xp]) (rest := []) ⟨hx, hb, hml, hown, hts⟩ (c_X7_rise l dC dI cy w L K N T Q I1480 J1490 H.size xp hM hth1348.1 (hMD _ (vp_lt (n := 4) hth1348.1))) (cwV 1 hts gX7_produce_X7_rise rfl rfl rfl (by decide +kernel) ⟨Nat.le_of_ble_eq_true rfl, Nat.le_of_ble_eq_true rfl⟩) ⟨mw_blind, va_recv hK hP (ci := 7) (q0 := j1491) rfl hj1491, fun U hU hW => ⟨rfl, mw_pre hP hK hD hU hW⟩⟩ rfl rfl hl.1 rfl (lv_room (Nat.le_of_ble_eq_true rfl)) dX7_produce_337 ⟨Nat.le_of_ble_eq_true rfl, Nat.le_of_ble_eq_true rfl⟩) hS (fun q _ h => hFc q h) hFc (fun d9 t H1 locs ht hvm hw hB hz1 hk1 hS => ?_)
                              obtain ⟨I1492, J1492⟩ := d9
                              obtain ⟨hP, hK1, hD1⟩ := hB
                              rw [ht] at hP
                              have hD := hD1.weaken (fun _ _ _ h => hFc _ h)
                              generalize H1 = H at hP hS ⊢
                              have hP : va_P (dC, dI) vwCl (va_pl L (wF cy K N T I1492 Q J1492)) H := hP
                              have hD : va_D A (va_pl L (wF cy K N T I1492 Q J1492)) := hD
                              have hw1494 : RZ w I1480 J1490 I1492 J1492 xp.toNatClampNeg := hw
                              have hR : RM w [] I J I1492 J1492 := hR.rz hM (vp_lt (n := 4) hth1348.1) hw1494
                              have hMD : MD w J1492 := hMD.rz hw1494
                              have hMU : MU w I1492 := hMU.rz hM (vp_lt (n := 4) hth1348.1) hw1494
                              have hML : ML w (E + 1) I1492 := hML.rz hM (vp_lt (n := 4) hth1348.1) hw1494
                              refine lv_aload hx hb dX7_produce_340 (lv_at hl 4 rfl) ?_
                              obtain ⟨j1495, hj1495⟩ := wG_6 (cy := cy) (N := N) (T := T) (I := I1492) (Q := Q) (J := J1492) (hM.lg hjn1417).1 (hM.lg hjn1417).2
                              refine va_get (D := (dC, dI)) (ci := 6) (v := .int (I1492 (w (21 + (5 * xp.toNatClampNeg + n1417))) 2)) (C := RX6) (T := TX6) (N := 7) hx hb hts hi6 hown hK hP j1495 hj1495 rfl 2 (by decide) (hts (.fieldLink RX7 89 "TallyLogsModel$Log" "end" "I") (by decide +kernel)) (fun _ h9 => h9) rfl dX7_produce_342 ?_
                              refine lv_topi (fun x1496 ex1496 => ?_)
                              have tx1496 : x1496.toInt = (I1492 (w (21 + (5 * xp.toNatClampNeg + n1417))) 2).toInt := congrArg Int32.toInt ex1496
                              refine lv_iconst (v := 1) hx hb dX7_produce_345 (by decide) ?_
                              refine lv_isub hx hb dX7_produce_346 ?_
                              refine lv_topi (fun v1497 ev1497 => ?_)
                              rw [hQz]
                              exact W.iret (v := v1497) hx hb hr (fun t ht hW => ⟨⟨v1497, (I1492, J1492), rfl, ⟨⟨hML.mono (by omega), hMD, hMU⟩, hR⟩, by rw [ht]; exact hP, va_K.moved hW.alike hK, hD⟩, hS.F ht⟩) hS.2.2 dX7_produce_347
                          · have kc1451 : r1448.toInt = 60 := by have h9 := c1451; rw [xk_eq, (show (60 : Int32).toInt = 60 by decide)] at h9; exact h9
                            refine lv_bipush (v := (-3)) hx hb dX7_produce_251 (by decide) ?_
                            rw [hQz]
                            exact W.iret (v := (-3)) hx hb hr (fun t ht hW => ⟨⟨(-3), (I, J), rfl, ⟨⟨hML.mono (by omega), hMD, hMU⟩, hR⟩, by rw [ht]; exact hP, va_K.moved hW.alike hK, hD⟩, hS.F ht⟩) hS.2.2 dX7_produce_253
                        · have kc1447 : ¬ (xs.toInt = v1446.toInt) := by have h9 := c1447; rw [xk_eq] at h9; exact h9
                          refine lv_bipush (v := (-6)) hx hb dX7_produce_238 (by decide) ?_
                          rw [hQz]
                          exact W.iret (v := (-6)) hx hb hr (fun t ht hW => ⟨⟨(-6), (I, J), rfl, ⟨⟨hML.mono (by omega), hMD, hMU⟩, hR⟩, by rw [ht]; exact hP, va_K.moved hW.alike hK, hD⟩, hS.F ht⟩) hS.2.2 dX7_produce_240
                      · have kc1443 : ¬ (0 ≤ y1439.toInt) := by have h9 := c1443; rw [xk_le, xk_0] at h9; exact h9
                        refine lv_iload_n hx hb dX7_produce_217 rfl (lv_at hl 8 rfl) ?_
                        refine lv_if_eq (tgt := 241) hx hb dX7_produce_218 (by decide) (fun c1498 => ?_) (fun c1498 => ?_)
                        · have kc1498 : xs.toInt = 0 := by have h9 := c1498; rw [xk_eq, xk_0] at h9; exact h9
                          refine lv_aload hx hb dX7_produce_241 (lv_at hl 4 rfl) ?_
                          obtain ⟨j1500, hj1500⟩ := wG_6 (cy := cy) (N := N) (T := T) (I := I) (Q := Q) (J := J) (hM.lg hjn1417).1 (hM.lg hjn1417).2
                          refine vp_callSi (W.runV (As := []) (rest := []) ⟨hx, hb, hml, hown, hts⟩ (c_X6_many l dC dI cy w L K N T Q I J (5 * xp.toNatClampNeg + n1417) hM hjn1417) (cwV 0 hts gX7_produce_X6_many rfl rfl rfl (by decide +kernel) ⟨Nat.le_of_ble_eq_true rfl, Nat.le_of_ble_eq_true rfl⟩) ⟨mb_blind, va_recv hK hP (ci := 6) (q0 := j1500) rfl hj1500, fun U hU hW => ⟨rfl, mb_pre hP hK hU hW⟩⟩ rfl rfl hl.1 rfl (lv_room (Nat.le_of_ble_eq_true rfl)) dX7_produce_243 ⟨Nat.le_of_ble_eq_true rfl, Nat.le_of_ble_eq_true rfl⟩) (fun r1499 hr1499 => ?_)
                          obtain ⟨ha1501, hb1501, hc1501, hd1501, he1501, hf1501⟩ := hML (5 * xp.toNatClampNeg + n1417) hjn1417
                          have tr1499 : r1499.toInt = (I (w (21 + (5 * xp.toNatClampNeg + n1417))) 2).toInt - (I (w (21 + (5 * xp.toNatClampNeg + n1417))) 1).toInt := by rw [hr1499]; exact xsub (by omega) (by omega)
                          refine lv_bipush (v := 60) hx hb dX7_produce_246 (by decide) ?_
                          refine lv_icmp_ne (tgt := 254) hx hb dX7_produce_248 (by decide) (fun c1502 => ?_) (fun c1502 => ?_)
                          · have kc1502 : ¬ (r1499.toInt = 60) := by have h9 := c1502; rw [xk_eq, (show (60 : Int32).toInt = 60 by decide)] at h9; exact h9
                            refine lv_iload hx hb dX7_produce_254 (lv_at hl 3 rfl) ?_
                            refine lv_if_lt (tgt := 274) hx hb dX7_produce_256 (by decide) (fun c1503 => ?_) (fun c1503 => ?_)
                            · exact absurd ((xk_lt _ _).mp c1503) (by rw [xk_0]; have h9 := vp_in_iff.mp hin1421; omega)
                            refine lv_aload_n hx hb dX7_produce_259 rfl (lv_at hl 5 rfl) ?_
                            obtain ⟨j1504, hj1504⟩ := wG_7 (cy := cy) (N := N) (T := T) (I := I) (Q := Q) (J := J) (hM.at 0 (by decide)) (hM.k 0 (by decide) rfl)
                            refine va_get (D := (dC, dI)) (ci := 7) (v := .ref (T (w 0) 8)) (C := RX7) (T := TX7) (N := 18) hx hb hts hi7 hown hK hP j1504 hj1504 rfl 8 (by decide) (hts (.fieldLink RX7 37 "TallyLogsModel" "mode" "[I") (by decide +kernel)) (fun _ h9 => h9) rfl dX7_produce_260 ?_
                            refine W.eq (g2 := F0 m 263 ls [.ref (w 9)]) (by rw [hM.t 8 (by decide)]) ?_
                            refine lv_iload hx hb dX7_produce_263 (lv_at hl 3 rfl) ?_
                            obtain ⟨j1505, hj1505⟩ := wG_20 (cy := cy) (N := N) (T := T) (I := I) (Q := Q) (J := J) (hM.at 9 (by decide)) (hM.k 9 (by decide) rfl)
                            refine va_iald hx hb hK hP j1505 1 hj1505 rfl (hM.inN (n := 6) 9 (by decide) rfl rfl hin1421) dX7_produce_265 ?_
                            refine lv_topi (fun x1506 ex1506 => ?_)
                            refine lv_iconst (v := 1) hx hb dX7_produce_266 (by decide) ?_
                            refine lv_icmp_ne (tgt := 274) hx hb dX7_produce_267 (by decide) (fun c1507 => ?_) (fun c1507 => ?_)
                            · have kc1507 : ¬ (x1506.toInt = 1) := by have h9 := c1507; rw [xk_eq, xk_1] at h9; exact h9
                              refine lv_iconst (v := 0) hx hb dX7_produce_274 (by decide) ?_
                              refine lv_istore (lv' := [(10, .int 0), (11, .int y1438), (9, .int v1423), (8, .int v1420), (7, .ref (w (21 + (5 * xp.toNatClampNeg + n1417)))), (0, .ref (w 0)), (1, .int xp), (2, .int xh), (3, .int xs), (4, .int xk), (5, .int xv), (6, .int al)]) hx hb dX7_produce_275 hl (by decide) rfl (fun ls hl => ?_)
                              refine lv_aload hx hb dX7_produce_277 (lv_at hl 4 rfl) ?_
                              refine lv_aload_n hx hb dX7_produce_279 rfl (lv_at hl 5 rfl) ?_
                              obtain ⟨j1508, hj1508⟩ := wG_7 (cy := cy) (N := N) (T := T) (I := I) (Q := Q) (J := J) (hM.at 0 (by decide)) (hM.k 0 (by decide) rfl)
                              refine va_get (D := (dC, dI)) (ci := 7) (v := .ref (T (w 0) 4)) (C := RX7) (T := TX7) (N := 18) hx hb hts hi7 hown hK hP j1508 hj1508 rfl 4 (by decide) (hts (.fieldLink RX7 25 "TallyLogsModel" "epoch" "[I") (by decide +kernel)) (fun _ h9 => h9) rfl dX7_produce_280 ?_
                              refine W.eq (g2 := F0 m 283 ls [.ref (w 5), .ref (w (21 + (5 * xp.toNatClampNeg + n1417)))]) (by rw [hM.t 4 (by decide)]) ?_
                              refine lv_iload_n hx hb dX7_produce_283 rfl (lv_at hl 6 rfl) ?_
                              obtain ⟨j1509, hj1509⟩ := wG_20 (cy := cy) (N := N) (T := T) (I := I) (Q := Q) (J := J) (hM.at 5 (by decide)) (hM.k 5 (by decide) rfl)
                              refine va_iald hx hb hK hP j1509 1 hj1509 rfl (hM.inN (n := 4) 5 (by decide) rfl rfl hth1348.1) dX7_produce_284 ?_
                              refine lv_topi (fun x1510 ex1510 => ?_)
                              refine lv_iconst (v := 0) hx hb dX7_produce_285 (by decide) ?_
                              refine lv_iload hx hb dX7_produce_286 (lv_at hl 3 rfl) ?_
                              refine lv_iload hx hb dX7_produce_288 (lv_at hl 2 rfl) ?_
                              refine lv_iload hx hb dX7_produce_290 (lv_at hl 3 rfl) ?_
                              refine lv_if_ge (tgt := 299) hx hb dX7_produce_292 (by decide) (fun c1511 => ?_) (fun c1511 => ?_)
                              rotate_left
                              · exact absurd ((xk_le _ _).mpr (by rw [xk_0]; have h9 := vp_in_iff.mp hin1421; omega)) c1511
                              refine lv_iload_n hx hb dX7_produce_299 rfl (lv_at hl 8 rfl) ?_
                              refine lv_iload hx hb dX7_produce_300 (lv_at hl 9 rfl) ?_
                              refine lv_iload hx hb dX7_produce_302 (lv_at hl 10 rfl) ?_
                              refine lv_iload hx hb dX7_produce_304 (lv_at hl 0 rfl) ?_
                              refine lv_if_eq (tgt := 313) hx hb dX7_produce_306 (by decide) (fun c1512 => ?_) (fun c1512 => ?_)
                              rotate_left
                              · exact absurd c1512 (by decide)
                              refine lv_iconst (v := 0) hx hb dX7_produce_313 (by decide) ?_
                              obtain ⟨j1513, hj1513⟩ := wG_6 (cy := cy) (N := N) (T := T) (I := I) (Q := Q) (J := J) (hM.lg hjn1417).1 (hM.lg hjn1417).2
                              have hFc := pfree hD hS hA
                              refine va_callv (va_runV (As := [.int x1510, .int 0, .int v1420, .int v1423, .int xs, .int xk, .int xv, .int 0]) (rest := []) ⟨hx, hb, hml, hown, hts⟩ (c_X6_add l dC dI cy w L K N T Q I J s.heap.size (5 * xp.toNatClampNeg + n1417) x1510 0 v1420 v1423 xs xk xv 0 hM hjn1417 (by omega) (by omega) (by omega) (by omega)) (cwV 8 hts gX7_produce_X6_add rfl rfl rfl (by decide +kernel) ⟨Nat.le_of_ble_eq_true rfl, Nat.le_of_ble_eq_true rfl⟩) ⟨mw_blind, va_recv hK hP (ci := 6) (q0 := j1513) rfl hj1513, fun U hU hW => ⟨rfl, mw_pre hP hK hD hU hW⟩⟩ rfl rfl hl.1 rfl (lv_room (Nat.le_of_ble_eq_true rfl)) dX7_produce_314 ⟨Nat.le_of_ble_eq_true rfl, Nat.le_of_ble_eq_true rfl⟩) hS (fun q _ h => hFc q h) hFc (fun d9 t H1 locs ht hvm hw hB hz1 hk1 hS => ?_)
                              obtain ⟨I1514, J1514⟩ := d9
                              obtain ⟨hP, hK1, hD1⟩ := hB
                              rw [ht] at hP
                              have hD := hD1.weaken (fun _ _ _ h => hFc _ h)
                              generalize H1 = H at hP hS ⊢
                              have hP : va_P (dC, dI) vwCl (va_pl L (wF cy K N T I1514 Q J1514)) H := hP
                              have hD : va_D A (va_pl L (wF cy K N T I1514 Q J1514)) := hD
                              have hw1516 : LW w I J I1514 J1514 (5 * xp.toNatClampNeg + n1417) _ _ := hw
                              have hR : RM w [] I J I1514 J1514 := hR.lw hM hjn1417 hw1516
                              have hMD : MD w J1514 := hMD.lw hM hjn1417 hw1516
                              have hMU : MU w I1514 := hMU.lw hM hjn1417 hw1516
                              have q1hw1516 : (I1514 (w (21 + (5 * xp.toNatClampNeg + n1417))) 1).toInt = _ := hw1516.2.2.1
                              have q2hw1516 : (I1514 (w (21 + (5 * xp.toNatClampNeg + n1417))) 2).toInt = _ := hw1516.2.2.2
                              have q3hw1516 : (I1514 (w (21 + (5 * xp.toNatClampNeg + n1417))) 3).toInt = _ := congrArg Int32.toInt hw1516.f3
                              have q4hw1516 : (I1514 (w (21 + (5 * xp.toNatClampNeg + n1417))) 4).toInt = _ := congrArg Int32.toInt hw1516.f4
                              have hML : ML w (E + 1) I1514 := hML.lw hM hjn1417 hw1516 (by omega) ⟨by omega, by omega, by omega, by omega, by omega, by omega⟩
                              refine lv_iload hx hb dX7_produce_317 (lv_at hl 0 rfl) ?_
                              refine lv_if_eq (tgt := 335) hx hb dX7_produce_319 (by decide) (fun c1517 => ?_) (fun c1517 => ?_)
                              rotate_left
                              · exact absurd c1517 (by decide)
                              refine lv_aload_n hx hb dX7_produce_335 rfl (lv_at hl 5 rfl) ?_
                              refine lv_iload_n hx hb dX7_produce_336 rfl (lv_at hl 6 rfl) ?_
                              obtain ⟨j1518, hj1518⟩ := wG_7 (cy := cy) (N := N) (T := T) (I := I1514) (Q := Q) (J := J1514) (hM.at 0 (by decide)) (hM.k 0 (by decide) rfl)
                              have hFc := pfree hD hS hA
                              refine va_callv (va_runV (As := [.int xp]) (rest := []) ⟨hx, hb, hml, hown, hts⟩ (c_X7_rise l dC dI cy w L K N T Q I1514 J1514 H.size xp hM hth1348.1 (hMD _ (vp_lt (n := 4) hth1348.1))) (cwV 1 hts gX7_produce_X7_rise rfl rfl rfl (by decide +kernel) ⟨Nat.le_of_ble_eq_true rfl, Nat.le_of_ble_eq_true rfl⟩) ⟨mw_blind, va_recv hK hP (ci := 7) (q0 := j1518) rfl hj1518, fun U hU hW => ⟨rfl, mw_pre hP hK hD hU hW⟩⟩ rfl rfl hl.1 rfl (lv_room (Nat.le_of_ble_eq_true rfl)) dX7_produce_337 ⟨Nat.le_of_ble_eq_true rfl, Nat.le_of_ble_eq_true rfl⟩) hS (fun q _ h => hFc q h) hFc (fun d9 t H1 locs ht hvm hw hB hz1 hk1 hS => ?_)
                              obtain ⟨I1519, J1519⟩ := d9
                              obtain ⟨hP, hK1, hD1⟩ := hB
                              rw [ht] at hP
                              have hD := hD1.weaken (fun _ _ _ h => hFc _ h)
                              generalize H1 = H at hP hS ⊢
                              have hP : va_P (dC, dI) vwCl (va_pl L (wF cy K N T I1519 Q J1519)) H := hP
                              have hD : va_D A (va_pl L (wF cy K N T I1519 Q J1519)) := hD
                              have hw1521 : RZ w I1514 J1514 I1519 J1519 xp.toNatClampNeg := hw
                              have hR : RM w [] I J I1519 J1519 := hR.rz hM (vp_lt (n := 4) hth1348.1) hw1521
                              have hMD : MD w J1519 := hMD.rz hw1521
                              have hMU : MU w I1519 := hMU.rz hM (vp_lt (n := 4) hth1348.1) hw1521
                              have hML : ML w (E + 1) I1519 := hML.rz hM (vp_lt (n := 4) hth1348.1) hw1521
                              refine lv_aload hx hb dX7_produce_340 (lv_at hl 4 rfl) ?_
                              obtain ⟨j1522, hj1522⟩ := wG_6 (cy := cy) (N := N) (T := T) (I := I1519) (Q := Q) (J := J1519) (hM.lg hjn1417).1 (hM.lg hjn1417).2
                              refine va_get (D := (dC, dI)) (ci := 6) (v := .int (I1519 (w (21 + (5 * xp.toNatClampNeg + n1417))) 2)) (C := RX6) (T := TX6) (N := 7) hx hb hts hi6 hown hK hP j1522 hj1522 rfl 2 (by decide) (hts (.fieldLink RX7 89 "TallyLogsModel$Log" "end" "I") (by decide +kernel)) (fun _ h9 => h9) rfl dX7_produce_342 ?_
                              refine lv_topi (fun x1523 ex1523 => ?_)
                              have tx1523 : x1523.toInt = (I1519 (w (21 + (5 * xp.toNatClampNeg + n1417))) 2).toInt := congrArg Int32.toInt ex1523
                              refine lv_iconst (v := 1) hx hb dX7_produce_345 (by decide) ?_
                              refine lv_isub hx hb dX7_produce_346 ?_
                              refine lv_topi (fun v1524 ev1524 => ?_)
                              rw [hQz]
                              exact W.iret (v := v1524) hx hb hr (fun t ht hW => ⟨⟨v1524, (I1519, J1519), rfl, ⟨⟨hML.mono (by omega), hMD, hMU⟩, hR⟩, by rw [ht]; exact hP, va_K.moved hW.alike hK, hD⟩, hS.F ht⟩) hS.2.2 dX7_produce_347
                            · have kc1507 : x1506.toInt = 1 := by have h9 := c1507; rw [xk_eq, xk_1] at h9; exact h9
                              refine lv_iconst (v := 1) hx hb dX7_produce_270 (by decide) ?_
                              refine lv_goto (tgt := 275) hx hb dX7_produce_271 (by decide) ?_
                              refine lv_istore (lv' := [(10, .int 1), (11, .int y1438), (9, .int v1423), (8, .int v1420), (7, .ref (w (21 + (5 * xp.toNatClampNeg + n1417)))), (0, .ref (w 0)), (1, .int xp), (2, .int xh), (3, .int xs), (4, .int xk), (5, .int xv), (6, .int al)]) hx hb dX7_produce_275 hl (by decide) rfl (fun ls hl => ?_)
                              refine lv_aload hx hb dX7_produce_277 (lv_at hl 4 rfl) ?_
                              refine lv_aload_n hx hb dX7_produce_279 rfl (lv_at hl 5 rfl) ?_
                              obtain ⟨j1525, hj1525⟩ := wG_7 (cy := cy) (N := N) (T := T) (I := I) (Q := Q) (J := J) (hM.at 0 (by decide)) (hM.k 0 (by decide) rfl)
                              refine va_get (D := (dC, dI)) (ci := 7) (v := .ref (T (w 0) 4)) (C := RX7) (T := TX7) (N := 18) hx hb hts hi7 hown hK hP j1525 hj1525 rfl 4 (by decide) (hts (.fieldLink RX7 25 "TallyLogsModel" "epoch" "[I") (by decide +kernel)) (fun _ h9 => h9) rfl dX7_produce_280 ?_
                              refine W.eq (g2 := F0 m 283 ls [.ref (w 5), .ref (w (21 + (5 * xp.toNatClampNeg + n1417)))]) (by rw [hM.t 4 (by decide)]) ?_
                              refine lv_iload_n hx hb dX7_produce_283 rfl (lv_at hl 6 rfl) ?_
                              obtain ⟨j1526, hj1526⟩ := wG_20 (cy := cy) (N := N) (T := T) (I := I) (Q := Q) (J := J) (hM.at 5 (by decide)) (hM.k 5 (by decide) rfl)
                              refine va_iald hx hb hK hP j1526 1 hj1526 rfl (hM.inN (n := 4) 5 (by decide) rfl rfl hth1348.1) dX7_produce_284 ?_
                              refine lv_topi (fun x1527 ex1527 => ?_)
                              refine lv_iconst (v := 0) hx hb dX7_produce_285 (by decide) ?_
                              refine lv_iload hx hb dX7_produce_286 (lv_at hl 3 rfl) ?_
                              refine lv_iload hx hb dX7_produce_288 (lv_at hl 2 rfl) ?_
                              refine lv_iload hx hb dX7_produce_290 (lv_at hl 3 rfl) ?_
                              refine lv_if_ge (tgt := 299) hx hb dX7_produce_292 (by decide) (fun c1528 => ?_) (fun c1528 => ?_)
                              rotate_left
                              · exact absurd ((xk_le _ _).mpr (by rw [xk_0]; have h9 := vp_in_iff.mp hin1421; omega)) c1528
                              refine lv_iload_n hx hb dX7_produce_299 rfl (lv_at hl 8 rfl) ?_
                              refine lv_iload hx hb dX7_produce_300 (lv_at hl 9 rfl) ?_
                              refine lv_iload hx hb dX7_produce_302 (lv_at hl 10 rfl) ?_
                              refine lv_iload hx hb dX7_produce_304 (lv_at hl 0 rfl) ?_
                              refine lv_if_eq (tgt := 313) hx hb dX7_produce_306 (by decide) (fun c1529 => ?_) (fun c1529 => ?_)
                              · exact absurd c1529 (by decide)
                              refine lv_iconst (v := 1) hx hb dX7_produce_309 (by decide) ?_
                              refine lv_goto (tgt := 314) hx hb dX7_produce_310 (by decide) ?_
                              obtain ⟨j1530, hj1530⟩ := wG_6 (cy := cy) (N := N) (T := T) (I := I) (Q := Q) (J := J) (hM.lg hjn1417).1 (hM.lg hjn1417).2
                              have hFc := pfree hD hS hA
                              refine va_callv (va_runV (As := [.int x1527, .int 0, .int v1420, .int v1423, .int xs, .int xk, .int xv, .int 1]) (rest := []) ⟨hx, hb, hml, hown, hts⟩ (c_X6_add l dC dI cy w L K N T Q I J s.heap.size (5 * xp.toNatClampNeg + n1417) x1527 0 v1420 v1423 xs xk xv 1 hM hjn1417 (by omega) (by omega) (by omega) (by omega)) (cwV 8 hts gX7_produce_X6_add rfl rfl rfl (by decide +kernel) ⟨Nat.le_of_ble_eq_true rfl, Nat.le_of_ble_eq_true rfl⟩) ⟨mw_blind, va_recv hK hP (ci := 6) (q0 := j1530) rfl hj1530, fun U hU hW => ⟨rfl, mw_pre hP hK hD hU hW⟩⟩ rfl rfl hl.1 rfl (lv_room (Nat.le_of_ble_eq_true rfl)) dX7_produce_314 ⟨Nat.le_of_ble_eq_true rfl, Nat.le_of_ble_eq_true rfl⟩) hS (fun q _ h => hFc q h) hFc (fun d9 t H1 locs ht hvm hw hB hz1 hk1 hS => ?_)
                              obtain ⟨I1531, J1531⟩ := d9
                              obtain ⟨hP, hK1, hD1⟩ := hB
                              rw [ht] at hP
                              have hD := hD1.weaken (fun _ _ _ h => hFc _ h)
                              generalize H1 = H at hP hS ⊢
                              have hP : va_P (dC, dI) vwCl (va_pl L (wF cy K N T I1531 Q J1531)) H := hP
                              have hD : va_D A (va_pl L (wF cy K N T I1531 Q J1531)) := hD
                              have hw1533 : LW w I J I1531 J1531 (5 * xp.toNatClampNeg + n1417) _ _ := hw
                              have hR : RM w [] I J I1531 J1531 := hR.lw hM hjn1417 hw1533
                              have hMD : MD w J1531 := hMD.lw hM hjn1417 hw1533
                              have hMU : MU w I1531 := hMU.lw hM hjn1417 hw1533
                              have q1hw1533 : (I1531 (w (21 + (5 * xp.toNatClampNeg + n1417))) 1).toInt = _ := hw1533.2.2.1
                              have q2hw1533 : (I1531 (w (21 + (5 * xp.toNatClampNeg + n1417))) 2).toInt = _ := hw1533.2.2.2
                              have q3hw1533 : (I1531 (w (21 + (5 * xp.toNatClampNeg + n1417))) 3).toInt = _ := congrArg Int32.toInt hw1533.f3
                              have q4hw1533 : (I1531 (w (21 + (5 * xp.toNatClampNeg + n1417))) 4).toInt = _ := congrArg Int32.toInt hw1533.f4
                              have hML : ML w (E + 1) I1531 := hML.lw hM hjn1417 hw1533 (by omega) ⟨by omega, by omega, by omega, by omega, by omega, by omega⟩
                              refine lv_iload hx hb dX7_produce_317 (lv_at hl 0 rfl) ?_
                              refine lv_if_eq (tgt := 335) hx hb dX7_produce_319 (by decide) (fun c1534 => ?_) (fun c1534 => ?_)
                              · exact absurd c1534 (by decide)
                              refine lv_aload_n hx hb dX7_produce_322 rfl (lv_at hl 5 rfl) ?_
                              obtain ⟨j1535, hj1535⟩ := wG_7 (cy := cy) (N := N) (T := T) (I := I1531) (Q := Q) (J := J1531) (hM.at 0 (by decide)) (hM.k 0 (by decide) rfl)
                              refine va_get (D := (dC, dI)) (ci := 7) (v := .ref (T (w 0) 9)) (C := RX7) (T := TX7) (N := 18) hx hb hts hi7 hown hK hP j1535 hj1535 rfl 9 (by decide) (hts (.fieldLink RX7 40 "TallyLogsModel" "bound" "[I") (by decide +kernel)) (fun _ h9 => h9) rfl dX7_produce_323 ?_
                              refine W.eq (g2 := F0 m 326 ls [.ref (w 10)]) (by rw [hM.t 9 (by decide)]) ?_
                              refine lv_iload hx hb dX7_produce_326 (lv_at hl 3 rfl) ?_
                              refine lv_dup2_11 hx hb dX7_produce_328 rfl rfl ?_
                              obtain ⟨j1536, hj1536⟩ := wG_20 (cy := cy) (N := N) (T := T) (I := I1531) (Q := Q) (J := J1531) (hM.at 10 (by decide)) (hM.k 10 (by decide) rfl)
                              refine va_iald hx hb hK hP j1536 1 hj1536 rfl (hM.inN (n := 6) 10 (by decide) rfl rfl hin1421) dX7_produce_329 ?_
                              refine lv_topi (fun x1537 ex1537 => ?_)
                              refine lv_iconst (v := 1) hx hb dX7_produce_330 (by decide) ?_
                              refine lv_iload_n hx hb dX7_produce_331 rfl (lv_at hl 6 rfl) ?_
                              refine lv_ishl hx hb dX7_produce_332 ?_
                              refine lv_topi (fun v1538 ev1538 => ?_)
                              refine lv_ior hx hb dX7_produce_333 ?_
                              refine lv_topi (fun v1539 ev1539 => ?_)
                              obtain ⟨j1540, hj1540⟩ := wG_20 (cy := cy) (N := N) (T := T) (I := I1531) (Q := Q) (J := J1531) (hM.at 10 (by decide)) (hM.k 10 (by decide) rfl)
                              have hDo := hD
                              refine va_iast (x := v1539) hx hb hK hP hD hS j1540 1 hj1540 rfl (hM.inN (n := 6) 10 (by decide) rfl rfl hin1421) dX7_produce_334 (fun H locs hP hD hS => ?_)
                              have hP := Eq.mp (congrArg (fun w => va_P (dC, dI) vwCl w H) (wS_20 hDo (hM.at 10 (by decide)) (hM.k 10 (by decide) rfl) hj1540)) hP
                              obtain ⟨J1541, eJ1541⟩ : ∃ z, z = va_up J1531 (w 10) (upd (J1531 (w 10)) v1420.toNatClampNeg v1539) := ⟨_, rfl⟩
                              rw [← eJ1541] at hP
                              have hR : RM w [] I J I1531 J1541 := by rw [eJ1541]; exact hR.pj hM (by decide) (by decide)
                              have hMD : MD w J1541 := by rw [eJ1541]; exact hMD.pj hM (by decide) (by decide)
                              have hD : va_D A (va_pl L (wF cy K N T I1531 Q J1541)) := pD hDo
                              refine lv_aload_n hx hb dX7_produce_335 rfl (lv_at hl 5 rfl) ?_
                              refine lv_iload_n hx hb dX7_produce_336 rfl (lv_at hl 6 rfl) ?_
                              obtain ⟨j1542, hj1542⟩ := wG_7 (cy := cy) (N := N) (T := T) (I := I1531) (Q := Q) (J := J1541) (hM.at 0 (by decide)) (hM.k 0 (by decide) rfl)
                              have hFc := pfree hD hS hA
                              refine va_callv (va_runV (As := [.int xp]) (rest := []) ⟨hx, hb, hml, hown, hts⟩ (c_X7_rise l dC dI cy w L K N T Q I1531 J1541 H.size xp hM hth1348.1 (hMD _ (vp_lt (n := 4) hth1348.1))) (cwV 1 hts gX7_produce_X7_rise rfl rfl rfl (by decide +kernel) ⟨Nat.le_of_ble_eq_true rfl, Nat.le_of_ble_eq_true rfl⟩) ⟨mw_blind, va_recv hK hP (ci := 7) (q0 := j1542) rfl hj1542, fun U hU hW => ⟨rfl, mw_pre hP hK hD hU hW⟩⟩ rfl rfl hl.1 rfl (lv_room (Nat.le_of_ble_eq_true rfl)) dX7_produce_337 ⟨Nat.le_of_ble_eq_true rfl, Nat.le_of_ble_eq_true rfl⟩) hS (fun q _ h => hFc q h) hFc (fun d9 t H1 locs ht hvm hw hB hz1 hk1 hS => ?_)
                              obtain ⟨I1543, J1543⟩ := d9
                              obtain ⟨hP, hK1, hD1⟩ := hB
                              rw [ht] at hP
                              have hD := hD1.weaken (fun _ _ _ h => hFc _ h)
                              generalize H1 = H at hP hS ⊢
                              have hP : va_P (dC, dI) vwCl (va_pl L (wF cy K N T I1543 Q J1543)) H := hP
                              have hD : va_D A (va_pl L (wF cy K N T I1543 Q J1543)) := hD
                              have hw1545 : RZ w I1531 J1541 I1543 J1543 xp.toNatClampNeg := hw
                              have hR : RM w [] I J I1543 J1543 := hR.rz hM (vp_lt (n := 4) hth1348.1) hw1545
                              have hMD : MD w J1543 := hMD.rz hw1545
                              have hMU : MU w I1543 := hMU.rz hM (vp_lt (n := 4) hth1348.1) hw1545
                              have hML : ML w (E + 1) I1543 := hML.rz hM (vp_lt (n := 4) hth1348.1) hw1545
                              refine lv_aload hx hb dX7_produce_340 (lv_at hl 4 rfl) ?_
                              obtain ⟨j1546, hj1546⟩ := wG_6 (cy := cy) (N := N) (T := T) (I := I1543) (Q := Q) (J := J1543) (hM.lg hjn1417).1 (hM.lg hjn1417).2
                              refine va_get (D := (dC, dI)) (ci := 6) (v := .int (I1543 (w (21 + (5 * xp.toNatClampNeg + n1417))) 2)) (C := RX6) (T := TX6) (N := 7) hx hb hts hi6 hown hK hP j1546 hj1546 rfl 2 (by decide) (hts (.fieldLink RX7 89 "TallyLogsModel$Log" "end" "I") (by decide +kernel)) (fun _ h9 => h9) rfl dX7_produce_342 ?_
                              refine lv_topi (fun x1547 ex1547 => ?_)
                              have tx1547 : x1547.toInt = (I1543 (w (21 + (5 * xp.toNatClampNeg + n1417))) 2).toInt := congrArg Int32.toInt ex1547
                              refine lv_iconst (v := 1) hx hb dX7_produce_345 (by decide) ?_
                              refine lv_isub hx hb dX7_produce_346 ?_
                              refine lv_topi (fun v1548 ev1548 => ?_)
                              rw [hQz]
                              exact W.iret (v := v1548) hx hb hr (fun t ht hW => ⟨⟨v1548, (I1543, J1543), rfl, ⟨⟨hML.mono (by omega), hMD, hMU⟩, hR⟩, by rw [ht]; exact hP, va_K.moved hW.alike hK, hD⟩, hS.F ht⟩) hS.2.2 dX7_produce_347
                          · have kc1502 : r1499.toInt = 60 := by have h9 := c1502; rw [xk_eq, (show (60 : Int32).toInt = 60 by decide)] at h9; exact h9
                            refine lv_bipush (v := (-3)) hx hb dX7_produce_251 (by decide) ?_
                            rw [hQz]
                            exact W.iret (v := (-3)) hx hb hr (fun t ht hW => ⟨⟨(-3), (I, J), rfl, ⟨⟨hML.mono (by omega), hMD, hMU⟩, hR⟩, by rw [ht]; exact hP, va_K.moved hW.alike hK, hD⟩, hS.F ht⟩) hS.2.2 dX7_produce_253
                        · have kc1498 : ¬ (xs.toInt = 0) := by have h9 := c1498; rw [xk_eq, xk_0] at h9; exact h9
                          refine lv_goto (tgt := 238) hx hb dX7_produce_221 (by decide) ?_
                          refine lv_bipush (v := (-6)) hx hb dX7_produce_238 (by decide) ?_
                          rw [hQz]
                          exact W.iret (v := (-6)) hx hb hr (fun t ht hW => ⟨⟨(-6), (I, J), rfl, ⟨⟨hML.mono (by omega), hMD, hMU⟩, hR⟩, by rw [ht]; exact hP, va_K.moved hW.alike hK, hD⟩, hS.F ht⟩) hS.2.2 dX7_produce_240
                    · have kc1442 : ¬ (x1441.toInt ≤ y1438.toInt) := by have h9 := c1442; rw [xk_le] at h9; exact h9
                      refine lv_aload hx hb dX7_produce_147 (lv_at hl 4 rfl) ?_
                      refine lv_iload hx hb dX7_produce_149 (lv_at hl 0 rfl) ?_
                      refine lv_iconst (v := 1) hx hb dX7_produce_151 (by decide) ?_
                      obtain ⟨j1550, hj1550⟩ := wG_6 (cy := cy) (N := N) (T := T) (I := I) (Q := Q) (J := J) (hM.lg hjn1417).1 (hM.lg hjn1417).2
                      refine vp_callSi (W.runV (As := [.int y1438, .int 1]) (rest := []) ⟨hx, hb, hml, hown, hts⟩ (c_X6_get l dC dI cy w L K N T Q I J (5 * xp.toNatClampNeg + n1417) y1438 1 hM hjn1417 (by omega) (by omega) (by unfold vp_in; decide)) (cwV 2 hts gX7_produce_X6_get rfl rfl rfl (by decide +kernel) ⟨Nat.le_of_ble_eq_true rfl, Nat.le_of_ble_eq_true rfl⟩) ⟨mb_blind, va_recv hK hP (ci := 6) (q0 := j1550) rfl hj1550, fun U hU hW => ⟨rfl, mb_pre hP hK hU hW⟩⟩ rfl rfl hl.1 rfl (lv_room (Nat.le_of_ble_eq_true rfl)) dX7_produce_152 ⟨Nat.le_of_ble_eq_true rfl, Nat.le_of_ble_eq_true rfl⟩) (fun r1549 hr1549 => ?_)
                      refine lv_if_ne (tgt := 206) hx hb dX7_produce_155 (by decide) (fun c1551 => ?_) (fun c1551 => ?_)
                      · have kc1551 : ¬ (r1549.toInt = 0) := by have h9 := c1551; rw [xk_eq, xk_0] at h9; exact h9
                        obtain ⟨v1552, ev1552⟩ : ∃ y : Int32, y = y1438 + Int32.ofInt 1 := ⟨_, rfl⟩
                        refine lv_iinc (v := v1552) (lv' := [(11, .int v1552), (10, .int y1439), (9, .int v1423), (8, .int v1420), (7, .ref (w (21 + (5 * xp.toNatClampNeg + n1417)))), (0, .ref (w 0)), (1, .int xp), (2, .int xh), (3, .int xs), (4, .int xk), (5, .int xv), (6, .int al)]) hx hb dX7_produce_206 hl (k := 0) rfl ev1552.symm (by decide) rfl (fun ls hl => ?_)
                        refine lv_goto (tgt := 137) hx hb dX7_produce_209 (by decide) ?_
                        have tv1552 : v1552.toInt = y1438.toInt + 1 := by rw [ev1552, show y1438 + Int32.ofInt 1 = y1438 + 1 from rfl]; exact xinc (y := I (w (21 + (5 * xp.toNatClampNeg + n1417))) 2) (by rw [xk_lt]; omega)
                        exact ih1437 _ _ _ (by omega) (by omega) (⟨by omega, by omega⟩)  (lv_sub hl [0, 1, 2, 3, 4, 5, 6, 7, 8, 9, 10, 11] rfl)
                      · have kc1551 : r1549.toInt = 0 := by have h9 := c1551; rw [xk_eq, xk_0] at h9; exact h9
                        refine lv_aload hx hb dX7_produce_158 (lv_at hl 4 rfl) ?_
                        refine lv_iload hx hb dX7_produce_160 (lv_at hl 0 rfl) ?_
                        refine lv_iconst (v := 2) hx hb dX7_produce_162 (by decide) ?_
                        obtain ⟨j1554, hj1554⟩ := wG_6 (cy := cy) (N := N) (T := T) (I := I) (Q := Q) (J := J) (hM.lg hjn1417).1 (hM.lg hjn1417).2
                        refine vp_callSi (W.runV (As := [.int y1438, .int 2]) (rest := []) ⟨hx, hb, hml, hown, hts⟩ (c_X6_get l dC dI cy w L K N T Q I J (5 * xp.toNatClampNeg + n1417) y1438 2 hM hjn1417 (by omega) (by omega) (by unfold vp_in; decide)) (cwV 2 hts gX7_produce_X6_get rfl rfl rfl (by decide +kernel) ⟨Nat.le_of_ble_eq_true rfl, Nat.le_of_ble_eq_true rfl⟩) ⟨mb_blind, va_recv hK hP (ci := 6) (q0 := j1554) rfl hj1554, fun U hU hW => ⟨rfl, mb_pre hP hK hU hW⟩⟩ rfl rfl hl.1 rfl (lv_room (Nat.le_of_ble_eq_true rfl)) dX7_produce_163 ⟨Nat.le_of_ble_eq_true rfl, Nat.le_of_ble_eq_true rfl⟩) (fun r1553 hr1553 => ?_)
                        refine lv_iload hx hb dX7_produce_166 (lv_at hl 3 rfl) ?_
                        refine lv_icmp_ne (tgt := 206) hx hb dX7_produce_168 (by decide) (fun c1555 => ?_) (fun c1555 => ?_)
                        · have kc1555 : ¬ (r1553.toInt = v1420.toInt) := by have h9 := c1555; rw [xk_eq] at h9; exact h9
                          obtain ⟨v1556, ev1556⟩ : ∃ y : Int32, y = y1438 + Int32.ofInt 1 := ⟨_, rfl⟩
                          refine lv_iinc (v := v1556) (lv' := [(11, .int v1556), (10, .int y1439), (9, .int v1423), (8, .int v1420), (7, .ref (w (21 + (5 * xp.toNatClampNeg + n1417)))), (0, .ref (w 0)), (1, .int xp), (2, .int xh), (3, .int xs), (4, .int xk), (5, .int xv), (6, .int al)]) hx hb dX7_produce_206 hl (k := 0) rfl ev1556.symm (by decide) rfl (fun ls hl => ?_)
                          refine lv_goto (tgt := 137) hx hb dX7_produce_209 (by decide) ?_
                          have tv1556 : v1556.toInt = y1438.toInt + 1 := by rw [ev1556, show y1438 + Int32.ofInt 1 = y1438 + 1 from rfl]; exact xinc (y := I (w (21 + (5 * xp.toNatClampNeg + n1417))) 2) (by rw [xk_lt]; omega)
                          exact ih1437 _ _ _ (by omega) (by omega) (⟨by omega, by omega⟩)  (lv_sub hl [0, 1, 2, 3, 4, 5, 6, 7, 8, 9, 10, 11] rfl)
                        · have kc1555 : r1553.toInt = v1420.toInt := by have h9 := c1555; rw [xk_eq] at h9; exact h9
                          refine lv_aload hx hb dX7_produce_171 (lv_at hl 4 rfl) ?_
                          refine lv_iload hx hb dX7_produce_173 (lv_at hl 0 rfl) ?_
                          refine lv_iconst (v := 3) hx hb dX7_produce_175 (by decide) ?_
                          obtain ⟨j1558, hj1558⟩ := wG_6 (cy := cy) (N := N) (T := T) (I := I) (Q := Q) (J := J) (hM.lg hjn1417).1 (hM.lg hjn1417).2
                          refine vp_callSi (W.runV (As := [.int y1438, .int 3]) (rest := []) ⟨hx, hb, hml, hown, hts⟩ (c_X6_get l dC dI cy w L K N T Q I J (5 * xp.toNatClampNeg + n1417) y1438 3 hM hjn1417 (by omega) (by omega) (by unfold vp_in; decide)) (cwV 2 hts gX7_produce_X6_get rfl rfl rfl (by decide +kernel) ⟨Nat.le_of_ble_eq_true rfl, Nat.le_of_ble_eq_true rfl⟩) ⟨mb_blind, va_recv hK hP (ci := 6) (q0 := j1558) rfl hj1558, fun U hU hW => ⟨rfl, mb_pre hP hK hU hW⟩⟩ rfl rfl hl.1 rfl (lv_room (Nat.le_of_ble_eq_true rfl)) dX7_produce_176 ⟨Nat.le_of_ble_eq_true rfl, Nat.le_of_ble_eq_true rfl⟩) (fun r1557 hr1557 => ?_)
                          refine lv_iload hx hb dX7_produce_179 (lv_at hl 2 rfl) ?_
                          refine lv_icmp_eq (tgt := 187) hx hb dX7_produce_181 (by decide) (fun c1559 => ?_) (fun c1559 => ?_)
                          · have kc1559 : r1557.toInt = v1423.toInt := by have h9 := c1559; rw [xk_eq] at h9; exact h9
                            refine lv_aload hx hb dX7_produce_187 (lv_at hl 4 rfl) ?_
                            refine lv_iload hx hb dX7_produce_189 (lv_at hl 0 rfl) ?_
                            refine lv_iconst (v := 4) hx hb dX7_produce_191 (by decide) ?_
                            obtain ⟨j1561, hj1561⟩ := wG_6 (cy := cy) (N := N) (T := T) (I := I) (Q := Q) (J := J) (hM.lg hjn1417).1 (hM.lg hjn1417).2
                            refine vp_callSi (W.runV (As := [.int y1438, .int 4]) (rest := []) ⟨hx, hb, hml, hown, hts⟩ (c_X6_get l dC dI cy w L K N T Q I J (5 * xp.toNatClampNeg + n1417) y1438 4 hM hjn1417 (by omega) (by omega) (by unfold vp_in; decide)) (cwV 2 hts gX7_produce_X6_get rfl rfl rfl (by decide +kernel) ⟨Nat.le_of_ble_eq_true rfl, Nat.le_of_ble_eq_true rfl⟩) ⟨mb_blind, va_recv hK hP (ci := 6) (q0 := j1561) rfl hj1561, fun U hU hW => ⟨rfl, mb_pre hP hK hU hW⟩⟩ rfl rfl hl.1 rfl (lv_room (Nat.le_of_ble_eq_true rfl)) dX7_produce_192 ⟨Nat.le_of_ble_eq_true rfl, Nat.le_of_ble_eq_true rfl⟩) (fun r1560 hr1560 => ?_)
                            refine lv_iload_n hx hb dX7_produce_195 rfl (lv_at hl 8 rfl) ?_
                            refine lv_icmp_ne (tgt := 202) hx hb dX7_produce_196 (by decide) (fun c1562 => ?_) (fun c1562 => ?_)
                            · have kc1562 : ¬ (r1560.toInt = xs.toInt) := by have h9 := c1562; rw [xk_eq] at h9; exact h9
                              refine lv_iload hx hb dX7_produce_202 (lv_at hl 0 rfl) ?_
                              refine lv_istore (lv' := [(10, .int y1438), (11, .int y1438), (9, .int v1423), (8, .int v1420), (7, .ref (w (21 + (5 * xp.toNatClampNeg + n1417)))), (0, .ref (w 0)), (1, .int xp), (2, .int xh), (3, .int xs), (4, .int xk), (5, .int xv), (6, .int al)]) hx hb dX7_produce_204 hl (by decide) rfl (fun ls hl => ?_)
                              obtain ⟨v1563, ev1563⟩ : ∃ y : Int32, y = y1438 + Int32.ofInt 1 := ⟨_, rfl⟩
                              refine lv_iinc (v := v1563) (lv' := [(11, .int v1563), (10, .int y1438), (9, .int v1423), (8, .int v1420), (7, .ref (w (21 + (5 * xp.toNatClampNeg + n1417)))), (0, .ref (w 0)), (1, .int xp), (2, .int xh), (3, .int xs), (4, .int xk), (5, .int xv), (6, .int al)]) hx hb dX7_produce_206 hl (k := 1) rfl ev1563.symm (by decide) rfl (fun ls hl => ?_)
                              refine lv_goto (tgt := 137) hx hb dX7_produce_209 (by decide) ?_
                              have tv1563 : v1563.toInt = y1438.toInt + 1 := by rw [ev1563, show y1438 + Int32.ofInt 1 = y1438 + 1 from rfl]; exact xinc (y := I (w (21 + (5 * xp.toNatClampNeg + n1417))) 2) (by rw [xk_lt]; omega)
                              exact ih1437 _ _ _ (by omega) (by omega) (⟨by omega, by omega⟩)  (lv_sub hl [0, 1, 2, 3, 4, 5, 6, 7, 8, 9, 10, 11] rfl)
                            · have kc1562 : r1560.toInt = xs.toInt := by have h9 := c1562; rw [xk_eq] at h9; exact h9
                              refine lv_iload hx hb dX7_produce_199 (lv_at hl 0 rfl) ?_
                              rw [hQz]
                              exact W.iret (v := y1438) hx hb hr (fun t ht hW => ⟨⟨y1438, (I, J), rfl, ⟨⟨hML.mono (by omega), hMD, hMU⟩, hR⟩, by rw [ht]; exact hP, va_K.moved hW.alike hK, hD⟩, hS.F ht⟩) hS.2.2 dX7_produce_201
                          · have kc1559 : ¬ (r1557.toInt = v1423.toInt) := by have h9 := c1559; rw [xk_eq] at h9; exact h9
                            refine lv_goto (tgt := 206) hx hb dX7_produce_184 (by decide) ?_
                            obtain ⟨v1564, ev1564⟩ : ∃ y : Int32, y = y1438 + Int32.ofInt 1 := ⟨_, rfl⟩
                            refine lv_iinc (v := v1564) (lv' := [(11, .int v1564), (10, .int y1439), (9, .int v1423), (8, .int v1420), (7, .ref (w (21 + (5 * xp.toNatClampNeg + n1417)))), (0, .ref (w 0)), (1, .int xp), (2, .int xh), (3, .int xs), (4, .int xk), (5, .int xv), (6, .int al)]) hx hb dX7_produce_206 hl (k := 0) rfl ev1564.symm (by decide) rfl (fun ls hl => ?_)
                            refine lv_goto (tgt := 137) hx hb dX7_produce_209 (by decide) ?_
                            have tv1564 : v1564.toInt = y1438.toInt + 1 := by rw [ev1564, show y1438 + Int32.ofInt 1 = y1438 + 1 from rfl]; exact xinc (y := I (w (21 + (5 * xp.toNatClampNeg + n1417))) 2) (by rw [xk_lt]; omega)
                            exact ih1437 _ _ _ (by omega) (by omega) (⟨by omega, by omega⟩)  (lv_sub hl [0, 1, 2, 3, 4, 5, 6, 7, 8, 9, 10, 11] rfl)
                exact hLP1437 _ _ _ _ (Nat.lt_succ_self _) (by omega) (⟨by omega, Or.inl (by decide)⟩)  (lv_sub hl [0, 1, 2, 3, 4, 5, 6, 7, 8, 9, 10, 11] rfl)
              · have kc1433 : ¬ (al.toInt = 0) := by have h9 := c1433; rw [xk_eq, xk_0] at h9; exact h9
                refine lv_aload_n hx hb dX7_produce_101 rfl (lv_at hl 3 rfl) ?_
                obtain ⟨j1565, hj1565⟩ := wG_7 (cy := cy) (N := N) (T := T) (I := I) (Q := Q) (J := J) (hM.at 0 (by decide)) (hM.k 0 (by decide) rfl)
                refine va_get (D := (dC, dI)) (ci := 7) (v := .ref (T (w 0) 6)) (C := RX7) (T := TX7) (N := 18) hx hb hts hi7 hown hK hP j1565 hj1565 rfl 6 (by decide) (hts (.fieldLink RX7 31 "TallyLogsModel" "step" "[I") (by decide +kernel)) (fun _ h9 => h9) rfl dX7_produce_102 ?_
                refine W.eq (g2 := F0 m 105 ls [.ref (w 7)]) (by rw [hM.t 6 (by decide)]) ?_
                refine lv_iload_n hx hb dX7_produce_105 rfl (lv_at hl 4 rfl) ?_
                obtain ⟨j1566, hj1566⟩ := wG_20 (cy := cy) (N := N) (T := T) (I := I) (Q := Q) (J := J) (hM.at 7 (by decide)) (hM.k 7 (by decide) rfl)
                refine va_iald hx hb hK hP j1566 1 hj1566 rfl (hM.inN (n := 4) 7 (by decide) rfl rfl hth1348.1) dX7_produce_106 ?_
                refine lv_topi (fun x1567 ex1567 => ?_)
                refine vp_callSi (W.runS (As := [.int x1567]) (rest := []) ⟨hx, hb, hml, hown, hts⟩ (c_J6_bitCount_0f7a4 l x1567) (va_cwS 1 hts gX7_produce_J6_bitCount_0f7a4 rfl rfl rfl (by decide +kernel) ⟨Nat.le_of_ble_eq_true rfl, Nat.le_of_ble_eq_true rfl⟩) preEq rfl rfl hl.1 rfl (lv_room (Nat.le_of_ble_eq_true rfl)) dX7_produce_107 ⟨Nat.le_of_ble_eq_true rfl, Nat.le_of_ble_eq_true rfl⟩) (fun r1568 hr1568 => ?_)
                subst hr1568
                refine lv_aload_n hx hb dX7_produce_110 rfl (lv_at hl 3 rfl) ?_
                obtain ⟨j1569, hj1569⟩ := wG_7 (cy := cy) (N := N) (T := T) (I := I) (Q := Q) (J := J) (hM.at 0 (by decide)) (hM.k 0 (by decide) rfl)
                refine va_get (D := (dC, dI)) (ci := 7) (v := .ref (T (w 0) 5)) (C := RX7) (T := TX7) (N := 18) hx hb hts hi7 hown hK hP j1569 hj1569 rfl 5 (by decide) (hts (.fieldLink RX7 28 "TallyLogsModel" "min" "[I") (by decide +kernel)) (fun _ h9 => h9) rfl dX7_produce_111 ?_
                refine W.eq (g2 := F0 m 114 ls [.ref (w 6), .int (sp_bc x1567)]) (by rw [hM.t 5 (by decide)]) ?_
                refine lv_iload_n hx hb dX7_produce_114 rfl (lv_at hl 4 rfl) ?_
                obtain ⟨j1570, hj1570⟩ := wG_20 (cy := cy) (N := N) (T := T) (I := I) (Q := Q) (J := J) (hM.at 6 (by decide)) (hM.k 6 (by decide) rfl)
                refine va_iald hx hb hK hP j1570 1 hj1570 rfl (hM.inN (n := 4) 6 (by decide) rfl rfl hth1348.1) dX7_produce_115 ?_
                refine lv_topi (fun x1571 ex1571 => ?_)
                refine lv_icmp_ge (tgt := 122) hx hb dX7_produce_116 (by decide) (fun c1572 => ?_) (fun c1572 => ?_)
                · have kc1572 : x1571.toInt ≤ (sp_bc x1567).toInt := by have h9 := c1572; rw [xk_le] at h9; exact h9
                  refine lv_iload hx hb dX7_produce_122 (lv_at hl 1 rfl) ?_
                  refine lv_if_lt (tgt := 241) hx hb dX7_produce_124 (by decide) (fun c1573 => ?_) (fun c1573 => ?_)
                  · exact absurd ((xk_lt _ _).mp c1573) (by rw [xk_0]; have h9 := vp_in_iff.mp hin1421; omega)
                  refine lv_iconst (v := (-1)) hx hb dX7_produce_127 (by decide) ?_
                  refine lv_istore (lv' := [(10, .int (-1)), (9, .int v1423), (8, .int v1420), (7, .ref (w (21 + (5 * xp.toNatClampNeg + n1417)))), (0, .ref (w 0)), (1, .int xp), (2, .int xh), (3, .int xs), (4, .int xk), (5, .int xv), (6, .int al)]) hx hb dX7_produce_128 hl (by decide) rfl (fun ls hl => ?_)
                  refine lv_aload hx hb dX7_produce_130 (lv_at hl 3 rfl) ?_
                  obtain ⟨j1574, hj1574⟩ := wG_6 (cy := cy) (N := N) (T := T) (I := I) (Q := Q) (J := J) (hM.lg hjn1417).1 (hM.lg hjn1417).2
                  refine va_get (D := (dC, dI)) (ci := 6) (v := .int (I (w (21 + (5 * xp.toNatClampNeg + n1417))) 1)) (C := RX6) (T := TX6) (N := 7) hx hb hts hi6 hown hK hP j1574 hj1574 rfl 1 (by decide) (hts (.fieldLink RX7 134 "TallyLogsModel$Log" "start" "I") (by decide +kernel)) (fun _ h9 => h9) rfl dX7_produce_132 ?_
                  refine lv_topi (fun x1575 ex1575 => ?_)
                  have tx1575 : x1575.toInt = (I (w (21 + (5 * xp.toNatClampNeg + n1417))) 1).toInt := congrArg Int32.toInt ex1575
                  refine lv_istore (lv' := [(11, .int x1575), (10, .int (-1)), (9, .int v1423), (8, .int v1420), (7, .ref (w (21 + (5 * xp.toNatClampNeg + n1417)))), (0, .ref (w 0)), (1, .int xp), (2, .int xh), (3, .int xs), (4, .int xk), (5, .int xv), (6, .int al)]) hx hb dX7_produce_135 hl (by decide) rfl (fun ls hl => ?_)
                  refine wq_gen (fun Qz hQz => ?_)
                  have hLP1576 : ∀ (n : Nat) (y1577 y1578 : Int32) (ls : Array Slot), ((I (w (21 + (5 * xp.toNatClampNeg + n1417))) 2).toInt - y1577.toInt).toNat < n → 0 ≤ y1577.toInt → ((I (w (21 + (5 * xp.toNatClampNeg + n1417))) 1).toInt ≤ y1577.toInt ∧ (y1578.toInt = -1 ∨ ((I (w (21 + (5 * xp.toNatClampNeg + n1417))) 1).toInt ≤ y1578.toInt ∧ y1578.toInt < (I (w (21 + (5 * xp.toNatClampNeg + n1417))) 2).toInt))) → lv_has ls 12 [(11, .int y1577), (10, .int y1578), (9, .int v1423), (8, .int v1420), (7, .ref (w (21 + (5 * xp.toNatClampNeg + n1417)))), (0, .ref (w 0)), (1, .int xp), (2, .int xh), (3, .int xs), (4, .int xk), (5, .int xv), (6, .int al)] → W p l e (headSpec wsX7_produce ({ frames := 4, cells := 0, slots := 0, locals := 99 })).room s m ([.ref (w 0), .int xp, .int xh, .int xs, .int xk, .int xv, .int al] : List Value).toArray below meth c s.heap [] 0 0 Qz (F0 m 137 ls []) := by
                    intro n
                    induction n with
                    | zero => intro y1577 y1578 ls hms; exact absurd hms (Nat.not_lt_zero _)
                    | succ n ih1576 =>
                      intro y1577 y1578 ls hms hnn1576 hiv1576 hl
                      refine lv_iload hx hb dX7_produce_137 (lv_at hl 0 rfl) ?_
                      refine lv_aload hx hb dX7_produce_139 (lv_at hl 4 rfl) ?_
                      obtain ⟨j1579, hj1579⟩ := wG_6 (cy := cy) (N := N) (T := T) (I := I) (Q := Q) (J := J) (hM.lg hjn1417).1 (hM.lg hjn1417).2
                      refine va_get (D := (dC, dI)) (ci := 6) (v := .int (I (w (21 + (5 * xp.toNatClampNeg + n1417))) 2)) (C := RX6) (T := TX6) (N := 7) hx hb hts hi6 hown hK hP j1579 hj1579 rfl 2 (by decide) (hts (.fieldLink RX7 89 "TallyLogsModel$Log" "end" "I") (by decide +kernel)) (fun _ h9 => h9) rfl dX7_produce_141 ?_
                      refine lv_topi (fun x1580 ex1580 => ?_)
                      have tx1580 : x1580.toInt = (I (w (21 + (5 * xp.toNatClampNeg + n1417))) 2).toInt := congrArg Int32.toInt ex1580
                      refine lv_icmp_ge (tgt := 212) hx hb dX7_produce_144 (by decide) (fun c1581 => ?_) (fun c1581 => ?_)
                      · have kc1581 : x1580.toInt ≤ y1577.toInt := by have h9 := c1581; rw [xk_le] at h9; exact h9
                        refine lv_iload hx hb dX7_produce_212 (lv_at hl 1 rfl) ?_
                        refine lv_if_ge (tgt := 224) hx hb dX7_produce_214 (by decide) (fun c1582 => ?_) (fun c1582 => ?_)
                        · have kc1582 : 0 ≤ y1578.toInt := by have h9 := c1582; rw [xk_le, xk_0] at h9; exact h9
                          refine lv_iload_n hx hb dX7_produce_224 rfl (lv_at hl 8 rfl) ?_
                          refine lv_aload hx hb dX7_produce_225 (lv_at hl 4 rfl) ?_
                          refine lv_iload hx hb dX7_produce_227 (lv_at hl 1 rfl) ?_
                          refine lv_iconst (v := 4) hx hb dX7_produce_229 (by decide) ?_
                          obtain ⟨j1584, hj1584⟩ := wG_6 (cy := cy) (N := N) (T := T) (I := I) (Q := Q) (J := J) (hM.lg hjn1417).1 (hM.lg hjn1417).2
                          refine vp_callSi (W.runV (As := [.int y1578, .int 4]) (rest := [.int xs]) ⟨hx, hb, hml, hown, hts⟩ (c_X6_get l dC dI cy w L K N T Q I J (5 * xp.toNatClampNeg + n1417) y1578 4 hM hjn1417 (by omega) (by omega) (by unfold vp_in; decide)) (cwV 2 hts gX7_produce_X6_get rfl rfl rfl (by decide +kernel) ⟨Nat.le_of_ble_eq_true rfl, Nat.le_of_ble_eq_true rfl⟩) ⟨mb_blind, va_recv hK hP (ci := 6) (q0 := j1584) rfl hj1584, fun U hU hW => ⟨rfl, mb_pre hP hK hU hW⟩⟩ rfl rfl hl.1 rfl (lv_room (Nat.le_of_ble_eq_true rfl)) dX7_produce_230 ⟨Nat.le_of_ble_eq_true rfl, Nat.le_of_ble_eq_true rfl⟩) (fun r1583 hr1583 => ?_)
                          refine lv_iconst (v := 1) hx hb dX7_produce_233 (by decide) ?_
                          refine lv_iadd hx hb dX7_produce_234 ?_
                          refine lv_topi (fun v1585 ev1585 => ?_)
                          refine lv_icmp_eq (tgt := 241) hx hb dX7_produce_235 (by decide) (fun c1586 => ?_) (fun c1586 => ?_)
                          · have kc1586 : xs.toInt = v1585.toInt := by have h9 := c1586; rw [xk_eq] at h9; exact h9
                            refine lv_aload hx hb dX7_produce_241 (lv_at hl 4 rfl) ?_
                            obtain ⟨j1588, hj1588⟩ := wG_6 (cy := cy) (N := N) (T := T) (I := I) (Q := Q) (J := J) (hM.lg hjn1417).1 (hM.lg hjn1417).2
                            refine vp_callSi (W.runV (As := []) (rest := []) ⟨hx, hb, hml, hown, hts⟩ (c_X6_many l dC dI cy w L K N T Q I J (5 * xp.toNatClampNeg + n1417) hM hjn1417) (cwV 0 hts gX7_produce_X6_many rfl rfl rfl (by decide +kernel) ⟨Nat.le_of_ble_eq_true rfl, Nat.le_of_ble_eq_true rfl⟩) ⟨mb_blind, va_recv hK hP (ci := 6) (q0 := j1588) rfl hj1588, fun U hU hW => ⟨rfl, mb_pre hP hK hU hW⟩⟩ rfl rfl hl.1 rfl (lv_room (Nat.le_of_ble_eq_true rfl)) dX7_produce_243 ⟨Nat.le_of_ble_eq_true rfl, Nat.le_of_ble_eq_true rfl⟩) (fun r1587 hr1587 => ?_)
                            obtain ⟨ha1589, hb1589, hc1589, hd1589, he1589, hf1589⟩ := hML (5 * xp.toNatClampNeg + n1417) hjn1417
                            have tr1587 : r1587.toInt = (I (w (21 + (5 * xp.toNatClampNeg + n1417))) 2).toInt - (I (w (21 + (5 * xp.toNatClampNeg + n1417))) 1).toInt := by rw [hr1587]; exact xsub (by omega) (by omega)
                            refine lv_bipush (v := 60) hx hb dX7_produce_246 (by decide) ?_
                            refine lv_icmp_ne (tgt := 254) hx hb dX7_produce_248 (by decide) (fun c1590 => ?_) (fun c1590 => ?_)
                            · have kc1590 : ¬ (r1587.toInt = 60) := by have h9 := c1590; rw [xk_eq, (show (60 : Int32).toInt = 60 by decide)] at h9; exact h9
                              refine lv_iload hx hb dX7_produce_254 (lv_at hl 3 rfl) ?_
                              refine lv_if_lt (tgt := 274) hx hb dX7_produce_256 (by decide) (fun c1591 => ?_) (fun c1591 => ?_)
                              · exact absurd ((xk_lt _ _).mp c1591) (by rw [xk_0]; have h9 := vp_in_iff.mp hin1421; omega)
                              refine lv_aload_n hx hb dX7_produce_259 rfl (lv_at hl 5 rfl) ?_
                              obtain ⟨j1592, hj1592⟩ := wG_7 (cy := cy) (N := N) (T := T) (I := I) (Q := Q) (J := J) (hM.at 0 (by decide)) (hM.k 0 (by decide) rfl)
                              refine va_get (D := (dC, dI)) (ci := 7) (v := .ref (T (w 0) 8)) (C := RX7) (T := TX7) (N := 18) hx hb hts hi7 hown hK hP j1592 hj1592 rfl 8 (by decide) (hts (.fieldLink RX7 37 "TallyLogsModel" "mode" "[I") (by decide +kernel)) (fun _ h9 => h9) rfl dX7_produce_260 ?_
                              refine W.eq (g2 := F0 m 263 ls [.ref (w 9)]) (by rw [hM.t 8 (by decide)]) ?_
                              refine lv_iload hx hb dX7_produce_263 (lv_at hl 3 rfl) ?_
                              obtain ⟨j1593, hj1593⟩ := wG_20 (cy := cy) (N := N) (T := T) (I := I) (Q := Q) (J := J) (hM.at 9 (by decide)) (hM.k 9 (by decide) rfl)
                              refine va_iald hx hb hK hP j1593 1 hj1593 rfl (hM.inN (n := 6) 9 (by decide) rfl rfl hin1421) dX7_produce_265 ?_
                              refine lv_topi (fun x1594 ex1594 => ?_)
                              refine lv_iconst (v := 1) hx hb dX7_produce_266 (by decide) ?_
                              refine lv_icmp_ne (tgt := 274) hx hb dX7_produce_267 (by decide) (fun c1595 => ?_) (fun c1595 => ?_)
                              · have kc1595 : ¬ (x1594.toInt = 1) := by have h9 := c1595; rw [xk_eq, xk_1] at h9; exact h9
                                refine lv_iconst (v := 0) hx hb dX7_produce_274 (by decide) ?_
                                refine lv_istore (lv' := [(10, .int 0), (11, .int y1577), (9, .int v1423), (8, .int v1420), (7, .ref (w (21 + (5 * xp.toNatClampNeg + n1417)))), (0, .ref (w 0)), (1, .int xp), (2, .int xh), (3, .int xs), (4, .int xk), (5, .int xv), (6, .int al)]) hx hb dX7_produce_275 hl (by decide) rfl (fun ls hl => ?_)
                                refine lv_aload hx hb dX7_produce_277 (lv_at hl 4 rfl) ?_
                                refine lv_aload_n hx hb dX7_produce_279 rfl (lv_at hl 5 rfl) ?_
                                obtain ⟨j1596, hj1596⟩ := wG_7 (cy := cy) (N := N) (T := T) (I := I) (Q := Q) (J := J) (hM.at 0 (by decide)) (hM.k 0 (by decide) rfl)
                                refine va_get (D := (dC, dI)) (ci := 7) (v := .ref (T (w 0) 4)) (C := RX7) (T := TX7) (N := 18) hx hb hts hi7 hown hK hP j1596 hj1596 rfl 4 (by decide) (hts (.fieldLink RX7 25 "TallyLogsModel" "epoch" "[I") (by decide +kernel)) (fun _ h9 => h9) rfl dX7_produce_280 ?_
                                refine W.eq (g2 := F0 m 283 ls [.ref (w 5), .ref (w (21 + (5 * xp.toNatClampNeg + n1417)))]) (by rw [hM.t 4 (by decide)]) ?_
                                refine lv_iload_n hx hb dX7_produce_283 rfl (lv_at hl 6 rfl) ?_
                                obtain ⟨j1597, hj1597⟩ := wG_20 (cy := cy) (N := N) (T := T) (I := I) (Q := Q) (J := J) (hM.at 5 (by decide)) (hM.k 5 (by decide) rfl)
                                refine va_iald hx hb hK hP j1597 1 hj1597 rfl (hM.inN (n := 4) 5 (by decide) rfl rfl hth1348.1) dX7_produce_284 ?_
                                refine lv_topi (fun x1598 ex1598 => ?_)
                                refine lv_iconst (v := 0) hx hb dX7_produce_285 (by decide) ?_
                                refine lv_iload hx hb dX7_produce_286 (lv_at hl 3 rfl) ?_
                                refine lv_iload hx hb dX7_produce_288 (lv_at hl 2 rfl) ?_
                                refine lv_iload hx hb dX7_produce_290 (lv_at hl 3 rfl) ?_
                                refine lv_if_ge (tgt := 299) hx hb dX7_produce_292 (by decide) (fun c1599 => ?_) (fun c1599 => ?_)
                                rotate_left
                                · exact absurd ((xk_le _ _).mpr (by rw [xk_0]; have h9 := vp_in_iff.mp hin1421; omega)) c1599
                                refine lv_iload_n hx hb dX7_produce_299 rfl (lv_at hl 8 rfl) ?_
                                refine lv_iload hx hb dX7_produce_300 (lv_at hl 9 rfl) ?_
                                refine lv_iload hx hb dX7_produce_302 (lv_at hl 10 rfl) ?_
                                refine lv_iload hx hb dX7_produce_304 (lv_at hl 0 rfl) ?_
                                refine lv_if_eq (tgt := 313) hx hb dX7_produce_306 (by decide) (fun c1600 => ?_) (fun c1600 => ?_)
                                rotate_left
                                · exact absurd c1600 (by decide)
                                refine lv_iconst (v := 0) hx hb dX7_produce_313 (by decide) ?_
                                obtain ⟨j1601, hj1601⟩ := wG_6 (cy := cy) (N := N) (T := T) (I := I) (Q := Q) (J := J) (hM.lg hjn1417).1 (hM.lg hjn1417).2
                                have hFc := pfree hD hS hA
                                refine va_callv (va_runV (As := [.int x1598, .int 0, .int v1420, .int v1423, .int xs, .int xk, .int xv, .int 0]) (rest := []) ⟨hx, hb, hml, hown, hts⟩ (c_X6_add l dC dI cy w L K N T Q I J s.heap.size (5 * xp.toNatClampNeg + n1417) x1598 0 v1420 v1423 xs xk xv 0 hM hjn1417 (by omega) (by omega) (by omega) (by omega)) (cwV 8 hts gX7_produce_X6_add rfl rfl rfl (by decide +kernel) ⟨Nat.le_of_ble_eq_true rfl, Nat.le_of_ble_eq_true rfl⟩) ⟨mw_blind, va_recv hK hP (ci := 6) (q0 := j1601) rfl hj1601, fun U hU hW => ⟨rfl, mw_pre hP hK hD hU hW⟩⟩ rfl rfl hl.1 rfl (lv_room (Nat.le_of_ble_eq_true rfl)) dX7_produce_314 ⟨Nat.le_of_ble_eq_true rfl, Nat.le_of_ble_eq_true rfl⟩) hS (fun q _ h => hFc q h) hFc (fun d9 t H1 locs ht hvm hw hB hz1 hk1 hS => ?_)
                                obtain ⟨I1602, J1602⟩ := d9
                                obtain ⟨hP, hK1, hD1⟩ := hB
                                rw [ht] at hP
                                have hD := hD1.weaken (fun _ _ _ h => hFc _ h)
                                generalize H1 = H at hP hS ⊢
                                have hP : va_P (dC, dI) vwCl (va_pl L (wF cy K N T I1602 Q J1602)) H := hP
                                have hD : va_D A (va_pl L (wF cy K N T I1602 Q J1602)) := hD
                                have hw1604 : LW w I J I1602 J1602 (5 * xp.toNatClampNeg + n1417) _ _ := hw
                                have hR : RM w [] I J I1602 J1602 := hR.lw hM hjn1417 hw1604
                                have hMD : MD w J1602 := hMD.lw hM hjn1417 hw1604
                                have hMU : MU w I1602 := hMU.lw hM hjn1417 hw1604
                                have q1hw1604 : (I1602 (w (21 + (5 * xp.toNatClampNeg + n1417))) 1).toInt = _ := hw1604.2.2.1
                                have q2hw1604 : (I1602 (w (21 + (5 * xp.toNatClampNeg + n1417))) 2).toInt = _ := hw1604.2.2.2
                                have q3hw1604 : (I1602 (w (21 + (5 * xp.toNatClampNeg + n1417))) 3).toInt = _ := congrArg Int32.toInt hw1604.f3
                                have q4hw1604 : (I1602 (w (21 + (5 * xp.toNatClampNeg + n1417))) 4).toInt = _ := congrArg Int32.toInt hw1604.f4
                                have hML : ML w (E + 1) I1602 := hML.lw hM hjn1417 hw1604 (by omega) ⟨by omega, by omega, by omega, by omega, by omega, by omega⟩
                                refine lv_iload hx hb dX7_produce_317 (lv_at hl 0 rfl) ?_
                                refine lv_if_eq (tgt := 335) hx hb dX7_produce_319 (by decide) (fun c1605 => ?_) (fun c1605 => ?_)
                                rotate_left
                                · exact absurd c1605 (by decide)
                                refine lv_aload_n hx hb dX7_produce_335 rfl (lv_at hl 5 rfl) ?_
                                refine lv_iload_n hx hb dX7_produce_336 rfl (lv_at hl 6 rfl) ?_
                                obtain ⟨j1606, hj1606⟩ := wG_7 (cy := cy) (N := N) (T := T) (I := I1602) (Q := Q) (J := J1602) (hM.at 0 (by decide)) (hM.k 0 (by decide) rfl)
                                have hFc := pfree hD hS hA
                                refine va_callv (va_runV (As := [.int xp]) (rest := []) ⟨hx, hb, hml, hown, hts⟩ (c_X7_rise l dC dI cy w L K N T Q I1602 J1602 H.size xp hM hth1348.1 (hMD _ (vp_lt (n := 4) hth1348.1))) (cwV 1 hts gX7_produce_X7_rise rfl rfl rfl (by decide +kernel) ⟨Nat.le_of_ble_eq_true rfl, Nat.le_of_ble_eq_true rfl⟩) ⟨mw_blind, va_recv hK hP (ci := 7) (q0 := j1606) rfl hj1606, fun U hU hW => ⟨rfl, mw_pre hP hK hD hU hW⟩⟩ rfl rfl hl.1 rfl (lv_room (Nat.le_of_ble_eq_true rfl)) dX7_produce_337 ⟨Nat.le_of_ble_eq_true rfl, Nat.le_of_ble_eq_true rfl⟩) hS (fun q _ h => hFc q h) hFc (fun d9 t H1 locs ht hvm hw hB hz1 hk1 hS => ?_)
                                obtain ⟨I1607, J1607⟩ := d9
                                obtain ⟨hP, hK1, hD1⟩ := hB
                                rw [ht] at hP
                                have hD := hD1.weaken (fun _ _ _ h => hFc _ h)
                                generalize H1 = H at hP hS ⊢
                                have hP : va_P (dC, dI) vwCl (va_pl L (wF cy K N T I1607 Q J1607)) H := hP
                                have hD : va_D A (va_pl L (wF cy K N T I1607 Q J1607)) := hD
                                have hw1609 : RZ w I1602 J1602 I1607 J1607 xp.toNatClampNeg := hw
                                have hR : RM w [] I J I1607 J1607 := hR.rz hM (vp_lt (n := 4) hth1348.1) hw1609
                                have hMD : MD w J1607 := hMD.rz hw1609
                                have hMU : MU w I1607 := hMU.rz hM (vp_lt (n := 4) hth1348.1) hw1609
                                have hML : ML w (E + 1) I1607 := hML.rz hM (vp_lt (n := 4) hth1348.1) hw1609
                                refine lv_aload hx hb dX7_produce_340 (lv_at hl 4 rfl) ?_
                                obtain ⟨j1610, hj1610⟩ := wG_6 (cy := cy) (N := N) (T := T) (I := I1607) (Q := Q) (J := J1607) (hM.lg hjn1417).1 (hM.lg hjn1417).2
                                refine va_get (D := (dC, dI)) (ci := 6) (v := .int (I1607 (w (21 + (5 * xp.toNatClampNeg + n1417))) 2)) (C := RX6) (T := TX6) (N := 7) hx hb hts hi6 hown hK hP j1610 hj1610 rfl 2 (by decide) (hts (.fieldLink RX7 89 "TallyLogsModel$Log" "end" "I") (by decide +kernel)) (fun _ h9 => h9) rfl dX7_produce_342 ?_
                                refine lv_topi (fun x1611 ex1611 => ?_)
                                have tx1611 : x1611.toInt = (I1607 (w (21 + (5 * xp.toNatClampNeg + n1417))) 2).toInt := congrArg Int32.toInt ex1611
                                refine lv_iconst (v := 1) hx hb dX7_produce_345 (by decide) ?_
                                refine lv_isub hx hb dX7_produce_346 ?_
                                refine lv_topi (fun v1612 ev1612 => ?_)
                                rw [hQz]
                                exact W.iret (v := v1612) hx hb hr (fun t ht hW => ⟨⟨v1612, (I1607, J1607), rfl, ⟨⟨hML.mono (by omega), hMD, hMU⟩, hR⟩, by rw [ht]; exact hP, va_K.moved hW.alike hK, hD⟩, hS.F ht⟩) hS.2.2 dX7_produce_347
                              · have kc1595 : x1594.toInt = 1 := by have h9 := c1595; rw [xk_eq, xk_1] at h9; exact h9
                                refine lv_iconst (v := 1) hx hb dX7_produce_270 (by decide) ?_
                                refine lv_goto (tgt := 275) hx hb dX7_produce_271 (by decide) ?_
                                refine lv_istore (lv' := [(10, .int 1), (11, .int y1577), (9, .int v1423), (8, .int v1420), (7, .ref (w (21 + (5 * xp.toNatClampNeg + n1417)))), (0, .ref (w 0)), (1, .int xp), (2, .int xh), (3, .int xs), (4, .int xk), (5, .int xv), (6, .int al)]) hx hb dX7_produce_275 hl (by decide) rfl (fun ls hl => ?_)
                                refine lv_aload hx hb dX7_produce_277 (lv_at hl 4 rfl) ?_
                                refine lv_aload_n hx hb dX7_produce_279 rfl (lv_at hl 5 rfl) ?_
                                obtain ⟨j1613, hj1613⟩ := wG_7 (cy := cy) (N := N) (T := T) (I := I) (Q := Q) (J := J) (hM.at 0 (by decide)) (hM.k 0 (by decide) rfl)
                                refine va_get (D := (dC, dI)) (ci := 7) (v := .ref (T (w 0) 4)) (C := RX7) (T := TX7) (N := 18) hx hb hts hi7 hown hK hP j1613 hj1613 rfl 4 (by decide) (hts (.fieldLink RX7 25 "TallyLogsModel" "epoch" "[I") (by decide +kernel)) (fun _ h9 => h9) rfl dX7_produce_280 ?_
                                refine W.eq (g2 := F0 m 283 ls [.ref (w 5), .ref (w (21 + (5 * xp.toNatClampNeg + n1417)))]) (by rw [hM.t 4 (by decide)]) ?_
                                refine lv_iload_n hx hb dX7_produce_283 rfl (lv_at hl 6 rfl) ?_
                                obtain ⟨j1614, hj1614⟩ := wG_20 (cy := cy) (N := N) (T := T) (I := I) (Q := Q) (J := J) (hM.at 5 (by decide)) (hM.k 5 (by decide) rfl)
                                refine va_iald hx hb hK hP j1614 1 hj1614 rfl (hM.inN (n := 4) 5 (by decide) rfl rfl hth1348.1) dX7_produce_284 ?_
                                refine lv_topi (fun x1615 ex1615 => ?_)
                                refine lv_iconst (v := 0) hx hb dX7_produce_285 (by decide) ?_
                                refine lv_iload hx hb dX7_produce_286 (lv_at hl 3 rfl) ?_
                                refine lv_iload hx hb dX7_produce_288 (lv_at hl 2 rfl) ?_
                                refine lv_iload hx hb dX7_produce_290 (lv_at hl 3 rfl) ?_
                                refine lv_if_ge (tgt := 299) hx hb dX7_produce_292 (by decide) (fun c1616 => ?_) (fun c1616 => ?_)
                                rotate_left
                                · exact absurd ((xk_le _ _).mpr (by rw [xk_0]; have h9 := vp_in_iff.mp hin1421; omega)) c1616
                                refine lv_iload_n hx hb dX7_produce_299 rfl (lv_at hl 8 rfl) ?_
                                refine lv_iload hx hb dX7_produce_300 (lv_at hl 9 rfl) ?_
                                refine lv_iload hx hb dX7_produce_302 (lv_at hl 10 rfl) ?_
                                refine lv_iload hx hb dX7_produce_304 (lv_at hl 0 rfl) ?_
                                refine lv_if_eq (tgt := 313) hx hb dX7_produce_306 (by decide) (fun c1617 => ?_) (fun c1617 => ?_)
                                · exact absurd c1617 (by decide)
                                refine lv_iconst (v := 1) hx hb dX7_produce_309 (by decide) ?_
                                refine lv_goto (tgt := 314) hx hb dX7_produce_310 (by decide) ?_
                                obtain ⟨j1618, hj1618⟩ := wG_6 (cy := cy) (N := N) (T := T) (I := I) (Q := Q) (J := J) (hM.lg hjn1417).1 (hM.lg hjn1417).2
                                have hFc := pfree hD hS hA
                                refine va_callv (va_runV (As := [.int x1615, .int 0, .int v1420, .int v1423, .int xs, .int xk, .int xv, .int 1]) (rest := []) ⟨hx, hb, hml, hown, hts⟩ (c_X6_add l dC dI cy w L K N T Q I J s.heap.size (5 * xp.toNatClampNeg + n1417) x1615 0 v1420 v1423 xs xk xv 1 hM hjn1417 (by omega) (by omega) (by omega) (by omega)) (cwV 8 hts gX7_produce_X6_add rfl rfl rfl (by decide +kernel) ⟨Nat.le_of_ble_eq_true rfl, Nat.le_of_ble_eq_true rfl⟩) ⟨mw_blind, va_recv hK hP (ci := 6) (q0 := j1618) rfl hj1618, fun U hU hW => ⟨rfl, mw_pre hP hK hD hU hW⟩⟩ rfl rfl hl.1 rfl (lv_room (Nat.le_of_ble_eq_true rfl)) dX7_produce_314 ⟨Nat.le_of_ble_eq_true rfl, Nat.le_of_ble_eq_true rfl⟩) hS (fun q _ h => hFc q h) hFc (fun d9 t H1 locs ht hvm hw hB hz1 hk1 hS => ?_)
                                obtain ⟨I1619, J1619⟩ := d9
                                obtain ⟨hP, hK1, hD1⟩ := hB
                                rw [ht] at hP
                                have hD := hD1.weaken (fun _ _ _ h => hFc _ h)
                                generalize H1 = H at hP hS ⊢
                                have hP : va_P (dC, dI) vwCl (va_pl L (wF cy K N T I1619 Q J1619)) H := hP
                                have hD : va_D A (va_pl L (wF cy K N T I1619 Q J1619)) := hD
                                have hw1621 : LW w I J I1619 J1619 (5 * xp.toNatClampNeg + n1417) _ _ := hw
                                have hR : RM w [] I J I1619 J1619 := hR.lw hM hjn1417 hw1621
                                have hMD : MD w J1619 := hMD.lw hM hjn1417 hw1621
                                have hMU : MU w I1619 := hMU.lw hM hjn1417 hw1621
                                have q1hw1621 : (I1619 (w (21 + (5 * xp.toNatClampNeg + n1417))) 1).toInt = _ := hw1621.2.2.1
                                have q2hw1621 : (I1619 (w (21 + (5 * xp.toNatClampNeg + n1417))) 2).toInt = _ := hw1621.2.2.2
                                have q3hw1621 : (I1619 (w (21 + (5 * xp.toNatClampNeg + n1417))) 3).toInt = _ := congrArg Int32.toInt hw1621.f3
                                have q4hw1621 : (I1619 (w (21 + (5 * xp.toNatClampNeg + n1417))) 4).toInt = _ := congrArg Int32.toInt hw1621.f4
                                have hML : ML w (E + 1) I1619 := hML.lw hM hjn1417 hw1621 (by omega) ⟨by omega, by omega, by omega, by omega, by omega, by omega⟩
                                refine lv_iload hx hb dX7_produce_317 (lv_at hl 0 rfl) ?_
                                refine lv_if_eq (tgt := 335) hx hb dX7_produce_319 (by decide) (fun c1622 => ?_) (fun c1622 => ?_)
                                · exact absurd c1622 (by decide)
                                refine lv_aload_n hx hb dX7_produce_322 rfl (lv_at hl 5 rfl) ?_
                                obtain ⟨j1623, hj1623⟩ := wG_7 (cy := cy) (N := N) (T := T) (I := I1619) (Q := Q) (J := J1619) (hM.at 0 (by decide)) (hM.k 0 (by decide) rfl)
                                refine va_get (D := (dC, dI)) (ci := 7) (v := .ref (T (w 0) 9)) (C := RX7) (T := TX7) (N := 18) hx hb hts hi7 hown hK hP j1623 hj1623 rfl 9 (by decide) (hts (.fieldLink RX7 40 "TallyLogsModel" "bound" "[I") (by decide +kernel)) (fun _ h9 => h9) rfl dX7_produce_323 ?_
                                refine W.eq (g2 := F0 m 326 ls [.ref (w 10)]) (by rw [hM.t 9 (by decide)]) ?_
                                refine lv_iload hx hb dX7_produce_326 (lv_at hl 3 rfl) ?_
                                refine lv_dup2_11 hx hb dX7_produce_328 rfl rfl ?_
                                obtain ⟨j1624, hj1624⟩ := wG_20 (cy := cy) (N := N) (T := T) (I := I1619) (Q := Q) (J := J1619) (hM.at 10 (by decide)) (hM.k 10 (by decide) rfl)
                                refine va_iald hx hb hK hP j1624 1 hj1624 rfl (hM.inN (n := 6) 10 (by decide) rfl rfl hin1421) dX7_produce_329 ?_
                                refine lv_topi (fun x1625 ex1625 => ?_)
                                refine lv_iconst (v := 1) hx hb dX7_produce_330 (by decide) ?_
                                refine lv_iload_n hx hb dX7_produce_331 rfl (lv_at hl 6 rfl) ?_
                                refine lv_ishl hx hb dX7_produce_332 ?_
                                refine lv_topi (fun v1626 ev1626 => ?_)
                                refine lv_ior hx hb dX7_produce_333 ?_
                                refine lv_topi (fun v1627 ev1627 => ?_)
                                obtain ⟨j1628, hj1628⟩ := wG_20 (cy := cy) (N := N) (T := T) (I := I1619) (Q := Q) (J := J1619) (hM.at 10 (by decide)) (hM.k 10 (by decide) rfl)
                                have hDo := hD
                                refine va_iast (x := v1627) hx hb hK hP hD hS j1628 1 hj1628 rfl (hM.inN (n := 6) 10 (by decide) rfl rfl hin1421) dX7_produce_334 (fun H locs hP hD hS => ?_)
                                have hP := Eq.mp (congrArg (fun w => va_P (dC, dI) vwCl w H) (wS_20 hDo (hM.at 10 (by decide)) (hM.k 10 (by decide) rfl) hj1628)) hP
                                obtain ⟨J1629, eJ1629⟩ : ∃ z, z = va_up J1619 (w 10) (upd (J1619 (w 10)) v1420.toNatClampNeg v1627) := ⟨_, rfl⟩
                                rw [← eJ1629] at hP
                                have hR : RM w [] I J I1619 J1629 := by rw [eJ1629]; exact hR.pj hM (by decide) (by decide)
                                have hMD : MD w J1629 := by rw [eJ1629]; exact hMD.pj hM (by decide) (by decide)
                                have hD : va_D A (va_pl L (wF cy K N T I1619 Q J1629)) := pD hDo
                                refine lv_aload_n hx hb dX7_produce_335 rfl (lv_at hl 5 rfl) ?_
                                refine lv_iload_n hx hb dX7_produce_336 rfl (lv_at hl 6 rfl) ?_
                                obtain ⟨j1630, hj1630⟩ := wG_7 (cy := cy) (N := N) (T := T) (I := I1619) (Q := Q) (J := J1629) (hM.at 0 (by decide)) (hM.k 0 (by decide) rfl)
                                have hFc := pfree hD hS hA
                                refine va_callv (va_runV (As := [.int xp]) (rest := []) ⟨hx, hb, hml, hown, hts⟩ (c_X7_rise l dC dI cy w L K N T Q I1619 J1629 H.size xp hM hth1348.1 (hMD _ (vp_lt (n := 4) hth1348.1))) (cwV 1 hts gX7_produce_X7_rise rfl rfl rfl (by decide +kernel) ⟨Nat.le_of_ble_eq_true rfl, Nat.le_of_ble_eq_true rfl⟩) ⟨mw_blind, va_recv hK hP (ci := 7) (q0 := j1630) rfl hj1630, fun U hU hW => ⟨rfl, mw_pre hP hK hD hU hW⟩⟩ rfl rfl hl.1 rfl (lv_room (Nat.le_of_ble_eq_true rfl)) dX7_produce_337 ⟨Nat.le_of_ble_eq_true rfl, Nat.le_of_ble_eq_true rfl⟩) hS (fun q _ h => hFc q h) hFc (fun d9 t H1 locs ht hvm hw hB hz1 hk1 hS => ?_)
                                obtain ⟨I1631, J1631⟩ := d9
                                obtain ⟨hP, hK1, hD1⟩ := hB
                                rw [ht] at hP
                                have hD := hD1.weaken (fun _ _ _ h => hFc _ h)
                                generalize H1 = H at hP hS ⊢
                                have hP : va_P (dC, dI) vwCl (va_pl L (wF cy K N T I1631 Q J1631)) H := hP
                                have hD : va_D A (va_pl L (wF cy K N T I1631 Q J1631)) := hD
                                have hw1633 : RZ w I1619 J1629 I1631 J1631 xp.toNatClampNeg := hw
                                have hR : RM w [] I J I1631 J1631 := hR.rz hM (vp_lt (n := 4) hth1348.1) hw1633
                                have hMD : MD w J1631 := hMD.rz hw1633
                                have hMU : MU w I1631 := hMU.rz hM (vp_lt (n := 4) hth1348.1) hw1633
                                have hML : ML w (E + 1) I1631 := hML.rz hM (vp_lt (n := 4) hth1348.1) hw1633
                                refine lv_aload hx hb dX7_produce_340 (lv_at hl 4 rfl) ?_
                                obtain ⟨j1634, hj1634⟩ := wG_6 (cy := cy) (N := N) (T := T) (I := I1631) (Q := Q) (J := J1631) (hM.lg hjn1417).1 (hM.lg hjn1417).2
                                refine va_get (D := (dC, dI)) (ci := 6) (v := .int (I1631 (w (21 + (5 * xp.toNatClampNeg + n1417))) 2)) (C := RX6) (T := TX6) (N := 7) hx hb hts hi6 hown hK hP j1634 hj1634 rfl 2 (by decide) (hts (.fieldLink RX7 89 "TallyLogsModel$Log" "end" "I") (by decide +kernel)) (fun _ h9 => h9) rfl dX7_produce_342 ?_
                                refine lv_topi (fun x1635 ex1635 => ?_)
                                have tx1635 : x1635.toInt = (I1631 (w (21 + (5 * xp.toNatClampNeg + n1417))) 2).toInt := congrArg Int32.toInt ex1635
                                refine lv_iconst (v := 1) hx hb dX7_produce_345 (by decide) ?_
                                refine lv_isub hx hb dX7_produce_346 ?_
                                refine lv_topi (fun v1636 ev1636 => ?_)
                                rw [hQz]
                                exact W.iret (v := v1636) hx hb hr (fun t ht hW => ⟨⟨v1636, (I1631, J1631), rfl, ⟨⟨hML.mono (by omega), hMD, hMU⟩, hR⟩, by rw [ht]; exact hP, va_K.moved hW.alike hK, hD⟩, hS.F ht⟩) hS.2.2 dX7_produce_347
                            · have kc1590 : r1587.toInt = 60 := by have h9 := c1590; rw [xk_eq, (show (60 : Int32).toInt = 60 by decide)] at h9; exact h9
                              refine lv_bipush (v := (-3)) hx hb dX7_produce_251 (by decide) ?_
                              rw [hQz]
                              exact W.iret (v := (-3)) hx hb hr (fun t ht hW => ⟨⟨(-3), (I, J), rfl, ⟨⟨hML.mono (by omega), hMD, hMU⟩, hR⟩, by rw [ht]; exact hP, va_K.moved hW.alike hK, hD⟩, hS.F ht⟩) hS.2.2 dX7_produce_253
                          · have kc1586 : ¬ (xs.toInt = v1585.toInt) := by have h9 := c1586; rw [xk_eq] at h9; exact h9
                            refine lv_bipush (v := (-6)) hx hb dX7_produce_238 (by decide) ?_
                            rw [hQz]
                            exact W.iret (v := (-6)) hx hb hr (fun t ht hW => ⟨⟨(-6), (I, J), rfl, ⟨⟨hML.mono (by omega), hMD, hMU⟩, hR⟩, by rw [ht]; exact hP, va_K.moved hW.alike hK, hD⟩, hS.F ht⟩) hS.2.2 dX7_produce_240
                        · have kc1582 : ¬ (0 ≤ y1578.toInt) := by have h9 := c1582; rw [xk_le, xk_0] at h9; exact h9
                          refine lv_iload_n hx hb dX7_produce_217 rfl (lv_at hl 8 rfl) ?_
                          refine lv_if_eq (tgt := 241) hx hb dX7_produce_218 (by decide) (fun c1637 => ?_) (fun c1637 => ?_)
                          · have kc1637 : xs.toInt = 0 := by have h9 := c1637; rw [xk_eq, xk_0] at h9; exact h9
                            refine lv_aload hx hb dX7_produce_241 (lv_at hl 4 rfl) ?_
                            obtain ⟨j1639, hj1639⟩ := wG_6 (cy := cy) (N := N) (T := T) (I := I) (Q := Q) (J := J) (hM.lg hjn1417).1 (hM.lg hjn1417).2
                            refine vp_callSi (W.runV (As := []) (rest := []) ⟨hx, hb, hml, hown, hts⟩ (c_X6_many l dC dI cy w L K N T Q I J (5 * xp.toNatClampNeg + n1417) hM hjn1417) (cwV 0 hts gX7_produce_X6_many rfl rfl rfl (by decide +kernel) ⟨Nat.le_of_ble_eq_true rfl, Nat.le_of_ble_eq_true rfl⟩) ⟨mb_blind, va_recv hK hP (ci := 6) (q0 := j1639) rfl hj1639, fun U hU hW => ⟨rfl, mb_pre hP hK hU hW⟩⟩ rfl rfl hl.1 rfl (lv_room (Nat.le_of_ble_eq_true rfl)) dX7_produce_243 ⟨Nat.le_of_ble_eq_true rfl, Nat.le_of_ble_eq_true rfl⟩) (fun r1638 hr1638 => ?_)
                            obtain ⟨ha1640, hb1640, hc1640, hd1640, he1640, hf1640⟩ := hML (5 * xp.toNatClampNeg + n1417) hjn1417
                            have tr1638 : r1638.toInt = (I (w (21 + (5 * xp.toNatClampNeg + n1417))) 2).toInt - (I (w (21 + (5 * xp.toNatClampNeg + n1417))) 1).toInt := by rw [hr1638]; exact xsub (by omega) (by omega)
                            refine lv_bipush (v := 60) hx hb dX7_produce_246 (by decide) ?_
                            refine lv_icmp_ne (tgt := 254) hx hb dX7_produce_248 (by decide) (fun c1641 => ?_) (fun c1641 => ?_)
                            · have kc1641 : ¬ (r1638.toInt = 60) := by have h9 := c1641; rw [xk_eq, (show (60 : Int32).toInt = 60 by decide)] at h9; exact h9
                              refine lv_iload hx hb dX7_produce_254 (lv_at hl 3 rfl) ?_
                              refine lv_if_lt (tgt := 274) hx hb dX7_produce_256 (by decide) (fun c1642 => ?_) (fun c1642 => ?_)
                              · exact absurd ((xk_lt _ _).mp c1642) (by rw [xk_0]; have h9 := vp_in_iff.mp hin1421; omega)
                              refine lv_aload_n hx hb dX7_produce_259 rfl (lv_at hl 5 rfl) ?_
                              obtain ⟨j1643, hj1643⟩ := wG_7 (cy := cy) (N := N) (T := T) (I := I) (Q := Q) (J := J) (hM.at 0 (by decide)) (hM.k 0 (by decide) rfl)
                              refine va_get (D := (dC, dI)) (ci := 7) (v := .ref (T (w 0) 8)) (C := RX7) (T := TX7) (N := 18) hx hb hts hi7 hown hK hP j1643 hj1643 rfl 8 (by decide) (hts (.fieldLink RX7 37 "TallyLogsModel" "mode" "[I") (by decide +kernel)) (fun _ h9 => h9) rfl dX7_produce_260 ?_
                              refine W.eq (g2 := F0 m 263 ls [.ref (w 9)]) (by rw [hM.t 8 (by decide)]) ?_
                              refine lv_iload hx hb dX7_produce_263 (lv_at hl 3 rfl) ?_
                              obtain ⟨j1644, hj1644⟩ := wG_20 (cy := cy) (N := N) (T := T) (I := I) (Q := Q) (J := J) (hM.at 9 (by decide)) (hM.k 9 (by decide) rfl)
                              refine va_iald hx hb hK hP j1644 1 hj1644 rfl (hM.inN (n := 6) 9 (by decide) rfl rfl hin1421) dX7_produce_265 ?_
                              refine lv_topi (fun x1645 ex1645 => ?_)
                              refine lv_iconst (v := 1) hx hb dX7_produce_266 (by decide) ?_
                              refine lv_icmp_ne (tgt := 274) hx hb dX7_produce_267 (by decide) (fun c1646 => ?_) (fun c1646 => ?_)
                              · have kc1646 : ¬ (x1645.toInt = 1) := by have h9 := c1646; rw [xk_eq, xk_1] at h9; exact h9
                                refine lv_iconst (v := 0) hx hb dX7_produce_274 (by decide) ?_
                                refine lv_istore (lv' := [(10, .int 0), (11, .int y1577), (9, .int v1423), (8, .int v1420), (7, .ref (w (21 + (5 * xp.toNatClampNeg + n1417)))), (0, .ref (w 0)), (1, .int xp), (2, .int xh), (3, .int xs), (4, .int xk), (5, .int xv), (6, .int al)]) hx hb dX7_produce_275 hl (by decide) rfl (fun ls hl => ?_)
                                refine lv_aload hx hb dX7_produce_277 (lv_at hl 4 rfl) ?_
                                refine lv_aload_n hx hb dX7_produce_279 rfl (lv_at hl 5 rfl) ?_
                                obtain ⟨j1647, hj1647⟩ := wG_7 (cy := cy) (N := N) (T := T) (I := I) (Q := Q) (J := J) (hM.at 0 (by decide)) (hM.k 0 (by decide) rfl)
                                refine va_get (D := (dC, dI)) (ci := 7) (v := .ref (T (w 0) 4)) (C := RX7) (T := TX7) (N := 18) hx hb hts hi7 hown hK hP j1647 hj1647 rfl 4 (by decide) (hts (.fieldLink RX7 25 "TallyLogsModel" "epoch" "[I") (by decide +kernel)) (fun _ h9 => h9) rfl dX7_produce_280 ?_
                                refine W.eq (g2 := F0 m 283 ls [.ref (w 5), .ref (w (21 + (5 * xp.toNatClampNeg + n1417)))]) (by rw [hM.t 4 (by decide)]) ?_
                                refine lv_iload_n hx hb dX7_produce_283 rfl (lv_at hl 6 rfl) ?_
                                obtain ⟨j1648, hj1648⟩ := wG_20 (cy := cy) (N := N) (T := T) (I := I) (Q := Q) (J := J) (hM.at 5 (by decide)) (hM.k 5 (by decide) rfl)
                                refine va_iald hx hb hK hP j1648 1 hj1648 rfl (hM.inN (n := 4) 5 (by decide) rfl rfl hth1348.1) dX7_produce_284 ?_
                                refine lv_topi (fun x1649 ex1649 => ?_)
                                refine lv_iconst (v := 0) hx hb dX7_produce_285 (by decide) ?_
                                refine lv_iload hx hb dX7_produce_286 (lv_at hl 3 rfl) ?_
                                refine lv_iload hx hb dX7_produce_288 (lv_at hl 2 rfl) ?_
                                refine lv_iload hx hb dX7_produce_290 (lv_at hl 3 rfl) ?_
                                refine lv_if_ge (tgt := 299) hx hb dX7_produce_292 (by decide) (fun c1650 => ?_) (fun c1650 => ?_)
                                rotate_left
                                · exact absurd ((xk_le _ _).mpr (by rw [xk_0]; have h9 := vp_in_iff.mp hin1421; omega)) c1650
                                refine lv_iload_n hx hb dX7_produce_299 rfl (lv_at hl 8 rfl) ?_
                                refine lv_iload hx hb dX7_produce_300 (lv_at hl 9 rfl) ?_
                                refine lv_iload hx hb dX7_produce_302 (lv_at hl 10 rfl) ?_
                                refine lv_iload hx hb dX7_produce_304 (lv_at hl 0 rfl) ?_
                                refine lv_if_eq (tgt := 313) hx hb dX7_produce_306 (by decide) (fun c1651 => ?_) (fun c1651 => ?_)
                                rotate_left
                                · exact absurd c1651 (by decide)
                                refine lv_iconst (v := 0) hx hb dX7_produce_313 (by decide) ?_
                                obtain ⟨j1652, hj1652⟩ := wG_6 (cy := cy) (N := N) (T := T) (I := I) (Q := Q) (J := J) (hM.lg hjn1417).1 (hM.lg hjn1417).2
                                have hFc := pfree hD hS hA
                                refine va_callv (va_runV (As := [.int x1649, .int 0, .int v1420, .int v1423, .int xs, .int xk, .int xv, .int 0]) (rest := []) ⟨hx, hb, hml, hown, hts⟩ (c_X6_add l dC dI cy w L K N T Q I J s.heap.size (5 * xp.toNatClampNeg + n1417) x1649 0 v1420 v1423 xs xk xv 0 hM hjn1417 (by omega) (by omega) (by omega) (by omega)) (cwV 8 hts gX7_produce_X6_add rfl rfl rfl (by decide +kernel) ⟨Nat.le_of_ble_eq_true rfl, Nat.le_of_ble_eq_true rfl⟩) ⟨mw_blind, va_recv hK hP (ci := 6) (q0 := j1652) rfl hj1652, fun U hU hW => ⟨rfl, mw_pre hP hK hD hU hW⟩⟩ rfl rfl hl.1 rfl (lv_room (Nat.le_of_ble_eq_true rfl)) dX7_produce_314 ⟨Nat.le_of_ble_eq_true rfl, Nat.le_of_ble_eq_true rfl⟩) hS (fun q _ h => hFc q h) hFc (fun d9 t H1 locs ht hvm hw hB hz1 hk1 hS => ?_)
                                obtain ⟨I1653, J1653⟩ := d9
                                obtain ⟨hP, hK1, hD1⟩ := hB
                                rw [ht] at hP
                                have hD := hD1.weaken (fun _ _ _ h => hFc _ h)
                                generalize H1 = H at hP hS ⊢
                                have hP : va_P (dC, dI) vwCl (va_pl L (wF cy K N T I1653 Q J1653)) H := hP
                                have hD : va_D A (va_pl L (wF cy K N T I1653 Q J1653)) := hD
                                have hw1655 : LW w I J I1653 J1653 (5 * xp.toNatClampNeg + n1417) _ _ := hw
                                have hR : RM w [] I J I1653 J1653 := hR.lw hM hjn1417 hw1655
                                have hMD : MD w J1653 := hMD.lw hM hjn1417 hw1655
                                have hMU : MU w I1653 := hMU.lw hM hjn1417 hw1655
                                have q1hw1655 : (I1653 (w (21 + (5 * xp.toNatClampNeg + n1417))) 1).toInt = _ := hw1655.2.2.1
                                have q2hw1655 : (I1653 (w (21 + (5 * xp.toNatClampNeg + n1417))) 2).toInt = _ := hw1655.2.2.2
                                have q3hw1655 : (I1653 (w (21 + (5 * xp.toNatClampNeg + n1417))) 3).toInt = _ := congrArg Int32.toInt hw1655.f3
                                have q4hw1655 : (I1653 (w (21 + (5 * xp.toNatClampNeg + n1417))) 4).toInt = _ := congrArg Int32.toInt hw1655.f4
                                have hML : ML w (E + 1) I1653 := hML.lw hM hjn1417 hw1655 (by omega) ⟨by omega, by omega, by omega, by omega, by omega, by omega⟩
                                refine lv_iload hx hb dX7_produce_317 (lv_at hl 0 rfl) ?_
                                refine lv_if_eq (tgt := 335) hx hb dX7_produce_319 (by decide) (fun c1656 => ?_) (fun c1656 => ?_)
                                rotate_left
                                · exact absurd c1656 (by decide)
                                refine lv_aload_n hx hb dX7_produce_335 rfl (lv_at hl 5 rfl) ?_
                                refine lv_iload_n hx hb dX7_produce_336 rfl (lv_at hl 6 rfl) ?_
                                obtain ⟨j1657, hj1657⟩ := wG_7 (cy := cy) (N := N) (T := T) (I := I1653) (Q := Q) (J := J1653) (hM.at 0 (by decide)) (hM.k 0 (by decide) rfl)
                                have hFc := pfree hD hS hA
                                refine va_callv (va_runV (As := [.int xp]) (rest := []) ⟨hx, hb, hml, hown, hts⟩ (c_X7_rise l dC dI cy w L K N T Q I1653 J1653 H.size xp hM hth1348.1 (hMD _ (vp_lt (n := 4) hth1348.1))) (cwV 1 hts gX7_produce_X7_rise rfl rfl rfl (by decide +kernel) ⟨Nat.le_of_ble_eq_true rfl, Nat.le_of_ble_eq_true rfl⟩) ⟨mw_blind, va_recv hK hP (ci := 7) (q0 := j1657) rfl hj1657, fun U hU hW => ⟨rfl, mw_pre hP hK hD hU hW⟩⟩ rfl rfl hl.1 rfl (lv_room (Nat.le_of_ble_eq_true rfl)) dX7_produce_337 ⟨Nat.le_of_ble_eq_true rfl, Nat.le_of_ble_eq_true rfl⟩) hS (fun q _ h => hFc q h) hFc (fun d9 t H1 locs ht hvm hw hB hz1 hk1 hS => ?_)
                                obtain ⟨I1658, J1658⟩ := d9
                                obtain ⟨hP, hK1, hD1⟩ := hB
                                rw [ht] at hP
                                have hD := hD1.weaken (fun _ _ _ h => hFc _ h)
                                generalize H1 = H at hP hS ⊢
                                have hP : va_P (dC, dI) vwCl (va_pl L (wF cy K N T I1658 Q J1658)) H := hP
                                have hD : va_D A (va_pl L (wF cy K N T I1658 Q J1658)) := hD
                                have hw1660 : RZ w I1653 J1653 I1658 J1658 xp.toNatClampNeg := hw
                                have hR : RM w [] I J I1658 J1658 := hR.rz hM (vp_lt (n := 4) hth1348.1) hw1660
                                have hMD : MD w J1658 := hMD.rz hw1660
                                have hMU : MU w I1658 := hMU.rz hM (vp_lt (n := 4) hth1348.1) hw1660
                                have hML : ML w (E + 1) I1658 := hML.rz hM (vp_lt (n := 4) hth1348.1) hw1660
                                refine lv_aload hx hb dX7_produce_340 (lv_at hl 4 rfl) ?_
                                obtain ⟨j1661, hj1661⟩ := wG_6 (cy := cy) (N := N) (T := T) (I := I1658) (Q := Q) (J := J1658) (hM.lg hjn1417).1 (hM.lg hjn1417).2
                                refine va_get (D := (dC, dI)) (ci := 6) (v := .int (I1658 (w (21 + (5 * xp.toNatClampNeg + n1417))) 2)) (C := RX6) (T := TX6) (N := 7) hx hb hts hi6 hown hK hP j1661 hj1661 rfl 2 (by decide) (hts (.fieldLink RX7 89 "TallyLogsModel$Log" "end" "I") (by decide +kernel)) (fun _ h9 => h9) rfl dX7_produce_342 ?_
                                refine lv_topi (fun x1662 ex1662 => ?_)
                                have tx1662 : x1662.toInt = (I1658 (w (21 + (5 * xp.toNatClampNeg + n1417))) 2).toInt := congrArg Int32.toInt ex1662
                                refine lv_iconst (v := 1) hx hb dX7_produce_345 (by decide) ?_
                                refine lv_isub hx hb dX7_produce_346 ?_
                                refine lv_topi (fun v1663 ev1663 => ?_)
                                rw [hQz]
                                exact W.iret (v := v1663) hx hb hr (fun t ht hW => ⟨⟨v1663, (I1658, J1658), rfl, ⟨⟨hML.mono (by omega), hMD, hMU⟩, hR⟩, by rw [ht]; exact hP, va_K.moved hW.alike hK, hD⟩, hS.F ht⟩) hS.2.2 dX7_produce_347
                              · have kc1646 : x1645.toInt = 1 := by have h9 := c1646; rw [xk_eq, xk_1] at h9; exact h9
                                refine lv_iconst (v := 1) hx hb dX7_produce_270 (by decide) ?_
                                refine lv_goto (tgt := 275) hx hb dX7_produce_271 (by decide) ?_
                                refine lv_istore (lv' := [(10, .int 1), (11, .int y1577), (9, .int v1423), (8, .int v1420), (7, .ref (w (21 + (5 * xp.toNatClampNeg + n1417)))), (0, .ref (w 0)), (1, .int xp), (2, .int xh), (3, .int xs), (4, .int xk), (5, .int xv), (6, .int al)]) hx hb dX7_produce_275 hl (by decide) rfl (fun ls hl => ?_)
                                refine lv_aload hx hb dX7_produce_277 (lv_at hl 4 rfl) ?_
                                refine lv_aload_n hx hb dX7_produce_279 rfl (lv_at hl 5 rfl) ?_
                                obtain ⟨j1664, hj1664⟩ := wG_7 (cy := cy) (N := N) (T := T) (I := I) (Q := Q) (J := J) (hM.at 0 (by decide)) (hM.k 0 (by decide) rfl)
                                refine va_get (D := (dC, dI)) (ci := 7) (v := .ref (T (w 0) 4)) (C := RX7) (T := TX7) (N := 18) hx hb hts hi7 hown hK hP j1664 hj1664 rfl 4 (by decide) (hts (.fieldLink RX7 25 "TallyLogsModel" "epoch" "[I") (by decide +kernel)) (fun _ h9 => h9) rfl dX7_produce_280 ?_
                                refine W.eq (g2 := F0 m 283 ls [.ref (w 5), .ref (w (21 + (5 * xp.toNatClampNeg + n1417)))]) (by rw [hM.t 4 (by decide)]) ?_
                                refine lv_iload_n hx hb dX7_produce_283 rfl (lv_at hl 6 rfl) ?_
                                obtain ⟨j1665, hj1665⟩ := wG_20 (cy := cy) (N := N) (T := T) (I := I) (Q := Q) (J := J) (hM.at 5 (by decide)) (hM.k 5 (by decide) rfl)
                                refine va_iald hx hb hK hP j1665 1 hj1665 rfl (hM.inN (n := 4) 5 (by decide) rfl rfl hth1348.1) dX7_produce_284 ?_
                                refine lv_topi (fun x1666 ex1666 => ?_)
                                refine lv_iconst (v := 0) hx hb dX7_produce_285 (by decide) ?_
                                refine lv_iload hx hb dX7_produce_286 (lv_at hl 3 rfl) ?_
                                refine lv_iload hx hb dX7_produce_288 (lv_at hl 2 rfl) ?_
                                refine lv_iload hx hb dX7_produce_290 (lv_at hl 3 rfl) ?_
                                refine lv_if_ge (tgt := 299) hx hb dX7_produce_292 (by decide) (fun c1667 => ?_) (fun c1667 => ?_)
                                rotate_left
                                · exact absurd ((xk_le _ _).mpr (by rw [xk_0]; have h9 := vp_in_iff.mp hin1421; omega)) c1667
                                refine lv_iload_n hx hb dX7_produce_299 rfl (lv_at hl 8 rfl) ?_
                                refine lv_iload hx hb dX7_produce_300 (lv_at hl 9 rfl) ?_
                                refine lv_iload hx hb dX7_produce_302 (lv_at hl 10 rfl) ?_
                                refine lv_iload hx hb dX7_produce_304 (lv_at hl 0 rfl) ?_
                                refine lv_if_eq (tgt := 313) hx hb dX7_produce_306 (by decide) (fun c1668 => ?_) (fun c1668 => ?_)
                                · exact absurd c1668 (by decide)
                                refine lv_iconst (v := 1) hx hb dX7_produce_309 (by decide) ?_
                                refine lv_goto (tgt := 314) hx hb dX7_produce_310 (by decide) ?_
                                obtain ⟨j1669, hj1669⟩ := wG_6 (cy := cy) (N := N) (T := T) (I := I) (Q := Q) (J := J) (hM.lg hjn1417).1 (hM.lg hjn1417).2
                                have hFc := pfree hD hS hA
                                refine va_callv (va_runV (As := [.int x1666, .int 0, .int v1420, .int v1423, .int xs, .int xk, .int xv, .int 1]) (rest := []) ⟨hx, hb, hml, hown, hts⟩ (c_X6_add l dC dI cy w L K N T Q I J s.heap.size (5 * xp.toNatClampNeg + n1417) x1666 0 v1420 v1423 xs xk xv 1 hM hjn1417 (by omega) (by omega) (by omega) (by omega)) (cwV 8 hts gX7_produce_X6_add rfl rfl rfl (by decide +kernel) ⟨Nat.le_of_ble_eq_true rfl, Nat.le_of_ble_eq_true rfl⟩) ⟨mw_blind, va_recv hK hP (ci := 6) (q0 := j1669) rfl hj1669, fun U hU hW => ⟨rfl, mw_pre hP hK hD hU hW⟩⟩ rfl rfl hl.1 rfl (lv_room (Nat.le_of_ble_eq_true rfl)) dX7_produce_314 ⟨Nat.le_of_ble_eq_true rfl, Nat.le_of_ble_eq_true rfl⟩) hS (fun q _ h => hFc q h) hFc (fun d9 t H1 locs ht hvm hw hB hz1 hk1 hS => ?_)
                                obtain ⟨I1670, J1670⟩ := d9
                                obtain ⟨hP, hK1, hD1⟩ := hB
                                rw [ht] at hP
                                have hD := hD1.weaken (fun _ _ _ h => hFc _ h)
                                generalize H1 = H at hP hS ⊢
                                have hP : va_P (dC, dI) vwCl (va_pl L (wF cy K N T I1670 Q J1670)) H := hP
                                have hD : va_D A (va_pl L (wF cy K N T I1670 Q J1670)) := hD
                                have hw1672 : LW w I J I1670 J1670 (5 * xp.toNatClampNeg + n1417) _ _ := hw
                                have hR : RM w [] I J I1670 J1670 := hR.lw hM hjn1417 hw1672
                                have hMD : MD w J1670 := hMD.lw hM hjn1417 hw1672
                                have hMU : MU w I1670 := hMU.lw hM hjn1417 hw1672
                                have q1hw1672 : (I1670 (w (21 + (5 * xp.toNatClampNeg + n1417))) 1).toInt = _ := hw1672.2.2.1
                                have q2hw1672 : (I1670 (w (21 + (5 * xp.toNatClampNeg + n1417))) 2).toInt = _ := hw1672.2.2.2
                                have q3hw1672 : (I1670 (w (21 + (5 * xp.toNatClampNeg + n1417))) 3).toInt = _ := congrArg Int32.toInt hw1672.f3
                                have q4hw1672 : (I1670 (w (21 + (5 * xp.toNatClampNeg + n1417))) 4).toInt = _ := congrArg Int32.toInt hw1672.f4
                                have hML : ML w (E + 1) I1670 := hML.lw hM hjn1417 hw1672 (by omega) ⟨by omega, by omega, by omega, by omega, by omega, by omega⟩
                                refine lv_iload hx hb dX7_produce_317 (lv_at hl 0 rfl) ?_
                                refine lv_if_eq (tgt := 335) hx hb dX7_produce_319 (by decide) (fun c1673 => ?_) (fun c1673 => ?_)
                                · exact absurd c1673 (by decide)
                                refine lv_aload_n hx hb dX7_produce_322 rfl (lv_at hl 5 rfl) ?_
                                obtain ⟨j1674, hj1674⟩ := wG_7 (cy := cy) (N := N) (T := T) (I := I1670) (Q := Q) (J := J1670) (hM.at 0 (by decide)) (hM.k 0 (by decide) rfl)
                                refine va_get (D := (dC, dI)) (ci := 7) (v := .ref (T (w 0) 9)) (C := RX7) (T := TX7) (N := 18) hx hb hts hi7 hown hK hP j1674 hj1674 rfl 9 (by decide) (hts (.fieldLink RX7 40 "TallyLogsModel" "bound" "[I") (by decide +kernel)) (fun _ h9 => h9) rfl dX7_produce_323 ?_
                                refine W.eq (g2 := F0 m 326 ls [.ref (w 10)]) (by rw [hM.t 9 (by decide)]) ?_
                                refine lv_iload hx hb dX7_produce_326 (lv_at hl 3 rfl) ?_
                                refine lv_dup2_11 hx hb dX7_produce_328 rfl rfl ?_
                                obtain ⟨j1675, hj1675⟩ := wG_20 (cy := cy) (N := N) (T := T) (I := I1670) (Q := Q) (J := J1670) (hM.at 10 (by decide)) (hM.k 10 (by decide) rfl)
                                refine va_iald hx hb hK hP j1675 1 hj1675 rfl (hM.inN (n := 6) 10 (by decide) rfl rfl hin1421) dX7_produce_329 ?_
                                refine lv_topi (fun x1676 ex1676 => ?_)
                                refine lv_iconst (v := 1) hx hb dX7_produce_330 (by decide) ?_
                                refine lv_iload_n hx hb dX7_produce_331 rfl (lv_at hl 6 rfl) ?_
                                refine lv_ishl hx hb dX7_produce_332 ?_
                                refine lv_topi (fun v1677 ev1677 => ?_)
                                refine lv_ior hx hb dX7_produce_333 ?_
                                refine lv_topi (fun v1678 ev1678 => ?_)
                                obtain ⟨j1679, hj1679⟩ := wG_20 (cy := cy) (N := N) (T := T) (I := I1670) (Q := Q) (J := J1670) (hM.at 10 (by decide)) (hM.k 10 (by decide) rfl)
                                have hDo := hD
                                refine va_iast (x := v1678) hx hb hK hP hD hS j1679 1 hj1679 rfl (hM.inN (n := 6) 10 (by decide) rfl rfl hin1421) dX7_produce_334 (fun H locs hP hD hS => ?_)
                                have hP := Eq.mp (congrArg (fun w => va_P (dC, dI) vwCl w H) (wS_20 hDo (hM.at 10 (by decide)) (hM.k 10 (by decide) rfl) hj1679)) hP
                                obtain ⟨J1680, eJ1680⟩ : ∃ z, z = va_up J1670 (w 10) (upd (J1670 (w 10)) v1420.toNatClampNeg v1678) := ⟨_, rfl⟩
                                rw [← eJ1680] at hP
                                have hR : RM w [] I J I1670 J1680 := by rw [eJ1680]; exact hR.pj hM (by decide) (by decide)
                                have hMD : MD w J1680 := by rw [eJ1680]; exact hMD.pj hM (by decide) (by decide)
                                have hD : va_D A (va_pl L (wF cy K N T I1670 Q J1680)) := pD hDo
                                refine lv_aload_n hx hb dX7_produce_335 rfl (lv_at hl 5 rfl) ?_
                                refine lv_iload_n hx hb dX7_produce_336 rfl (lv_at hl 6 rfl) ?_
                                obtain ⟨j1681, hj1681⟩ := wG_7 (cy := cy) (N := N) (T := T) (I := I1670) (Q := Q) (J := J1680) (hM.at 0 (by decide)) (hM.k 0 (by decide) rfl)
                                have hFc := pfree hD hS hA
                                refine va_callv (va_runV (As := [.int xp]) (rest := []) ⟨hx, hb, hml, hown, hts⟩ (c_X7_rise l dC dI cy w L K N T Q I1670 J1680 H.size xp hM hth1348.1 (hMD _ (vp_lt (n := 4) hth1348.1))) (cwV 1 hts gX7_produce_X7_rise rfl rfl rfl (by decide +kernel) ⟨Nat.le_of_ble_eq_true rfl, Nat.le_of_ble_eq_true rfl⟩) ⟨mw_blind, va_recv hK hP (ci := 7) (q0 := j1681) rfl hj1681, fun U hU hW => ⟨rfl, mw_pre hP hK hD hU hW⟩⟩ rfl rfl hl.1 rfl (lv_room (Nat.le_of_ble_eq_true rfl)) dX7_produce_337 ⟨Nat.le_of_ble_eq_true rfl, Nat.le_of_ble_eq_true rfl⟩) hS (fun q _ h => hFc q h) hFc (fun d9 t H1 locs ht hvm hw hB hz1 hk1 hS => ?_)
                                obtain ⟨I1682, J1682⟩ := d9
                                obtain ⟨hP, hK1, hD1⟩ := hB
                                rw [ht] at hP
                                have hD := hD1.weaken (fun _ _ _ h => hFc _ h)
                                generalize H1 = H at hP hS ⊢
                                have hP : va_P (dC, dI) vwCl (va_pl L (wF cy K N T I1682 Q J1682)) H := hP
                                have hD : va_D A (va_pl L (wF cy K N T I1682 Q J1682)) := hD
                                have hw1684 : RZ w I1670 J1680 I1682 J1682 xp.toNatClampNeg := hw
                                have hR : RM w [] I J I1682 J1682 := hR.rz hM (vp_lt (n := 4) hth1348.1) hw1684
                                have hMD : MD w J1682 := hMD.rz hw1684
                                have hMU : MU w I1682 := hMU.rz hM (vp_lt (n := 4) hth1348.1) hw1684
                                have hML : ML w (E + 1) I1682 := hML.rz hM (vp_lt (n := 4) hth1348.1) hw1684
                                refine lv_aload hx hb dX7_produce_340 (lv_at hl 4 rfl) ?_
                                obtain ⟨j1685, hj1685⟩ := wG_6 (cy := cy) (N := N) (T := T) (I := I1682) (Q := Q) (J := J1682) (hM.lg hjn1417).1 (hM.lg hjn1417).2
                                refine va_get (D := (dC, dI)) (ci := 6) (v := .int (I1682 (w (21 + (5 * xp.toNatClampNeg + n1417))) 2)) (C := RX6) (T := TX6) (N := 7) hx hb hts hi6 hown hK hP j1685 hj1685 rfl 2 (by decide) (hts (.fieldLink RX7 89 "TallyLogsModel$Log" "end" "I") (by decide +kernel)) (fun _ h9 => h9) rfl dX7_produce_342 ?_
                                refine lv_topi (fun x1686 ex1686 => ?_)
                                have tx1686 : x1686.toInt = (I1682 (w (21 + (5 * xp.toNatClampNeg + n1417))) 2).toInt := congrArg Int32.toInt ex1686
                                refine lv_iconst (v := 1) hx hb dX7_produce_345 (by decide) ?_
                                refine lv_isub hx hb dX7_produce_346 ?_
                                refine lv_topi (fun v1687 ev1687 => ?_)
                                rw [hQz]
                                exact W.iret (v := v1687) hx hb hr (fun t ht hW => ⟨⟨v1687, (I1682, J1682), rfl, ⟨⟨hML.mono (by omega), hMD, hMU⟩, hR⟩, by rw [ht]; exact hP, va_K.moved hW.alike hK, hD⟩, hS.F ht⟩) hS.2.2 dX7_produce_347
                            · have kc1641 : r1638.toInt = 60 := by have h9 := c1641; rw [xk_eq, (show (60 : Int32).toInt = 60 by decide)] at h9; exact h9
                              refine lv_bipush (v := (-3)) hx hb dX7_produce_251 (by decide) ?_
                              rw [hQz]
                              exact W.iret (v := (-3)) hx hb hr (fun t ht hW => ⟨⟨(-3), (I, J), rfl, ⟨⟨hML.mono (by omega), hMD, hMU⟩, hR⟩, by rw [ht]; exact hP, va_K.moved hW.alike hK, hD⟩, hS.F ht⟩) hS.2.2 dX7_produce_253
                          · have kc1637 : ¬ (xs.toInt = 0) := by have h9 := c1637; rw [xk_eq, xk_0] at h9; exact h9
                            refine lv_goto (tgt := 238) hx hb dX7_produce_221 (by decide) ?_
                            refine lv_bipush (v := (-6)) hx hb dX7_produce_238 (by decide) ?_
                            rw [hQz]
                            exact W.iret (v := (-6)) hx hb hr (fun t ht hW => ⟨⟨(-6), (I, J), rfl, ⟨⟨hML.mono (by omega), hMD, hMU⟩, hR⟩, by rw [ht]; exact hP, va_K.moved hW.alike hK, hD⟩, hS.F ht⟩) hS.2.2 dX7_produce_240
                      · have kc1581 : ¬ (x1580.toInt ≤ y1577.toInt) := by have h9 := c1581; rw [xk_le] at h9; exact h9
                        refine lv_aload hx hb dX7_produce_147 (lv_at hl 4 rfl) ?_
                        refine lv_iload hx hb dX7_produce_149 (lv_at hl 0 rfl) ?_
                        refine lv_iconst (v := 1) hx hb dX7_produce_151 (by decide) ?_
                        obtain ⟨j1689, hj1689⟩ := wG_6 (cy := cy) (N := N) (T := T) (I := I) (Q := Q) (J := J) (hM.lg hjn1417).1 (hM.lg hjn1417).2
                        refine vp_callSi (W.runV (As := [.int y1577, .int 1]) (rest := []) ⟨hx, hb, hml, hown, hts⟩ (c_X6_get l dC dI cy w L K N T Q I J (5 * xp.toNatClampNeg + n1417) y1577 1 hM hjn1417 (by omega) (by omega) (by unfold vp_in; decide)) (cwV 2 hts gX7_produce_X6_get rfl rfl rfl (by decide +kernel) ⟨Nat.le_of_ble_eq_true rfl, Nat.le_of_ble_eq_true rfl⟩) ⟨mb_blind, va_recv hK hP (ci := 6) (q0 := j1689) rfl hj1689, fun U hU hW => ⟨rfl, mb_pre hP hK hU hW⟩⟩ rfl rfl hl.1 rfl (lv_room (Nat.le_of_ble_eq_true rfl)) dX7_produce_152 ⟨Nat.le_of_ble_eq_true rfl, Nat.le_of_ble_eq_true rfl⟩) (fun r1688 hr1688 => ?_)
                        refine lv_if_ne (tgt := 206) hx hb dX7_produce_155 (by decide) (fun c1690 => ?_) (fun c1690 => ?_)
                        · have kc1690 : ¬ (r1688.toInt = 0) := by have h9 := c1690; rw [xk_eq, xk_0] at h9; exact h9
                          obtain ⟨v1691, ev1691⟩ : ∃ y : Int32, y = y1577 + Int32.ofInt 1 := ⟨_, rfl⟩
                          refine lv_iinc (v := v1691) (lv' := [(11, .int v1691), (10, .int y1578), (9, .int v1423), (8, .int v1420), (7, .ref (w (21 + (5 * xp.toNatClampNeg + n1417)))), (0, .ref (w 0)), (1, .int xp), (2, .int xh), (3, .int xs), (4, .int xk), (5, .int xv), (6, .int al)]) hx hb dX7_produce_206 hl (k := 0) rfl ev1691.symm (by decide) rfl (fun ls hl => ?_)
                          refine lv_goto (tgt := 137) hx hb dX7_produce_209 (by decide) ?_
                          have tv1691 : v1691.toInt = y1577.toInt + 1 := by rw [ev1691, show y1577 + Int32.ofInt 1 = y1577 + 1 from rfl]; exact xinc (y := I (w (21 + (5 * xp.toNatClampNeg + n1417))) 2) (by rw [xk_lt]; omega)
                          exact ih1576 _ _ _ (by omega) (by omega) (⟨by omega, by omega⟩)  (lv_sub hl [0, 1, 2, 3, 4, 5, 6, 7, 8, 9, 10, 11] rfl)
                        · have kc1690 : r1688.toInt = 0 := by have h9 := c1690; rw [xk_eq, xk_0] at h9; exact h9
                          refine lv_aload hx hb dX7_produce_158 (lv_at hl 4 rfl) ?_
                          refine lv_iload hx hb dX7_produce_160 (lv_at hl 0 rfl) ?_
                          refine lv_iconst (v := 2) hx hb dX7_produce_162 (by decide) ?_
                          obtain ⟨j1693, hj1693⟩ := wG_6 (cy := cy) (N := N) (T := T) (I := I) (Q := Q) (J := J) (hM.lg hjn1417).1 (hM.lg hjn1417).2
                          refine vp_callSi (W.runV (As := [.int y1577, .int 2]) (rest := []) ⟨hx, hb, hml, hown, hts⟩ (c_X6_get l dC dI cy w L K N T Q I J (5 * xp.toNatClampNeg + n1417) y1577 2 hM hjn1417 (by omega) (by omega) (by unfold vp_in; decide)) (cwV 2 hts gX7_produce_X6_get rfl rfl rfl (by decide +kernel) ⟨Nat.le_of_ble_eq_true rfl, Nat.le_of_ble_eq_true rfl⟩) ⟨mb_blind, va_recv hK hP (ci := 6) (q0 := j1693) rfl hj1693, fun U hU hW => ⟨rfl, mb_pre hP hK hU hW⟩⟩ rfl rfl hl.1 rfl (lv_room (Nat.le_of_ble_eq_true rfl)) dX7_produce_163 ⟨Nat.le_of_ble_eq_true rfl, Nat.le_of_ble_eq_true rfl⟩) (fun r1692 hr1692 => ?_)
                          refine lv_iload hx hb dX7_produce_166 (lv_at hl 3 rfl) ?_
                          refine lv_icmp_ne (tgt := 206) hx hb dX7_produce_168 (by decide) (fun c1694 => ?_) (fun c1694 => ?_)
                          · have kc1694 : ¬ (r1692.toInt = v1420.toInt) := by have h9 := c1694; rw [xk_eq] at h9; exact h9
                            obtain ⟨v1695, ev1695⟩ : ∃ y : Int32, y = y1577 + Int32.ofInt 1 := ⟨_, rfl⟩
                            refine lv_iinc (v := v1695) (lv' := [(11, .int v1695), (10, .int y1578), (9, .int v1423), (8, .int v1420), (7, .ref (w (21 + (5 * xp.toNatClampNeg + n1417)))), (0, .ref (w 0)), (1, .int xp), (2, .int xh), (3, .int xs), (4, .int xk), (5, .int xv), (6, .int al)]) hx hb dX7_produce_206 hl (k := 0) rfl ev1695.symm (by decide) rfl (fun ls hl => ?_)
                            refine lv_goto (tgt := 137) hx hb dX7_produce_209 (by decide) ?_
                            have tv1695 : v1695.toInt = y1577.toInt + 1 := by rw [ev1695, show y1577 + Int32.ofInt 1 = y1577 + 1 from rfl]; exact xinc (y := I (w (21 + (5 * xp.toNatClampNeg + n1417))) 2) (by rw [xk_lt]; omega)
                            exact ih1576 _ _ _ (by omega) (by omega) (⟨by omega, by omega⟩)  (lv_sub hl [0, 1, 2, 3, 4, 5, 6, 7, 8, 9, 10, 11] rfl)
                          · have kc1694 : r1692.toInt = v1420.toInt := by have h9 := c1694; rw [xk_eq] at h9; exact h9
                            refine lv_aload hx hb dX7_produce_171 (lv_at hl 4 rfl) ?_
                            refine lv_iload hx hb dX7_produce_173 (lv_at hl 0 rfl) ?_
                            refine lv_iconst (v := 3) hx hb dX7_produce_175 (by decide) ?_
                            obtain ⟨j1697, hj1697⟩ := wG_6 (cy := cy) (N := N) (T := T) (I := I) (Q := Q) (J := J) (hM.lg hjn1417).1 (hM.lg hjn1417).2
                            refine vp_callSi (W.runV (As := [.int y1577, .int 3]) (rest := []) ⟨hx, hb, hml, hown, hts⟩ (c_X6_get l dC dI cy w L K N T Q I J (5 * xp.toNatClampNeg + n1417) y1577 3 hM hjn1417 (by omega) (by omega) (by unfold vp_in; decide)) (cwV 2 hts gX7_produce_X6_get rfl rfl rfl (by decide +kernel) ⟨Nat.le_of_ble_eq_true rfl, Nat.le_of_ble_eq_true rfl⟩) ⟨mb_blind, va_recv hK hP (ci := 6) (q0 := j1697) rfl hj1697, fun U hU hW => ⟨rfl, mb_pre hP hK hU hW⟩⟩ rfl rfl hl.1 rfl (lv_room (Nat.le_of_ble_eq_true rfl)) dX7_produce_176 ⟨Nat.le_of_ble_eq_true rfl, Nat.le_of_ble_eq_true rfl⟩) (fun r1696 hr1696 => ?_)
                            refine lv_iload hx hb dX7_produce_179 (lv_at hl 2 rfl) ?_
                            refine lv_icmp_eq (tgt := 187) hx hb dX7_produce_181 (by decide) (fun c1698 => ?_) (fun c1698 => ?_)
                            · have kc1698 : r1696.toInt = v1423.toInt := by have h9 := c1698; rw [xk_eq] at h9; exact h9
                              refine lv_aload hx hb dX7_produce_187 (lv_at hl 4 rfl) ?_
                              refine lv_iload hx hb dX7_produce_189 (lv_at hl 0 rfl) ?_
                              refine lv_iconst (v := 4) hx hb dX7_produce_191 (by decide) ?_
                              obtain ⟨j1700, hj1700⟩ := wG_6 (cy := cy) (N := N) (T := T) (I := I) (Q := Q) (J := J) (hM.lg hjn1417).1 (hM.lg hjn1417).2
                              refine vp_callSi (W.runV (As := [.int y1577, .int 4]) (rest := []) ⟨hx, hb, hml, hown, hts⟩ (c_X6_get l dC dI cy w L K N T Q I J (5 * xp.toNatClampNeg + n1417) y1577 4 hM hjn1417 (by omega) (by omega) (by unfold vp_in; decide)) (cwV 2 hts gX7_produce_X6_get rfl rfl rfl (by decide +kernel) ⟨Nat.le_of_ble_eq_true rfl, Nat.le_of_ble_eq_true rfl⟩) ⟨mb_blind, va_recv hK hP (ci := 6) (q0 := j1700) rfl hj1700, fun U hU hW => ⟨rfl, mb_pre hP hK hU hW⟩⟩ rfl rfl hl.1 rfl (lv_room (Nat.le_of_ble_eq_true rfl)) dX7_produce_192 ⟨Nat.le_of_ble_eq_true rfl, Nat.le_of_ble_eq_true rfl⟩) (fun r1699 hr1699 => ?_)
                              refine lv_iload_n hx hb dX7_produce_195 rfl (lv_at hl 8 rfl) ?_
                              refine lv_icmp_ne (tgt := 202) hx hb dX7_produce_196 (by decide) (fun c1701 => ?_) (fun c1701 => ?_)
                              · have kc1701 : ¬ (r1699.toInt = xs.toInt) := by have h9 := c1701; rw [xk_eq] at h9; exact h9
                                refine lv_iload hx hb dX7_produce_202 (lv_at hl 0 rfl) ?_
                                refine lv_istore (lv' := [(10, .int y1577), (11, .int y1577), (9, .int v1423), (8, .int v1420), (7, .ref (w (21 + (5 * xp.toNatClampNeg + n1417)))), (0, .ref (w 0)), (1, .int xp), (2, .int xh), (3, .int xs), (4, .int xk), (5, .int xv), (6, .int al)]) hx hb dX7_produce_204 hl (by decide) rfl (fun ls hl => ?_)
                                obtain ⟨v1702, ev1702⟩ : ∃ y : Int32, y = y1577 + Int32.ofInt 1 := ⟨_, rfl⟩
                                refine lv_iinc (v := v1702) (lv' := [(11, .int v1702), (10, .int y1577), (9, .int v1423), (8, .int v1420), (7, .ref (w (21 + (5 * xp.toNatClampNeg + n1417)))), (0, .ref (w 0)), (1, .int xp), (2, .int xh), (3, .int xs), (4, .int xk), (5, .int xv), (6, .int al)]) hx hb dX7_produce_206 hl (k := 1) rfl ev1702.symm (by decide) rfl (fun ls hl => ?_)
                                refine lv_goto (tgt := 137) hx hb dX7_produce_209 (by decide) ?_
                                have tv1702 : v1702.toInt = y1577.toInt + 1 := by rw [ev1702, show y1577 + Int32.ofInt 1 = y1577 + 1 from rfl]; exact xinc (y := I (w (21 + (5 * xp.toNatClampNeg + n1417))) 2) (by rw [xk_lt]; omega)
                                exact ih1576 _ _ _ (by omega) (by omega) (⟨by omega, by omega⟩)  (lv_sub hl [0, 1, 2, 3, 4, 5, 6, 7, 8, 9, 10, 11] rfl)
                              · have kc1701 : r1699.toInt = xs.toInt := by have h9 := c1701; rw [xk_eq] at h9; exact h9
                                refine lv_iload hx hb dX7_produce_199 (lv_at hl 0 rfl) ?_
                                rw [hQz]
                                exact W.iret (v := y1577) hx hb hr (fun t ht hW => ⟨⟨y1577, (I, J), rfl, ⟨⟨hML.mono (by omega), hMD, hMU⟩, hR⟩, by rw [ht]; exact hP, va_K.moved hW.alike hK, hD⟩, hS.F ht⟩) hS.2.2 dX7_produce_201
                            · have kc1698 : ¬ (r1696.toInt = v1423.toInt) := by have h9 := c1698; rw [xk_eq] at h9; exact h9
                              refine lv_goto (tgt := 206) hx hb dX7_produce_184 (by decide) ?_
                              obtain ⟨v1703, ev1703⟩ : ∃ y : Int32, y = y1577 + Int32.ofInt 1 := ⟨_, rfl⟩
                              refine lv_iinc (v := v1703) (lv' := [(11, .int v1703), (10, .int y1578), (9, .int v1423), (8, .int v1420), (7, .ref (w (21 + (5 * xp.toNatClampNeg + n1417)))), (0, .ref (w 0)), (1, .int xp), (2, .int xh), (3, .int xs), (4, .int xk), (5, .int xv), (6, .int al)]) hx hb dX7_produce_206 hl (k := 0) rfl ev1703.symm (by decide) rfl (fun ls hl => ?_)
                              refine lv_goto (tgt := 137) hx hb dX7_produce_209 (by decide) ?_
                              have tv1703 : v1703.toInt = y1577.toInt + 1 := by rw [ev1703, show y1577 + Int32.ofInt 1 = y1577 + 1 from rfl]; exact xinc (y := I (w (21 + (5 * xp.toNatClampNeg + n1417))) 2) (by rw [xk_lt]; omega)
                              exact ih1576 _ _ _ (by omega) (by omega) (⟨by omega, by omega⟩)  (lv_sub hl [0, 1, 2, 3, 4, 5, 6, 7, 8, 9, 10, 11] rfl)
                  exact hLP1576 _ _ _ _ (Nat.lt_succ_self _) (by omega) (⟨by omega, Or.inl (by decide)⟩)  (lv_sub hl [0, 1, 2, 3, 4, 5, 6, 7, 8, 9, 10, 11] rfl)
                · have kc1572 : ¬ (x1571.toInt ≤ (sp_bc x1567).toInt) := by have h9 := c1572; rw [xk_le] at h9; exact h9
                  refine lv_bipush (v := (-5)) hx hb dX7_produce_119 (by decide) ?_
                  exact W.iret (v := (-5)) hx hb hr (fun t ht hW => ⟨⟨(-5), (I, J), rfl, ⟨⟨hML.mono (by omega), hMD, hMU⟩, hR⟩, by rw [ht]; exact hP, va_K.moved hW.alike hK, hD⟩, hS.F ht⟩) hS.2.2 dX7_produce_121
            · have kc1432 : x1431.toInt = 2 := by have h9 := c1432; rw [xk_eq, xk_2] at h9; exact h9
              refine lv_bipush (v := (-4)) hx hb dX7_produce_93 (by decide) ?_
              exact W.iret (v := (-4)) hx hb hr (fun t ht hW => ⟨⟨(-4), (I, J), rfl, ⟨⟨hML.mono (by omega), hMD, hMU⟩, hR⟩, by rw [ht]; exact hP, va_K.moved hW.alike hK, hD⟩, hS.F ht⟩) hS.2.2 dX7_produce_95
      · refine lv_iconst (v := (-1)) hx hb dX7_produce_20 (by decide) ?_
        exact W.iret (v := (-1)) hx hb hr (fun t ht hW => ⟨⟨(-1), (I, J), rfl, ⟨⟨hML.mono (by omega), hMD, hMU⟩, hR⟩, by rw [ht]; exact hP, va_K.moved hW.alike hK, hD⟩, hS.F ht⟩) hS.2.2 dX7_produce_21
