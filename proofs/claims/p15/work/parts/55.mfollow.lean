set_option maxHeartbeats 4000000 in
set_option maxRecDepth 100000 in
/-- follow -/
theorem c_X7_follow (l : Launch) (dC : Nat → ClassId) (dI : Nat → Nat → Nat) (cy : Nat → ClassId) (w : Nat → Nat) (L : List Nat) (K N : Nat → Nat) (T : Nat → Nat → Nat) (Q : Nat → Nat → Option Nat) (I J : Nat → Nat → Int32) (sz : Nat) (E : Int) (xn : Int32) (xp : Int32) (hM : MS w L K N T Q) (hI : MI w E I J) (hE : E ≤ 1000) : Met l yX7_follow wsX7_follow ({ frames := 4, cells := 0, slots := 0, locals := 99 }) (va_Pc [.ref (w 0), .int xn, .int xp] (mW dC dI cy L (wF cy K N T I Q J) sz)) (va_Qi (fun (r : Int32) (d : (Nat → Nat → Int32) × (Nat → Nat → Int32)) => MI w (E + 5) d.1 d.2 ∧ RM w [] I J d.1 d.2) (fun (d : (Nat → Nat → Int32) × (Nat → Nat → Int32)) t => va_P (dC, dI) vwCl (va_pl L (wF cy K N T d.1 Q d.2)) t.heap ∧ va_K (dC, dI) vwCl (mTy cy) t ∧ va_D (va_A (va_pl L (wF cy K N T I Q J)) sz) (va_pl L (wF cy K N T d.1 Q d.2))) (va_A (va_pl L (wF cy K N T I Q J)) sz)) 0 0 (va_A (va_pl L (wF cy K N T I Q J)) sz) := by
  refine Met.ofW (cc := cX7_follow) (maxL := 7) (ret := (some .int)) (by decide) rfl ?_
  intro p e s m args below meth c s₁ B hml hv
  obtain ⟨rfl, hsz, ⟨hP, hK⟩, hD0⟩ := hv
  have hx := B.exec
  have hb := B.bytes
  have hr := B.returns
  have hts := atoms_spec (ws := wsX7_follow) B.pre
  have hown : s.vm.findClass RX7 = some m.cls := findClass_of_methodNamed B.named
  have hlocks := B.notSynchronized
  have hi7 : ∀ w ∈ wsX70, w ∈ wsX7_follow := by decide +kernel
  have hi6 : ∀ w ∈ wsX60, w ∈ wsX7_follow := by decide +kernel
  have hl := lv_entry ([.ref (w 0), .int xn, .int xp]) (n := 7) (Nat.le_of_ble_eq_true rfl)
  rw [lg_entry_eq]
  generalize (lg_sl ([.ref (w 0), .int xn, .int xp]) ++ List.replicate (7 - (lg_sl ([.ref (w 0), .int xn, .int xp])).length) Slot.unset).toArray = ls at hl ⊢
  have hl : lv_has ls 7 [(0, .ref (w 0)), (1, .int xn), (2, .int xp)] := hl
  subst hsz
  have hD := hD0.self (sz := s.heap.size)
  generalize hAe : va_A (va_pl L (wF cy K N T I Q J)) s.heap.size = A at hD ⊢
  have hA : ∀ q : Nat, s.heap.size ≤ q → A q := fun q h => by rw [← hAe]; exact Or.inr h
  have hS : va_S A s.heap s.heap [] := va_S.rf
  have hR : RM w [] I J I J := RM.rf
  obtain ⟨hML, hMD, hMU⟩ := hI
  refine lv_aload_n hx hb dX7_follow_0 rfl (lv_at hl 0 rfl) ?_
  refine lv_iload_n hx hb dX7_follow_1 rfl (lv_at hl 1 rfl) ?_
  refine lv_iload_n hx hb dX7_follow_2 rfl (lv_at hl 2 rfl) ?_
  obtain ⟨j1705, hj1705⟩ := wG_7 (cy := cy) (N := N) (T := T) (I := I) (Q := Q) (J := J) (hM.at 0 (by decide)) (hM.k 0 (by decide) rfl)
  refine vp_callSi (W.runV (As := [.int xn, .int xp]) (rest := []) ⟨hx, hb, hml, hown, hts⟩ (c_X7_isReplica l dC dI cy w L K N T Q I J xn xp hM) (cwV 2 hts gX7_follow_X7_isReplica rfl rfl rfl (by decide +kernel) ⟨Nat.le_of_ble_eq_true rfl, Nat.le_of_ble_eq_true rfl⟩) ⟨mb_blind, va_recv hK hP (ci := 7) (q0 := j1705) rfl hj1705, fun U hU hW => ⟨rfl, mb_pre hP hK hU hW⟩⟩ rfl rfl hl.1 rfl (lv_room (Nat.le_of_ble_eq_true rfl)) dX7_follow_3 ⟨Nat.le_of_ble_eq_true rfl, Nat.le_of_ble_eq_true rfl⟩) (fun r1704 hr1704 => ?_)
  refine lv_if_eq (tgt := 27) hx hb dX7_follow_6 (by decide) (fun c1706 => ?_) (fun c1706 => ?_)
  · have kc1706 : r1704.toInt = 0 := by have h9 := c1706; rw [xk_eq, xk_0] at h9; exact h9
    refine lv_iconst (v := (-1)) hx hb dX7_follow_27 (by decide) ?_
    exact W.iret (v := (-1)) hx hb hr (fun t ht hW => ⟨⟨(-1), (I, J), rfl, ⟨⟨hML.mono (by omega), hMD, hMU⟩, hR⟩, by rw [ht]; exact hP, va_K.moved hW.alike hK, hD⟩, hS.F ht⟩) hS.2.2 dX7_follow_28
  · have hrp1707 := hr1704.resolve_left c1706
    have kc1706 : ¬ (r1704.toInt = 0) := by have h9 := c1706; rw [xk_eq, xk_0] at h9; exact h9
    refine lv_aload_n hx hb dX7_follow_9 rfl (lv_at hl 0 rfl) ?_
    refine lv_iload_n hx hb dX7_follow_10 rfl (lv_at hl 1 rfl) ?_
    obtain ⟨j1709, hj1709⟩ := wG_7 (cy := cy) (N := N) (T := T) (I := I) (Q := Q) (J := J) (hM.at 0 (by decide)) (hM.k 0 (by decide) rfl)
    refine vp_callSi (W.runV (As := [.int xn]) (rest := []) ⟨hx, hb, hml, hown, hts⟩ (c_X7_isUp l dC dI cy w L K N T Q I J xn hM) (cwV 1 hts gX7_follow_X7_isUp rfl rfl rfl (by decide +kernel) ⟨Nat.le_of_ble_eq_true rfl, Nat.le_of_ble_eq_true rfl⟩) ⟨mb_blind, va_recv hK hP (ci := 7) (q0 := j1709) rfl hj1709, fun U hU hW => ⟨rfl, mb_pre hP hK hU hW⟩⟩ rfl rfl hl.1 rfl (lv_room (Nat.le_of_ble_eq_true rfl)) dX7_follow_11 ⟨Nat.le_of_ble_eq_true rfl, Nat.le_of_ble_eq_true rfl⟩) (fun r1708 hr1708 => ?_)
    refine lv_if_eq (tgt := 27) hx hb dX7_follow_14 (by decide) (fun c1710 => ?_) (fun c1710 => ?_)
    · have kc1710 : r1708.toInt = 0 := by have h9 := c1710; rw [xk_eq, xk_0] at h9; exact h9
      refine lv_iconst (v := (-1)) hx hb dX7_follow_27 (by decide) ?_
      exact W.iret (v := (-1)) hx hb hr (fun t ht hW => ⟨⟨(-1), (I, J), rfl, ⟨⟨hML.mono (by omega), hMD, hMU⟩, hR⟩, by rw [ht]; exact hP, va_K.moved hW.alike hK, hD⟩, hS.F ht⟩) hS.2.2 dX7_follow_28
    · have hup1711 := sp_iu1 (by rw [← hr1708]; exact c1710)
      have kc1710 : ¬ (r1708.toInt = 0) := by have h9 := c1710; rw [xk_eq, xk_0] at h9; exact h9
      refine lv_aload_n hx hb dX7_follow_17 rfl (lv_at hl 0 rfl) ?_
      obtain ⟨j1712, hj1712⟩ := wG_7 (cy := cy) (N := N) (T := T) (I := I) (Q := Q) (J := J) (hM.at 0 (by decide)) (hM.k 0 (by decide) rfl)
      refine va_get (D := (dC, dI)) (ci := 7) (v := .ref (T (w 0) 3)) (C := RX7) (T := TX7) (N := 18) hx hb hts hi7 hown hK hP j1712 hj1712 rfl 3 (by decide) (hts (.fieldLink RX7 22 "TallyLogsModel" "leader" "[I") (by decide +kernel)) (fun _ h9 => h9) rfl dX7_follow_18 ?_
      refine W.eq (g2 := F0 m 21 ls [.ref (w 4)]) (by rw [hM.t 3 (by decide)]) ?_
      refine lv_iload_n hx hb dX7_follow_21 rfl (lv_at hl 2 rfl) ?_
      obtain ⟨j1713, hj1713⟩ := wG_20 (cy := cy) (N := N) (T := T) (I := I) (Q := Q) (J := J) (hM.at 4 (by decide)) (hM.k 4 (by decide) rfl)
      refine va_iald hx hb hK hP j1713 1 hj1713 rfl (hM.inN (n := 4) 4 (by decide) rfl rfl hrp1707.1) dX7_follow_22 ?_
      refine lv_topi (fun x1714 ex1714 => ?_)
      refine lv_iload_n hx hb dX7_follow_23 rfl (lv_at hl 1 rfl) ?_
      refine lv_icmp_ne (tgt := 29) hx hb dX7_follow_24 (by decide) (fun c1715 => ?_) (fun c1715 => ?_)
      · have kc1715 : ¬ (x1714.toInt = xn.toInt) := by have h9 := c1715; rw [xk_eq] at h9; exact h9
        refine lv_aload_n hx hb dX7_follow_29 rfl (lv_at hl 0 rfl) ?_
        refine lv_iload_n hx hb dX7_follow_30 rfl (lv_at hl 2 rfl) ?_
        obtain ⟨j1717, hj1717⟩ := wG_7 (cy := cy) (N := N) (T := T) (I := I) (Q := Q) (J := J) (hM.at 0 (by decide)) (hM.k 0 (by decide) rfl)
        refine va_csq (W.runV (As := [.int xp]) (rest := []) ⟨hx, hb, hml, hown, hts⟩ (c_X7_own l dC dI cy w L K N T Q I J xp hM hrp1707.1) (cwV 1 hts gX7_follow_X7_own rfl rfl rfl (by decide +kernel) ⟨Nat.le_of_ble_eq_true rfl, Nat.le_of_ble_eq_true rfl⟩) ⟨mb_blind, va_recv hK hP (ci := 7) (q0 := j1717) rfl hj1717, fun U hU hW => ⟨rfl, mb_pre hP hK hU hW⟩⟩ rfl rfl hl.1 rfl (lv_room (Nat.le_of_ble_eq_true rfl)) dX7_follow_31 ⟨Nat.le_of_ble_eq_true rfl, Nat.le_of_ble_eq_true rfl⟩) (fun r1716 hr1716 => ?_)
        subst hr1716
        rcases sp_ow_cs w (I (w 0) 16) (J (w 4) xp.toNatClampNeg) xp.toNatClampNeg with hon1718 | ⟨n1718, hnn1718, eln1718, hubn1718, hon1718⟩
        · refine W.eq (g2 := F0 m 34 ls [.null]) (by rw [hon1718]; rfl) ?_
          refine lv_astore_nN (lv' := [(3, .null), (0, .ref (w 0)), (1, .int xn), (2, .int xp)]) hx hb dX7_follow_34 rfl hl (by decide) rfl (fun ls hl => ?_)
          refine lv_aload_n hx hb dX7_follow_35 rfl (lv_at hl 1 rfl) ?_
          obtain ⟨j1719, hj1719⟩ := wG_7 (cy := cy) (N := N) (T := T) (I := I) (Q := Q) (J := J) (hM.at 0 (by decide)) (hM.k 0 (by decide) rfl)
          refine va_get (D := (dC, dI)) (ci := 7) (v := .ref (T (w 0) 0)) (C := RX7) (T := TX7) (N := 18) hx hb hts hi7 hown hK hP j1719 hj1719 rfl 0 (by decide) (hts (.fieldLink RX7 11 "TallyLogsModel" "log" "[[LTallyLogsModel$Log;") (by decide +kernel)) (fun _ h9 => h9) rfl dX7_follow_36 ?_
          refine W.eq (g2 := F0 m 39 ls [.ref (w 1)]) (by rw [hM.t 0 (by decide)]) ?_
          refine lv_iload_n hx hb dX7_follow_39 rfl (lv_at hl 3 rfl) ?_
          obtain ⟨j1720, hj1720⟩ := wG_22 (cy := cy) (N := N) (T := T) (I := I) (Q := Q) (J := J) (hM.at 1 (by decide)) (hM.k 1 (by decide) rfl)
          refine xg_aldg hx hb hK hP j1720 2 hj1720 rfl hrp1707.1 dX7_follow_40 ?_
          refine W.eq (g2 := F0 m 41 ls [.ref (w (17 + xp.toNatClampNeg))]) (by rw [hM.qo (vp_lt (n := 4) hrp1707.1)]; rfl) ?_
          refine lv_iload_n hx hb dX7_follow_41 rfl (lv_at hl 2 rfl) ?_
          obtain ⟨j1721, hj1721⟩ := wG_23 (cy := cy) (N := N) (T := T) (I := I) (Q := Q) (J := J) (hM.row (vp_lt (n := 4) hrp1707.1)).1 (hM.row (vp_lt (n := 4) hrp1707.1)).2
          refine va_aldq hx hb hK hP j1721 3 hj1721 rfl hup1711.1 dX7_follow_42 ?_
          have hjl1722 : (5 * xp.toNatClampNeg + xn.toNatClampNeg) < 20 := by have h1 := (vp_lt (n := 4) hrp1707.1); have h2 := (vp_lt (n := 5) hup1711.1); omega
          refine W.eq (g2 := F0 m 43 ls [.ref (w (21 + (5 * xp.toNatClampNeg + xn.toNatClampNeg)))]) (by rw [hM.qr (vp_lt (n := 4) hrp1707.1) (vp_lt (n := 5) hup1711.1)]; rfl) ?_
          refine lv_astore (lv' := [(4, .ref (w (21 + (5 * xp.toNatClampNeg + xn.toNatClampNeg)))), (3, .null), (0, .ref (w 0)), (1, .int xn), (2, .int xp)]) hx hb dX7_follow_43 hl (by decide) rfl (fun ls hl => ?_)
          refine lv_aload_nN hx hb dX7_follow_45 rfl (lv_at hl 1 rfl) ?_
          refine lv_ifnonnullN hx hb dX7_follow_46 ?_
          refine lv_bipush (v := (-2)) hx hb dX7_follow_49 (by decide) ?_
          exact W.iret (v := (-2)) hx hb hr (fun t ht hW => ⟨⟨(-2), (I, J), rfl, ⟨⟨hML.mono (by omega), hMD, hMU⟩, hR⟩, by rw [ht]; exact hP, va_K.moved hW.alike hK, hD⟩, hS.F ht⟩) hS.2.2 dX7_follow_51
        · have hjn1718 : (5 * xp.toNatClampNeg + n1718) < 20 := by have h1 := vp_lt (n := 4) hrp1707.1; omega
          refine W.eq (g2 := F0 m 34 ls [.ref (w (21 + (5 * xp.toNatClampNeg + n1718)))]) (by rw [hon1718]; rfl) ?_
          refine lv_astore_n (lv' := [(3, .ref (w (21 + (5 * xp.toNatClampNeg + n1718)))), (0, .ref (w 0)), (1, .int xn), (2, .int xp)]) hx hb dX7_follow_34 rfl hl (by decide) rfl (fun ls hl => ?_)
          refine lv_aload_n hx hb dX7_follow_35 rfl (lv_at hl 1 rfl) ?_
          obtain ⟨j1723, hj1723⟩ := wG_7 (cy := cy) (N := N) (T := T) (I := I) (Q := Q) (J := J) (hM.at 0 (by decide)) (hM.k 0 (by decide) rfl)
          refine va_get (D := (dC, dI)) (ci := 7) (v := .ref (T (w 0) 0)) (C := RX7) (T := TX7) (N := 18) hx hb hts hi7 hown hK hP j1723 hj1723 rfl 0 (by decide) (hts (.fieldLink RX7 11 "TallyLogsModel" "log" "[[LTallyLogsModel$Log;") (by decide +kernel)) (fun _ h9 => h9) rfl dX7_follow_36 ?_
          refine W.eq (g2 := F0 m 39 ls [.ref (w 1)]) (by rw [hM.t 0 (by decide)]) ?_
          refine lv_iload_n hx hb dX7_follow_39 rfl (lv_at hl 3 rfl) ?_
          obtain ⟨j1724, hj1724⟩ := wG_22 (cy := cy) (N := N) (T := T) (I := I) (Q := Q) (J := J) (hM.at 1 (by decide)) (hM.k 1 (by decide) rfl)
          refine xg_aldg hx hb hK hP j1724 2 hj1724 rfl hrp1707.1 dX7_follow_40 ?_
          refine W.eq (g2 := F0 m 41 ls [.ref (w (17 + xp.toNatClampNeg))]) (by rw [hM.qo (vp_lt (n := 4) hrp1707.1)]; rfl) ?_
          refine lv_iload_n hx hb dX7_follow_41 rfl (lv_at hl 2 rfl) ?_
          obtain ⟨j1725, hj1725⟩ := wG_23 (cy := cy) (N := N) (T := T) (I := I) (Q := Q) (J := J) (hM.row (vp_lt (n := 4) hrp1707.1)).1 (hM.row (vp_lt (n := 4) hrp1707.1)).2
          refine va_aldq hx hb hK hP j1725 3 hj1725 rfl hup1711.1 dX7_follow_42 ?_
          have hjl1726 : (5 * xp.toNatClampNeg + xn.toNatClampNeg) < 20 := by have h1 := (vp_lt (n := 4) hrp1707.1); have h2 := (vp_lt (n := 5) hup1711.1); omega
          refine W.eq (g2 := F0 m 43 ls [.ref (w (21 + (5 * xp.toNatClampNeg + xn.toNatClampNeg)))]) (by rw [hM.qr (vp_lt (n := 4) hrp1707.1) (vp_lt (n := 5) hup1711.1)]; rfl) ?_
          refine lv_astore (lv' := [(4, .ref (w (21 + (5 * xp.toNatClampNeg + xn.toNatClampNeg)))), (3, .ref (w (21 + (5 * xp.toNatClampNeg + n1718)))), (0, .ref (w 0)), (1, .int xn), (2, .int xp)]) hx hb dX7_follow_43 hl (by decide) rfl (fun ls hl => ?_)
          refine lv_aload_n hx hb dX7_follow_45 rfl (lv_at hl 1 rfl) ?_
          refine lv_ifnonnull (tgt := 52) hx hb dX7_follow_46 (by decide) ?_
          have hFL : ¬ (5 * xp.toNatClampNeg + xn.toNatClampNeg) = (5 * xp.toNatClampNeg + n1718) := by
            intro q
            have q2 : xn.toNatClampNeg = n1718 := by omega
            refine c1715 ?_
            rw [ex1714, eln1718, ← q2]
            exact (xnI hup1711.1 (by decide)).symm
          obtain ⟨ha1727, hb1727, hc1727, hd1727, he1727, hf1727⟩ := hML (5 * xp.toNatClampNeg + xn.toNatClampNeg) hjl1726
          obtain ⟨ha1728, hb1728, hc1728, hd1728, he1728, hf1728⟩ := hML (5 * xp.toNatClampNeg + n1718) hjn1718
          have hMX : MLx w E (5 * xp.toNatClampNeg + xn.toNatClampNeg) I := hML.x
          refine wq_gen (fun Qz hQz => ?_)
          have hJN73 : ∀ (Ia1729 Ja1729 : Nat → Nat → Int32) (H : Heap) (locs : List Loc) (ls : Array Slot), FS w E (5 * xp.toNatClampNeg + xn.toNatClampNeg) (5 * xp.toNatClampNeg + n1718) Ia1729 → Ja1729 (w 4) xp.toNatClampNeg = nI n1718 → RM w [] I J Ia1729 Ja1729 → MD w Ja1729 → MU w Ia1729 → va_P (dC, dI) vwCl (va_pl L (wF cy K N T Ia1729 Q Ja1729)) H → va_D A (va_pl L (wF cy K N T Ia1729 Q Ja1729)) → va_S A s.heap H locs → lv_has ls 7 [(0, .ref (w 0)), (1, .int xn), (2, .int xp), (3, .ref (w (21 + (5 * xp.toNatClampNeg + n1718)))), (4, .ref (w (21 + (5 * xp.toNatClampNeg + xn.toNatClampNeg))))] → W p l e (headSpec wsX7_follow ({ frames := 4, cells := 0, slots := 0, locals := 99 })).room s m ([.ref (w 0), .int xn, .int xp] : List Value).toArray below meth c H locs 0 0 Qz (F0 m 73 ls []) := by
            intro Ia1729 Ja1729 H locs ls hFS el1729 hR hMD hMU hP hD hS hl
            obtain ⟨hMX, fa1729, fb1729, fc1729, fd1729, fe1729⟩ := hFS
            obtain ⟨la1729, lb1729, lc1729, ld1729, le1729, lf1729⟩ := hMX (5 * xp.toNatClampNeg + n1718) hjn1718 (by omega)
            have hJN147 : ∀ (Ia1730 Ja1730 : Nat → Nat → Int32) (H : Heap) (locs : List Loc) (ls : Array Slot), FS w E (5 * xp.toNatClampNeg + xn.toNatClampNeg) (5 * xp.toNatClampNeg + n1718) Ia1730 → Ja1730 (w 4) xp.toNatClampNeg = nI n1718 → RM w [] I J Ia1730 Ja1730 → MD w Ja1730 → MU w Ia1730 → va_P (dC, dI) vwCl (va_pl L (wF cy K N T Ia1730 Q Ja1730)) H → va_D A (va_pl L (wF cy K N T Ia1730 Q Ja1730)) → va_S A s.heap H locs → lv_has ls 7 [(0, .ref (w 0)), (1, .int xn), (2, .int xp), (3, .ref (w (21 + (5 * xp.toNatClampNeg + n1718)))), (4, .ref (w (21 + (5 * xp.toNatClampNeg + xn.toNatClampNeg))))] → W p l e (headSpec wsX7_follow ({ frames := 4, cells := 0, slots := 0, locals := 99 })).room s m ([.ref (w 0), .int xn, .int xp] : List Value).toArray below meth c H locs 0 0 Qz (F0 m 147 ls []) := by
              intro Ia1730 Ja1730 H locs ls hFS el1730 hR hMD hMU hP hD hS hl
              obtain ⟨hMX, fa1730, fb1730, fc1730, fd1730, fe1730⟩ := hFS
              obtain ⟨la1730, lb1730, lc1730, ld1730, le1730, lf1730⟩ := hMX (5 * xp.toNatClampNeg + n1718) hjn1718 (by omega)
              have hJN196 : ∀ (Ia1731 Ja1731 : Nat → Nat → Int32) (H : Heap) (locs : List Loc) (ls : Array Slot), FS w E (5 * xp.toNatClampNeg + xn.toNatClampNeg) (5 * xp.toNatClampNeg + n1718) Ia1731 → Ja1731 (w 4) xp.toNatClampNeg = nI n1718 → RM w [] I J Ia1731 Ja1731 → MD w Ja1731 → MU w Ia1731 → va_P (dC, dI) vwCl (va_pl L (wF cy K N T Ia1731 Q Ja1731)) H → va_D A (va_pl L (wF cy K N T Ia1731 Q Ja1731)) → va_S A s.heap H locs → lv_has ls 7 [(0, .ref (w 0)), (1, .int xn), (2, .int xp), (3, .ref (w (21 + (5 * xp.toNatClampNeg + n1718)))), (4, .ref (w (21 + (5 * xp.toNatClampNeg + xn.toNatClampNeg))))] → W p l e (headSpec wsX7_follow ({ frames := 4, cells := 0, slots := 0, locals := 99 })).room s m ([.ref (w 0), .int xn, .int xp] : List Value).toArray below meth c H locs 0 0 Qz (F0 m 196 ls []) := by
                intro Ia1731 Ja1731 H locs ls hFS el1731 hR hMD hMU hP hD hS hl
                obtain ⟨hMX, fa1731, fb1731, fc1731, fd1731, fe1731⟩ := hFS
                obtain ⟨la1731, lb1731, lc1731, ld1731, le1731, lf1731⟩ := hMX (5 * xp.toNatClampNeg + n1718) hjn1718 (by omega)
                have hJN220 : ∀ (Ia1732 Ja1732 : Nat → Nat → Int32) (H : Heap) (locs : List Loc) (ls : Array Slot), FS w E (5 * xp.toNatClampNeg + xn.toNatClampNeg) (5 * xp.toNatClampNeg + n1718) Ia1732 → Ja1732 (w 4) xp.toNatClampNeg = nI n1718 → RM w [] I J Ia1732 Ja1732 → MD w Ja1732 → MU w Ia1732 → va_P (dC, dI) vwCl (va_pl L (wF cy K N T Ia1732 Q Ja1732)) H → va_D A (va_pl L (wF cy K N T Ia1732 Q Ja1732)) → va_S A s.heap H locs → lv_has ls 7 [(0, .ref (w 0)), (1, .int xn), (2, .int xp), (3, .ref (w (21 + (5 * xp.toNatClampNeg + n1718)))), (4, .ref (w (21 + (5 * xp.toNatClampNeg + xn.toNatClampNeg))))] → W p l e (headSpec wsX7_follow ({ frames := 4, cells := 0, slots := 0, locals := 99 })).room s m ([.ref (w 0), .int xn, .int xp] : List Value).toArray below meth c H locs 0 0 Qz (F0 m 220 ls []) := by
                  intro Ia1732 Ja1732 H locs ls hFS el1732 hR hMD hMU hP hD hS hl
                  obtain ⟨hMX, fa1732, fb1732, fc1732, fd1732, fe1732⟩ := hFS
                  obtain ⟨la1732, lb1732, lc1732, ld1732, le1732, lf1732⟩ := hMX (5 * xp.toNatClampNeg + n1718) hjn1718 (by omega)
                  refine lv_aload_n hx hb dX7_follow_220 rfl (lv_at hl 0 rfl) ?_
                  refine lv_iload_n hx hb dX7_follow_221 rfl (lv_at hl 2 rfl) ?_
                  obtain ⟨j1733, hj1733⟩ := wG_7 (cy := cy) (N := N) (T := T) (I := Ia1732) (Q := Q) (J := Ja1732) (hM.at 0 (by decide)) (hM.k 0 (by decide) rfl)
                  have hFc := pfree hD hS hA
                  refine va_callv (va_runV (As := [.int xp]) (rest := []) ⟨hx, hb, hml, hown, hts⟩ (c_X7_rise l dC dI cy w L K N T Q Ia1732 Ja1732 H.size xp hM hrp1707.1 (hMD _ (vp_lt (n := 4) hrp1707.1))) (cwV 1 hts gX7_follow_X7_rise rfl rfl rfl (by decide +kernel) ⟨Nat.le_of_ble_eq_true rfl, Nat.le_of_ble_eq_true rfl⟩) ⟨mw_blind, va_recv hK hP (ci := 7) (q0 := j1733) rfl hj1733, fun U hU hW => ⟨rfl, mw_pre hP hK hD hU hW⟩⟩ rfl rfl hl.1 rfl (lv_room (Nat.le_of_ble_eq_true rfl)) dX7_follow_222 ⟨Nat.le_of_ble_eq_true rfl, Nat.le_of_ble_eq_true rfl⟩) hS (fun q _ h => hFc q h) hFc (fun d9 t H1 locs ht hvm hw hB hz1 hk1 hS => ?_)
                  obtain ⟨I1734, J1734⟩ := d9
                  obtain ⟨hP, hK1, hD1⟩ := hB
                  rw [ht] at hP
                  have hD := hD1.weaken (fun _ _ _ h => hFc _ h)
                  generalize H1 = H at hP hS ⊢
                  have hP : va_P (dC, dI) vwCl (va_pl L (wF cy K N T I1734 Q J1734)) H := hP
                  have hD : va_D A (va_pl L (wF cy K N T I1734 Q J1734)) := hD
                  have hw1736 : RZ w Ia1732 Ja1732 I1734 J1734 xp.toNatClampNeg := hw
                  have hR : RM w [] I J I1734 J1734 := hR.rz hM (vp_lt (n := 4) hrp1707.1) hw1736
                  have hMD : MD w J1734 := hMD.rz hw1736
                  have hMU : MU w I1734 := hMU.rz hM (vp_lt (n := 4) hrp1707.1) hw1736
                  have hMX : MLx w E (5 * xp.toNatClampNeg + xn.toNatClampNeg) I1734 := hMX.rz hM (vp_lt (n := 4) hrp1707.1) hw1736
                  have f1hw1736 : (I1734 (w (21 + (5 * xp.toNatClampNeg + xn.toNatClampNeg))) 1).toInt = (Ia1732 (w (21 + (5 * xp.toNatClampNeg + xn.toNatClampNeg))) 1).toInt := congrArg Int32.toInt (RZ.f hM (vp_lt (n := 4) hrp1707.1) hw1736 hjl1726 (by decide))
                  have l1hw1736 : (I1734 (w (21 + (5 * xp.toNatClampNeg + n1718))) 1).toInt = (Ia1732 (w (21 + (5 * xp.toNatClampNeg + n1718))) 1).toInt := congrArg Int32.toInt (RZ.f hM (vp_lt (n := 4) hrp1707.1) hw1736 hjn1718 (by decide))
                  have f2hw1736 : (I1734 (w (21 + (5 * xp.toNatClampNeg + xn.toNatClampNeg))) 2).toInt = (Ia1732 (w (21 + (5 * xp.toNatClampNeg + xn.toNatClampNeg))) 2).toInt := congrArg Int32.toInt (RZ.f hM (vp_lt (n := 4) hrp1707.1) hw1736 hjl1726 (by decide))
                  have l2hw1736 : (I1734 (w (21 + (5 * xp.toNatClampNeg + n1718))) 2).toInt = (Ia1732 (w (21 + (5 * xp.toNatClampNeg + n1718))) 2).toInt := congrArg Int32.toInt (RZ.f hM (vp_lt (n := 4) hrp1707.1) hw1736 hjn1718 (by decide))
                  have el1738 : J1734 (w 4) xp.toNatClampNeg = nI n1718 := by rw [hw1736.1]; exact (by exact el1732)
                  refine lv_iconst (v := 0) hx hb dX7_follow_225 (by decide) ?_
                  refine lv_istore (lv' := [(6, .int 0), (0, .ref (w 0)), (1, .int xn), (2, .int xp), (3, .ref (w (21 + (5 * xp.toNatClampNeg + n1718)))), (4, .ref (w (21 + (5 * xp.toNatClampNeg + xn.toNatClampNeg))))]) hx hb dX7_follow_226 hl (by decide) rfl (fun ls hl => ?_)
                  have hLP1739 : ∀ (n : Nat) (y1740 : Int32) (Ia1739 Ja1739 : Nat → Nat → Int32) (H : Heap) (locs : List Loc) (ls : Array Slot), (5 - y1740.toInt).toNat < n → 0 ≤ y1740.toInt → (MLx w E (5 * xp.toNatClampNeg + xn.toNatClampNeg) Ia1739 ∧ Ja1739 (w 4) xp.toNatClampNeg = nI n1718 ∧ 0 ≤ (Ia1739 (w (21 + (5 * xp.toNatClampNeg + xn.toNatClampNeg))) 1).toInt ∧ (Ia1739 (w (21 + (5 * xp.toNatClampNeg + xn.toNatClampNeg))) 1).toInt ≤ (Ia1739 (w (21 + (5 * xp.toNatClampNeg + xn.toNatClampNeg))) 2).toInt ∧ (Ia1739 (w (21 + (5 * xp.toNatClampNeg + xn.toNatClampNeg))) 2).toInt ≤ (Ia1739 (w (21 + (5 * xp.toNatClampNeg + xn.toNatClampNeg))) 1).toInt + 60 + y1740.toInt ∧ (Ia1739 (w (21 + (5 * xp.toNatClampNeg + xn.toNatClampNeg))) 2).toInt ≤ E ∧ (Ia1739 (w (21 + (5 * xp.toNatClampNeg + n1718))) 1).toInt ≤ (Ia1739 (w (21 + (5 * xp.toNatClampNeg + xn.toNatClampNeg))) 2).toInt ∧ (y1740.toInt = 0 ∨ (Ia1739 (w (21 + (5 * xp.toNatClampNeg + xn.toNatClampNeg))) 2).toInt ≤ (Ia1739 (w (21 + (5 * xp.toNatClampNeg + n1718))) 2).toInt) ∧ y1740.toInt ≤ 5) → RM w [] I J Ia1739 Ja1739 → MD w Ja1739 → MU w Ia1739 →  va_P (dC, dI) vwCl (va_pl L (wF cy K N T Ia1739 Q Ja1739)) H → va_D A (va_pl L (wF cy K N T Ia1739 Q Ja1739)) → va_S A s.heap H locs → lv_has ls 7 [(6, .int y1740), (0, .ref (w 0)), (1, .int xn), (2, .int xp), (3, .ref (w (21 + (5 * xp.toNatClampNeg + n1718)))), (4, .ref (w (21 + (5 * xp.toNatClampNeg + xn.toNatClampNeg))))] → W p l e (headSpec wsX7_follow ({ frames := 4, cells := 0, slots := 0, locals := 99 })).room s m ([.ref (w 0), .int xn, .int xp] : List Value).toArray below meth c H locs 0 0 Qz (F0 m 228 ls []) := by
                    intro n
                    induction n with
                    | zero => intro y1740 Ia1739 Ja1739 H locs ls hms; exact absurd hms (Nat.not_lt_zero _)
                    | succ n ih1739 =>
                      intro y1740 Ia1739 Ja1739 H locs ls hms hnn1739 hiv1739 hR hMD hMU hP hD hS hl
                      obtain ⟨hMX, el1741, ma1741, mb1741, mc1741, md1741, me1741, mf1741, mg1741⟩ := hiv1739
                      obtain ⟨la1741, lb1741, lc1741, ld1741, le1741, lf1741⟩ := hMX (5 * xp.toNatClampNeg + n1718) hjn1718 (by omega)
                      refine lv_iload hx hb dX7_follow_228 (lv_at hl 0 rfl) ?_
                      refine lv_iconst (v := 5) hx hb dX7_follow_230 (by decide) ?_
                      refine lv_icmp_ge (tgt := 263) hx hb dX7_follow_231 (by decide) (fun c1742 => ?_) (fun c1742 => ?_)
                      · have kc1742 : 5 ≤ y1740.toInt := by have h9 := c1742; rw [xk_le, xk_5] at h9; exact h9
                        refine lv_aload hx hb dX7_follow_263 (lv_at hl 5 rfl) ?_
                        refine lv_aload_n hx hb dX7_follow_265 rfl (lv_at hl 4 rfl) ?_
                        obtain ⟨j1743, hj1743⟩ := wG_6 (cy := cy) (N := N) (T := T) (I := Ia1739) (Q := Q) (J := Ja1739) (hM.lg hjn1718).1 (hM.lg hjn1718).2
                        refine va_get (D := (dC, dI)) (ci := 6) (v := .int (Ia1739 (w (21 + (5 * xp.toNatClampNeg + n1718))) 1)) (C := RX6) (T := TX6) (N := 7) hx hb hts hi6 hown hK hP j1743 hj1743 rfl 1 (by decide) (hts (.fieldLink RX7 134 "TallyLogsModel$Log" "start" "I") (by decide +kernel)) (fun _ h9 => h9) rfl dX7_follow_266 ?_
                        refine lv_topi (fun x1744 ex1744 => ?_)
                        have tx1744 : x1744.toInt = (Ia1739 (w (21 + (5 * xp.toNatClampNeg + n1718))) 1).toInt := congrArg Int32.toInt ex1744
                        obtain ⟨j1745, hj1745⟩ := wG_6 (cy := cy) (N := N) (T := T) (I := Ia1739) (Q := Q) (J := Ja1739) (hM.lg hjl1726).1 (hM.lg hjl1726).2
                        have hFc := pfree hD hS hA
                        refine va_callv (va_runV (As := [.int x1744]) (rest := []) ⟨hx, hb, hml, hown, hts⟩ (c_X6_from l dC dI cy w L K N T Q Ia1739 Ja1739 H.size (5 * xp.toNatClampNeg + xn.toNatClampNeg) x1744 hM hjl1726 (by omega) (by omega) (by omega)) (cwV 1 hts gX7_follow_X6_from rfl rfl rfl (by decide +kernel) ⟨Nat.le_of_ble_eq_true rfl, Nat.le_of_ble_eq_true rfl⟩) ⟨mw_blind, va_recv hK hP (ci := 6) (q0 := j1745) rfl hj1745, fun U hU hW => ⟨rfl, mw_pre hP hK hD hU hW⟩⟩ rfl rfl hl.1 rfl (lv_room (Nat.le_of_ble_eq_true rfl)) dX7_follow_269 ⟨Nat.le_of_ble_eq_true rfl, Nat.le_of_ble_eq_true rfl⟩) hS (fun q _ h => hFc q h) hFc (fun d9 t H1 locs ht hvm hw hB hz1 hk1 hS => ?_)
                        obtain ⟨I1746, J1746⟩ := d9
                        obtain ⟨hP, hK1, hD1⟩ := hB
                        rw [ht] at hP
                        have hD := hD1.weaken (fun _ _ _ h => hFc _ h)
                        generalize H1 = H at hP hS ⊢
                        have hP : va_P (dC, dI) vwCl (va_pl L (wF cy K N T I1746 Q J1746)) H := hP
                        have hD : va_D A (va_pl L (wF cy K N T I1746 Q J1746)) := hD
                        have hw1748 : LW w Ia1739 Ja1739 I1746 J1746 (5 * xp.toNatClampNeg + xn.toNatClampNeg) _ _ := hw
                        have hR : RM w [] I J I1746 J1746 := hR.lw hM hjl1726 hw1748
                        have hMD : MD w J1746 := hMD.lw hM hjl1726 hw1748
                        have hMU : MU w I1746 := hMU.lw hM hjl1726 hw1748
                        have hMX : MLx w E (5 * xp.toNatClampNeg + xn.toNatClampNeg) I1746 := hMX.lw hM hjl1726 hw1748
                        have q1hw1748 : (I1746 (w (21 + (5 * xp.toNatClampNeg + xn.toNatClampNeg))) 1).toInt = _ := hw1748.2.2.1
                        have q2hw1748 : (I1746 (w (21 + (5 * xp.toNatClampNeg + xn.toNatClampNeg))) 2).toInt = _ := hw1748.2.2.2
                        have q4hw1748 : (I1746 (w (21 + (5 * xp.toNatClampNeg + xn.toNatClampNeg))) 4).toInt = _ := congrArg Int32.toInt hw1748.f4
                        have l1hw1748 : (I1746 (w (21 + (5 * xp.toNatClampNeg + n1718))) 1).toInt = _ := congrArg Int32.toInt (hw1748.other hM hjl1726 hjn1718 (f := 1) (by omega))
                        have l2hw1748 : (I1746 (w (21 + (5 * xp.toNatClampNeg + n1718))) 2).toInt = _ := congrArg Int32.toInt (hw1748.other hM hjl1726 hjn1718 (f := 2) (by omega))
                        have l3hw1748 : (I1746 (w (21 + (5 * xp.toNatClampNeg + n1718))) 3).toInt = _ := congrArg Int32.toInt (hw1748.other hM hjl1726 hjn1718 (f := 3) (by omega))
                        have el1749 : J1746 (w 4) xp.toNatClampNeg = nI n1718 := by rw [hw1748.2.1 _ (hM.ne (i := 4) (by omega) (by omega) (by omega))]; exact (by exact el1741)
                        refine lv_aload hx hb dX7_follow_272 (lv_at hl 5 rfl) ?_
                        refine lv_aload_n hx hb dX7_follow_274 rfl (lv_at hl 4 rfl) ?_
                        obtain ⟨j1750, hj1750⟩ := wG_6 (cy := cy) (N := N) (T := T) (I := I1746) (Q := Q) (J := J1746) (hM.lg hjn1718).1 (hM.lg hjn1718).2
                        refine va_get (D := (dC, dI)) (ci := 6) (v := .int (I1746 (w (21 + (5 * xp.toNatClampNeg + n1718))) 3)) (C := RX6) (T := TX6) (N := 7) hx hb hts hi6 hown hK hP j1750 hj1750 rfl 3 (by decide) (hts (.fieldLink RX7 109 "TallyLogsModel$Log" "high" "I") (by decide +kernel)) (fun _ h9 => h9) rfl dX7_follow_275 ?_
                        refine lv_topi (fun x1751 ex1751 => ?_)
                        have tx1751 : x1751.toInt = (I1746 (w (21 + (5 * xp.toNatClampNeg + n1718))) 3).toInt := congrArg Int32.toInt ex1751
                        refine lv_aload hx hb dX7_follow_278 (lv_at hl 5 rfl) ?_
                        obtain ⟨j1752, hj1752⟩ := wG_6 (cy := cy) (N := N) (T := T) (I := I1746) (Q := Q) (J := J1746) (hM.lg hjl1726).1 (hM.lg hjl1726).2
                        refine va_get (D := (dC, dI)) (ci := 6) (v := .int (I1746 (w (21 + (5 * xp.toNatClampNeg + xn.toNatClampNeg))) 2)) (C := RX6) (T := TX6) (N := 7) hx hb hts hi6 hown hK hP j1752 hj1752 rfl 2 (by decide) (hts (.fieldLink RX7 89 "TallyLogsModel$Log" "end" "I") (by decide +kernel)) (fun _ h9 => h9) rfl dX7_follow_280 ?_
                        refine lv_topi (fun x1753 ex1753 => ?_)
                        have tx1753 : x1753.toInt = (I1746 (w (21 + (5 * xp.toNatClampNeg + xn.toNatClampNeg))) 2).toInt := congrArg Int32.toInt ex1753
                        refine va_mmin hx hb (by rw [hml]; exact hl.1.symm) hown (hts (.methodLink RX7 105 Lib.Math.min.name) (by decide +kernel)) (hts (.static Lib.Math.min.name) (by decide +kernel)) (hts (.initialized "java/lang/Math") (by decide +kernel)) (hts _ (List.mem_of_getElem? (i := 12) rfl)) (Nat.le_of_ble_eq_true rfl) (Nat.le_of_ble_eq_true rfl) (Nat.le_of_ble_eq_true rfl) (Nat.le_of_ble_eq_true rfl) dX7_follow_283 ?_
                        refine lv_topi (fun z1754 ez1754 => ?_)
                        have tz1754 : z1754.toInt = min x1751.toInt x1753.toInt := (xmin_t ez1754)
                        obtain ⟨j1755, hj1755⟩ := wG_6 (cy := cy) (N := N) (T := T) (I := I1746) (Q := Q) (J := J1746) (hM.lg hjl1726).1 (hM.lg hjl1726).2
                        have hDo := hD
                        refine va_put (D := (dC, dI)) (ci := 6) (v := .int z1754) (ty := .int) (C := RX6) (T := TX6) (N := 7) hx hb hts hi6 tyX6 tyX6_ok nmX6 hown hK hP hD hS j1755 hj1755 rfl 3 (by decide) (hts (.fieldLink RX7 109 "TallyLogsModel$Log" "high" "I") (by decide +kernel)) (fun _ h9 => h9) rfl (by decide +kernel) rfl rfl (Nat.le_of_ble_eq_true rfl) dX7_follow_286 (fun H locs hP hD hS => ?_)
                        have hP := Eq.mp (congrArg (fun w => va_P (dC, dI) vwCl w H) (wP_6_3 (x := z1754) hDo (hM.lg hjl1726).1 (hM.lg hjl1726).2 hj1755)) hP
                        obtain ⟨I1756, eI1756⟩ : ∃ z, z = p2 I1746 (w (21 + (5 * xp.toNatClampNeg + xn.toNatClampNeg))) 3 z1754 := ⟨_, rfl⟩
                        rw [← eI1756] at hP
                        have hD : va_D A (va_pl L (wF cy K N T I1756 Q J1746)) := pD hDo
                        have hR : RM w [] I J I1756 J1746 := by rw [eI1756]; exact hR.pl hM hjl1726
                        have hMU : MU w I1756 := by rw [eI1756]; exact hMU.pl hM hjl1726
                        have hMX : MLx w E (5 * xp.toNatClampNeg + xn.toNatClampNeg) I1756 := by rw [eI1756]; exact hMX.put hM hjl1726
                        refine lv_aload hx hb dX7_follow_289 (lv_at hl 5 rfl) ?_
                        refine lv_aload hx hb dX7_follow_291 (lv_at hl 5 rfl) ?_
                        obtain ⟨j1757, hj1757⟩ := wG_6 (cy := cy) (N := N) (T := T) (I := I1756) (Q := Q) (J := J1746) (hM.lg hjl1726).1 (hM.lg hjl1726).2
                        refine va_get (D := (dC, dI)) (ci := 6) (v := .int (I1756 (w (21 + (5 * xp.toNatClampNeg + xn.toNatClampNeg))) 1)) (C := RX6) (T := TX6) (N := 7) hx hb hts hi6 hown hK hP j1757 hj1757 rfl 1 (by decide) (hts (.fieldLink RX7 134 "TallyLogsModel$Log" "start" "I") (by decide +kernel)) (fun _ h9 => h9) rfl dX7_follow_293 ?_
                        refine lv_topi (fun x1758 ex1758 => ?_)
                        have ex1758 : x1758 = I1746 (w (21 + (5 * xp.toNatClampNeg + xn.toNatClampNeg))) 1 := by rw [ex1758, eI1756, p2_ne _ _ (fun q => absurd q.2 (by decide))]
                        have tx1758 : x1758.toInt = (I1746 (w (21 + (5 * xp.toNatClampNeg + xn.toNatClampNeg))) 1).toInt := congrArg Int32.toInt ex1758
                        refine lv_aload hx hb dX7_follow_296 (lv_at hl 5 rfl) ?_
                        obtain ⟨j1759, hj1759⟩ := wG_6 (cy := cy) (N := N) (T := T) (I := I1756) (Q := Q) (J := J1746) (hM.lg hjl1726).1 (hM.lg hjl1726).2
                        refine va_get (D := (dC, dI)) (ci := 6) (v := .int (I1756 (w (21 + (5 * xp.toNatClampNeg + xn.toNatClampNeg))) 4)) (C := RX6) (T := TX6) (N := 7) hx hb hts hi6 hown hK hP j1759 hj1759 rfl 4 (by decide) (hts (.fieldLink RX7 158 "TallyLogsModel$Log" "flushed" "I") (by decide +kernel)) (fun _ h9 => h9) rfl dX7_follow_298 ?_
                        refine lv_topi (fun x1760 ex1760 => ?_)
                        have ex1760 : x1760 = I1746 (w (21 + (5 * xp.toNatClampNeg + xn.toNatClampNeg))) 4 := by rw [ex1760, eI1756, p2_ne _ _ (fun q => absurd q.2 (by decide))]
                        have tx1760 : x1760.toInt = (I1746 (w (21 + (5 * xp.toNatClampNeg + xn.toNatClampNeg))) 4).toInt := congrArg Int32.toInt ex1760
                        refine lv_aload hx hb dX7_follow_301 (lv_at hl 5 rfl) ?_
                        obtain ⟨j1761, hj1761⟩ := wG_6 (cy := cy) (N := N) (T := T) (I := I1756) (Q := Q) (J := J1746) (hM.lg hjl1726).1 (hM.lg hjl1726).2
                        refine va_get (D := (dC, dI)) (ci := 6) (v := .int (I1756 (w (21 + (5 * xp.toNatClampNeg + xn.toNatClampNeg))) 2)) (C := RX6) (T := TX6) (N := 7) hx hb hts hi6 hown hK hP j1761 hj1761 rfl 2 (by decide) (hts (.fieldLink RX7 89 "TallyLogsModel$Log" "end" "I") (by decide +kernel)) (fun _ h9 => h9) rfl dX7_follow_303 ?_
                        refine lv_topi (fun x1762 ex1762 => ?_)
                        have ex1762 : x1762 = I1746 (w (21 + (5 * xp.toNatClampNeg + xn.toNatClampNeg))) 2 := by rw [ex1762, eI1756, p2_ne _ _ (fun q => absurd q.2 (by decide))]
                        have tx1762 : x1762.toInt = (I1746 (w (21 + (5 * xp.toNatClampNeg + xn.toNatClampNeg))) 2).toInt := congrArg Int32.toInt ex1762
                        refine va_mmin hx hb (by rw [hml]; exact hl.1.symm) hown (hts (.methodLink RX7 105 Lib.Math.min.name) (by decide +kernel)) (hts (.static Lib.Math.min.name) (by decide +kernel)) (hts (.initialized "java/lang/Math") (by decide +kernel)) (hts _ (List.mem_of_getElem? (i := 12) rfl)) (Nat.le_of_ble_eq_true rfl) (Nat.le_of_ble_eq_true rfl) (Nat.le_of_ble_eq_true rfl) (Nat.le_of_ble_eq_true rfl) dX7_follow_306 ?_
                        refine lv_topi (fun z1763 ez1763 => ?_)
                        have tz1763 : z1763.toInt = min x1760.toInt x1762.toInt := (xmin_t ez1763)
                        refine va_mmax hx hb (by rw [hml]; exact hl.1.symm) hown (hts (.methodLink RX7 155 Lib.Math.max.name) (by decide +kernel)) (hts (.static Lib.Math.max.name) (by decide +kernel)) (hts (.initialized "java/lang/Math") (by decide +kernel)) (hts _ (List.mem_of_getElem? (i := 8) rfl)) (Nat.le_of_ble_eq_true rfl) (Nat.le_of_ble_eq_true rfl) (Nat.le_of_ble_eq_true rfl) (Nat.le_of_ble_eq_true rfl) dX7_follow_309 ?_
                        refine lv_topi (fun z1764 ez1764 => ?_)
                        have tz1764 : z1764.toInt = max x1758.toInt z1763.toInt := (xmax_t ez1764)
                        obtain ⟨j1765, hj1765⟩ := wG_6 (cy := cy) (N := N) (T := T) (I := I1756) (Q := Q) (J := J1746) (hM.lg hjl1726).1 (hM.lg hjl1726).2
                        have hDo := hD
                        refine va_put (D := (dC, dI)) (ci := 6) (v := .int z1764) (ty := .int) (C := RX6) (T := TX6) (N := 7) hx hb hts hi6 tyX6 tyX6_ok nmX6 hown hK hP hD hS j1765 hj1765 rfl 4 (by decide) (hts (.fieldLink RX7 158 "TallyLogsModel$Log" "flushed" "I") (by decide +kernel)) (fun _ h9 => h9) rfl (by decide +kernel) rfl rfl (Nat.le_of_ble_eq_true rfl) dX7_follow_312 (fun H locs hP hD hS => ?_)
                        have hP := Eq.mp (congrArg (fun w => va_P (dC, dI) vwCl w H) (wP_6_4 (x := z1764) hDo (hM.lg hjl1726).1 (hM.lg hjl1726).2 hj1765)) hP
                        obtain ⟨I1766, eI1766⟩ : ∃ z, z = p2 I1756 (w (21 + (5 * xp.toNatClampNeg + xn.toNatClampNeg))) 4 z1764 := ⟨_, rfl⟩
                        rw [← eI1766] at hP
                        have hD : va_D A (va_pl L (wF cy K N T I1766 Q J1746)) := pD hDo
                        have hR : RM w [] I J I1766 J1746 := by rw [eI1766]; exact hR.pl hM hjl1726
                        have hMU : MU w I1766 := by rw [eI1766]; exact hMU.pl hM hjl1726
                        have hMX : MLx w E (5 * xp.toNatClampNeg + xn.toNatClampNeg) I1766 := by rw [eI1766]; exact hMX.put hM hjl1726
                        have z1767_1 : (I1766 (w (21 + (5 * xp.toNatClampNeg + xn.toNatClampNeg))) 1).toInt = (I1746 (w (21 + (5 * xp.toNatClampNeg + xn.toNatClampNeg))) 1).toInt := by rw [eI1766, p2_ne _ _ (fun q => absurd q.2 (by decide)), eI1756, p2_ne _ _ (fun q => absurd q.2 (by decide))]
                        have z1767_2 : (I1766 (w (21 + (5 * xp.toNatClampNeg + xn.toNatClampNeg))) 2).toInt = (I1746 (w (21 + (5 * xp.toNatClampNeg + xn.toNatClampNeg))) 2).toInt := by rw [eI1766, p2_ne _ _ (fun q => absurd q.2 (by decide)), eI1756, p2_ne _ _ (fun q => absurd q.2 (by decide))]
                        have z1767_3 : (I1766 (w (21 + (5 * xp.toNatClampNeg + xn.toNatClampNeg))) 3).toInt = z1754.toInt := by rw [eI1766, p2_ne _ _ (fun q => absurd q.2 (by decide)), eI1756, p2_at]
                        have z1767_4 : (I1766 (w (21 + (5 * xp.toNatClampNeg + xn.toNatClampNeg))) 4).toInt = z1764.toInt := by rw [eI1766, p2_at]
                        have hMLz : ML w E I1766 := hMX.to ⟨by omega, by omega, by omega, by omega, by omega, by omega⟩
                        refine lv_iload hx hb dX7_follow_315 (lv_at hl 0 rfl) ?_
                        rw [hQz]
                        exact W.iret (v := y1740) hx hb hr (fun t ht hW => ⟨⟨y1740, (I1766, J1746), rfl, ⟨⟨hMLz.mono (by omega), hMD, hMU⟩, hR⟩, by rw [ht]; exact hP, va_K.moved hW.alike hK, hD⟩, hS.F ht⟩) hS.2.2 dX7_follow_317
                      · have kc1742 : ¬ (5 ≤ y1740.toInt) := by have h9 := c1742; rw [xk_le, xk_5] at h9; exact h9
                        refine lv_aload hx hb dX7_follow_234 (lv_at hl 5 rfl) ?_
                        obtain ⟨j1768, hj1768⟩ := wG_6 (cy := cy) (N := N) (T := T) (I := Ia1739) (Q := Q) (J := Ja1739) (hM.lg hjl1726).1 (hM.lg hjl1726).2
                        refine va_get (D := (dC, dI)) (ci := 6) (v := .int (Ia1739 (w (21 + (5 * xp.toNatClampNeg + xn.toNatClampNeg))) 2)) (C := RX6) (T := TX6) (N := 7) hx hb hts hi6 hown hK hP j1768 hj1768 rfl 2 (by decide) (hts (.fieldLink RX7 89 "TallyLogsModel$Log" "end" "I") (by decide +kernel)) (fun _ h9 => h9) rfl dX7_follow_236 ?_
                        refine lv_topi (fun x1769 ex1769 => ?_)
                        have tx1769 : x1769.toInt = (Ia1739 (w (21 + (5 * xp.toNatClampNeg + xn.toNatClampNeg))) 2).toInt := congrArg Int32.toInt ex1769
                        refine lv_aload_n hx hb dX7_follow_239 rfl (lv_at hl 4 rfl) ?_
                        obtain ⟨j1770, hj1770⟩ := wG_6 (cy := cy) (N := N) (T := T) (I := Ia1739) (Q := Q) (J := Ja1739) (hM.lg hjn1718).1 (hM.lg hjn1718).2
                        refine va_get (D := (dC, dI)) (ci := 6) (v := .int (Ia1739 (w (21 + (5 * xp.toNatClampNeg + n1718))) 2)) (C := RX6) (T := TX6) (N := 7) hx hb hts hi6 hown hK hP j1770 hj1770 rfl 2 (by decide) (hts (.fieldLink RX7 89 "TallyLogsModel$Log" "end" "I") (by decide +kernel)) (fun _ h9 => h9) rfl dX7_follow_240 ?_
                        refine lv_topi (fun x1771 ex1771 => ?_)
                        have tx1771 : x1771.toInt = (Ia1739 (w (21 + (5 * xp.toNatClampNeg + n1718))) 2).toInt := congrArg Int32.toInt ex1771
                        refine lv_icmp_ge (tgt := 263) hx hb dX7_follow_243 (by decide) (fun c1772 => ?_) (fun c1772 => ?_)
                        · have kc1772 : x1771.toInt ≤ x1769.toInt := by have h9 := c1772; rw [xk_le] at h9; exact h9
                          refine lv_aload hx hb dX7_follow_263 (lv_at hl 5 rfl) ?_
                          refine lv_aload_n hx hb dX7_follow_265 rfl (lv_at hl 4 rfl) ?_
                          obtain ⟨j1773, hj1773⟩ := wG_6 (cy := cy) (N := N) (T := T) (I := Ia1739) (Q := Q) (J := Ja1739) (hM.lg hjn1718).1 (hM.lg hjn1718).2
                          refine va_get (D := (dC, dI)) (ci := 6) (v := .int (Ia1739 (w (21 + (5 * xp.toNatClampNeg + n1718))) 1)) (C := RX6) (T := TX6) (N := 7) hx hb hts hi6 hown hK hP j1773 hj1773 rfl 1 (by decide) (hts (.fieldLink RX7 134 "TallyLogsModel$Log" "start" "I") (by decide +kernel)) (fun _ h9 => h9) rfl dX7_follow_266 ?_
                          refine lv_topi (fun x1774 ex1774 => ?_)
                          have tx1774 : x1774.toInt = (Ia1739 (w (21 + (5 * xp.toNatClampNeg + n1718))) 1).toInt := congrArg Int32.toInt ex1774
                          obtain ⟨j1775, hj1775⟩ := wG_6 (cy := cy) (N := N) (T := T) (I := Ia1739) (Q := Q) (J := Ja1739) (hM.lg hjl1726).1 (hM.lg hjl1726).2
                          have hFc := pfree hD hS hA
                          refine va_callv (va_runV (As := [.int x1774]) (rest := []) ⟨hx, hb, hml, hown, hts⟩ (c_X6_from l dC dI cy w L K N T Q Ia1739 Ja1739 H.size (5 * xp.toNatClampNeg + xn.toNatClampNeg) x1774 hM hjl1726 (by omega) (by omega) (by omega)) (cwV 1 hts gX7_follow_X6_from rfl rfl rfl (by decide +kernel) ⟨Nat.le_of_ble_eq_true rfl, Nat.le_of_ble_eq_true rfl⟩) ⟨mw_blind, va_recv hK hP (ci := 6) (q0 := j1775) rfl hj1775, fun U hU hW => ⟨rfl, mw_pre hP hK hD hU hW⟩⟩ rfl rfl hl.1 rfl (lv_room (Nat.le_of_ble_eq_true rfl)) dX7_follow_269 ⟨Nat.le_of_ble_eq_true rfl, Nat.le_of_ble_eq_true rfl⟩) hS (fun q _ h => hFc q h) hFc (fun d9 t H1 locs ht hvm hw hB hz1 hk1 hS => ?_)
                          obtain ⟨I1776, J1776⟩ := d9
                          obtain ⟨hP, hK1, hD1⟩ := hB
                          rw [ht] at hP
                          have hD := hD1.weaken (fun _ _ _ h => hFc _ h)
                          generalize H1 = H at hP hS ⊢
                          have hP : va_P (dC, dI) vwCl (va_pl L (wF cy K N T I1776 Q J1776)) H := hP
                          have hD : va_D A (va_pl L (wF cy K N T I1776 Q J1776)) := hD
                          have hw1778 : LW w Ia1739 Ja1739 I1776 J1776 (5 * xp.toNatClampNeg + xn.toNatClampNeg) _ _ := hw
                          have hR : RM w [] I J I1776 J1776 := hR.lw hM hjl1726 hw1778
                          have hMD : MD w J1776 := hMD.lw hM hjl1726 hw1778
                          have hMU : MU w I1776 := hMU.lw hM hjl1726 hw1778
                          have hMX : MLx w E (5 * xp.toNatClampNeg + xn.toNatClampNeg) I1776 := hMX.lw hM hjl1726 hw1778
                          have q1hw1778 : (I1776 (w (21 + (5 * xp.toNatClampNeg + xn.toNatClampNeg))) 1).toInt = _ := hw1778.2.2.1
                          have q2hw1778 : (I1776 (w (21 + (5 * xp.toNatClampNeg + xn.toNatClampNeg))) 2).toInt = _ := hw1778.2.2.2
                          have q4hw1778 : (I1776 (w (21 + (5 * xp.toNatClampNeg + xn.toNatClampNeg))) 4).toInt = _ := congrArg Int32.toInt hw1778.f4
                          have l1hw1778 : (I1776 (w (21 + (5 * xp.toNatClampNeg + n1718))) 1).toInt = _ := congrArg Int32.toInt (hw1778.other hM hjl1726 hjn1718 (f := 1) (by omega))
                          have l2hw1778 : (I1776 (w (21 + (5 * xp.toNatClampNeg + n1718))) 2).toInt = _ := congrArg Int32.toInt (hw1778.other hM hjl1726 hjn1718 (f := 2) (by omega))
                          have l3hw1778 : (I1776 (w (21 + (5 * xp.toNatClampNeg + n1718))) 3).toInt = _ := congrArg Int32.toInt (hw1778.other hM hjl1726 hjn1718 (f := 3) (by omega))
                          have el1779 : J1776 (w 4) xp.toNatClampNeg = nI n1718 := by rw [hw1778.2.1 _ (hM.ne (i := 4) (by omega) (by omega) (by omega))]; exact (by exact el1741)
                          refine lv_aload hx hb dX7_follow_272 (lv_at hl 5 rfl) ?_
                          refine lv_aload_n hx hb dX7_follow_274 rfl (lv_at hl 4 rfl) ?_
                          obtain ⟨j1780, hj1780⟩ := wG_6 (cy := cy) (N := N) (T := T) (I := I1776) (Q := Q) (J := J1776) (hM.lg hjn1718).1 (hM.lg hjn1718).2
                          refine va_get (D := (dC, dI)) (ci := 6) (v := .int (I1776 (w (21 + (5 * xp.toNatClampNeg + n1718))) 3)) (C := RX6) (T := TX6) (N := 7) hx hb hts hi6 hown hK hP j1780 hj1780 rfl 3 (by decide) (hts (.fieldLink RX7 109 "TallyLogsModel$Log" "high" "I") (by decide +kernel)) (fun _ h9 => h9) rfl dX7_follow_275 ?_
                          refine lv_topi (fun x1781 ex1781 => ?_)
                          have tx1781 : x1781.toInt = (I1776 (w (21 + (5 * xp.toNatClampNeg + n1718))) 3).toInt := congrArg Int32.toInt ex1781
                          refine lv_aload hx hb dX7_follow_278 (lv_at hl 5 rfl) ?_
                          obtain ⟨j1782, hj1782⟩ := wG_6 (cy := cy) (N := N) (T := T) (I := I1776) (Q := Q) (J := J1776) (hM.lg hjl1726).1 (hM.lg hjl1726).2
                          refine va_get (D := (dC, dI)) (ci := 6) (v := .int (I1776 (w (21 + (5 * xp.toNatClampNeg + xn.toNatClampNeg))) 2)) (C := RX6) (T := TX6) (N := 7) hx hb hts hi6 hown hK hP j1782 hj1782 rfl 2 (by decide) (hts (.fieldLink RX7 89 "TallyLogsModel$Log" "end" "I") (by decide +kernel)) (fun _ h9 => h9) rfl dX7_follow_280 ?_
                          refine lv_topi (fun x1783 ex1783 => ?_)
                          have tx1783 : x1783.toInt = (I1776 (w (21 + (5 * xp.toNatClampNeg + xn.toNatClampNeg))) 2).toInt := congrArg Int32.toInt ex1783
                          refine va_mmin hx hb (by rw [hml]; exact hl.1.symm) hown (hts (.methodLink RX7 105 Lib.Math.min.name) (by decide +kernel)) (hts (.static Lib.Math.min.name) (by decide +kernel)) (hts (.initialized "java/lang/Math") (by decide +kernel)) (hts _ (List.mem_of_getElem? (i := 12) rfl)) (Nat.le_of_ble_eq_true rfl) (Nat.le_of_ble_eq_true rfl) (Nat.le_of_ble_eq_true rfl) (Nat.le_of_ble_eq_true rfl) dX7_follow_283 ?_
                          refine lv_topi (fun z1784 ez1784 => ?_)
                          have tz1784 : z1784.toInt = min x1781.toInt x1783.toInt := (xmin_t ez1784)
                          obtain ⟨j1785, hj1785⟩ := wG_6 (cy := cy) (N := N) (T := T) (I := I1776) (Q := Q) (J := J1776) (hM.lg hjl1726).1 (hM.lg hjl1726).2
                          have hDo := hD
                          refine va_put (D := (dC, dI)) (ci := 6) (v := .int z1784) (ty := .int) (C := RX6) (T := TX6) (N := 7) hx hb hts hi6 tyX6 tyX6_ok nmX6 hown hK hP hD hS j1785 hj1785 rfl 3 (by decide) (hts (.fieldLink RX7 109 "TallyLogsModel$Log" "high" "I") (by decide +kernel)) (fun _ h9 => h9) rfl (by decide +kernel) rfl rfl (Nat.le_of_ble_eq_true rfl) dX7_follow_286 (fun H locs hP hD hS => ?_)
                          have hP := Eq.mp (congrArg (fun w => va_P (dC, dI) vwCl w H) (wP_6_3 (x := z1784) hDo (hM.lg hjl1726).1 (hM.lg hjl1726).2 hj1785)) hP
                          obtain ⟨I1786, eI1786⟩ : ∃ z, z = p2 I1776 (w (21 + (5 * xp.toNatClampNeg + xn.toNatClampNeg))) 3 z1784 := ⟨_, rfl⟩
                          rw [← eI1786] at hP
                          have hD : va_D A (va_pl L (wF cy K N T I1786 Q J1776)) := pD hDo
                          have hR : RM w [] I J I1786 J1776 := by rw [eI1786]; exact hR.pl hM hjl1726
                          have hMU : MU w I1786 := by rw [eI1786]; exact hMU.pl hM hjl1726
                          have hMX : MLx w E (5 * xp.toNatClampNeg + xn.toNatClampNeg) I1786 := by rw [eI1786]; exact hMX.put hM hjl1726
                          refine lv_aload hx hb dX7_follow_289 (lv_at hl 5 rfl) ?_
                          refine lv_aload hx hb dX7_follow_291 (lv_at hl 5 rfl) ?_
                          obtain ⟨j1787, hj1787⟩ := wG_6 (cy := cy) (N := N) (T := T) (I := I1786) (Q := Q) (J := J1776) (hM.lg hjl1726).1 (hM.lg hjl1726).2
                          refine va_get (D := (dC, dI)) (ci := 6) (v := .int (I1786 (w (21 + (5 * xp.toNatClampNeg + xn.toNatClampNeg))) 1)) (C := RX6) (T := TX6) (N := 7) hx hb hts hi6 hown hK hP j1787 hj1787 rfl 1 (by decide) (hts (.fieldLink RX7 134 "TallyLogsModel$Log" "start" "I") (by decide +kernel)) (fun _ h9 => h9) rfl dX7_follow_293 ?_
                          refine lv_topi (fun x1788 ex1788 => ?_)
                          have ex1788 : x1788 = I1776 (w (21 + (5 * xp.toNatClampNeg + xn.toNatClampNeg))) 1 := by rw [ex1788, eI1786, p2_ne _ _ (fun q => absurd q.2 (by decide))]
                          have tx1788 : x1788.toInt = (I1776 (w (21 + (5 * xp.toNatClampNeg + xn.toNatClampNeg))) 1).toInt := congrArg Int32.toInt ex1788
                          refine lv_aload hx hb dX7_follow_296 (lv_at hl 5 rfl) ?_
                          obtain ⟨j1789, hj1789⟩ := wG_6 (cy := cy) (N := N) (T := T) (I := I1786) (Q := Q) (J := J1776) (hM.lg hjl1726).1 (hM.lg hjl1726).2
                          refine va_get (D := (dC, dI)) (ci := 6) (v := .int (I1786 (w (21 + (5 * xp.toNatClampNeg + xn.toNatClampNeg))) 4)) (C := RX6) (T := TX6) (N := 7) hx hb hts hi6 hown hK hP j1789 hj1789 rfl 4 (by decide) (hts (.fieldLink RX7 158 "TallyLogsModel$Log" "flushed" "I") (by decide +kernel)) (fun _ h9 => h9) rfl dX7_follow_298 ?_
                          refine lv_topi (fun x1790 ex1790 => ?_)
                          have ex1790 : x1790 = I1776 (w (21 + (5 * xp.toNatClampNeg + xn.toNatClampNeg))) 4 := by rw [ex1790, eI1786, p2_ne _ _ (fun q => absurd q.2 (by decide))]
                          have tx1790 : x1790.toInt = (I1776 (w (21 + (5 * xp.toNatClampNeg + xn.toNatClampNeg))) 4).toInt := congrArg Int32.toInt ex1790
                          refine lv_aload hx hb dX7_follow_301 (lv_at hl 5 rfl) ?_
                          obtain ⟨j1791, hj1791⟩ := wG_6 (cy := cy) (N := N) (T := T) (I := I1786) (Q := Q) (J := J1776) (hM.lg hjl1726).1 (hM.lg hjl1726).2
                          refine va_get (D := (dC, dI)) (ci := 6) (v := .int (I1786 (w (21 + (5 * xp.toNatClampNeg + xn.toNatClampNeg))) 2)) (C := RX6) (T := TX6) (N := 7) hx hb hts hi6 hown hK hP j1791 hj1791 rfl 2 (by decide) (hts (.fieldLink RX7 89 "TallyLogsModel$Log" "end" "I") (by decide +kernel)) (fun _ h9 => h9) rfl dX7_follow_303 ?_
                          refine lv_topi (fun x1792 ex1792 => ?_)
                          have ex1792 : x1792 = I1776 (w (21 + (5 * xp.toNatClampNeg + xn.toNatClampNeg))) 2 := by rw [ex1792, eI1786, p2_ne _ _ (fun q => absurd q.2 (by decide))]
                          have tx1792 : x1792.toInt = (I1776 (w (21 + (5 * xp.toNatClampNeg + xn.toNatClampNeg))) 2).toInt := congrArg Int32.toInt ex1792
                          refine va_mmin hx hb (by rw [hml]; exact hl.1.symm) hown (hts (.methodLink RX7 105 Lib.Math.min.name) (by decide +kernel)) (hts (.static Lib.Math.min.name) (by decide +kernel)) (hts (.initialized "java/lang/Math") (by decide +kernel)) (hts _ (List.mem_of_getElem? (i := 12) rfl)) (Nat.le_of_ble_eq_true rfl) (Nat.le_of_ble_eq_true rfl) (Nat.le_of_ble_eq_true rfl) (Nat.le_of_ble_eq_true rfl) dX7_follow_306 ?_
                          refine lv_topi (fun z1793 ez1793 => ?_)
                          have tz1793 : z1793.toInt = min x1790.toInt x1792.toInt := (xmin_t ez1793)
                          refine va_mmax hx hb (by rw [hml]; exact hl.1.symm) hown (hts (.methodLink RX7 155 Lib.Math.max.name) (by decide +kernel)) (hts (.static Lib.Math.max.name) (by decide +kernel)) (hts (.initialized "java/lang/Math") (by decide +kernel)) (hts _ (List.mem_of_getElem? (i := 8) rfl)) (Nat.le_of_ble_eq_true rfl) (Nat.le_of_ble_eq_true rfl) (Nat.le_of_ble_eq_true rfl) (Nat.le_of_ble_eq_true rfl) dX7_follow_309 ?_
                          refine lv_topi (fun z1794 ez1794 => ?_)
                          have tz1794 : z1794.toInt = max x1788.toInt z1793.toInt := (xmax_t ez1794)
                          obtain ⟨j1795, hj1795⟩ := wG_6 (cy := cy) (N := N) (T := T) (I := I1786) (Q := Q) (J := J1776) (hM.lg hjl1726).1 (hM.lg hjl1726).2
                          have hDo := hD
                          refine va_put (D := (dC, dI)) (ci := 6) (v := .int z1794) (ty := .int) (C := RX6) (T := TX6) (N := 7) hx hb hts hi6 tyX6 tyX6_ok nmX6 hown hK hP hD hS j1795 hj1795 rfl 4 (by decide) (hts (.fieldLink RX7 158 "TallyLogsModel$Log" "flushed" "I") (by decide +kernel)) (fun _ h9 => h9) rfl (by decide +kernel) rfl rfl (Nat.le_of_ble_eq_true rfl) dX7_follow_312 (fun H locs hP hD hS => ?_)
                          have hP := Eq.mp (congrArg (fun w => va_P (dC, dI) vwCl w H) (wP_6_4 (x := z1794) hDo (hM.lg hjl1726).1 (hM.lg hjl1726).2 hj1795)) hP
                          obtain ⟨I1796, eI1796⟩ : ∃ z, z = p2 I1786 (w (21 + (5 * xp.toNatClampNeg + xn.toNatClampNeg))) 4 z1794 := ⟨_, rfl⟩
                          rw [← eI1796] at hP
                          have hD : va_D A (va_pl L (wF cy K N T I1796 Q J1776)) := pD hDo
                          have hR : RM w [] I J I1796 J1776 := by rw [eI1796]; exact hR.pl hM hjl1726
                          have hMU : MU w I1796 := by rw [eI1796]; exact hMU.pl hM hjl1726
                          have hMX : MLx w E (5 * xp.toNatClampNeg + xn.toNatClampNeg) I1796 := by rw [eI1796]; exact hMX.put hM hjl1726
                          have z1797_1 : (I1796 (w (21 + (5 * xp.toNatClampNeg + xn.toNatClampNeg))) 1).toInt = (I1776 (w (21 + (5 * xp.toNatClampNeg + xn.toNatClampNeg))) 1).toInt := by rw [eI1796, p2_ne _ _ (fun q => absurd q.2 (by decide)), eI1786, p2_ne _ _ (fun q => absurd q.2 (by decide))]
                          have z1797_2 : (I1796 (w (21 + (5 * xp.toNatClampNeg + xn.toNatClampNeg))) 2).toInt = (I1776 (w (21 + (5 * xp.toNatClampNeg + xn.toNatClampNeg))) 2).toInt := by rw [eI1796, p2_ne _ _ (fun q => absurd q.2 (by decide)), eI1786, p2_ne _ _ (fun q => absurd q.2 (by decide))]
                          have z1797_3 : (I1796 (w (21 + (5 * xp.toNatClampNeg + xn.toNatClampNeg))) 3).toInt = z1784.toInt := by rw [eI1796, p2_ne _ _ (fun q => absurd q.2 (by decide)), eI1786, p2_at]
                          have z1797_4 : (I1796 (w (21 + (5 * xp.toNatClampNeg + xn.toNatClampNeg))) 4).toInt = z1794.toInt := by rw [eI1796, p2_at]
                          have hMLz : ML w E I1796 := hMX.to ⟨by omega, by omega, by omega, by omega, by omega, by omega⟩
                          refine lv_iload hx hb dX7_follow_315 (lv_at hl 0 rfl) ?_
                          rw [hQz]
                          exact W.iret (v := y1740) hx hb hr (fun t ht hW => ⟨⟨y1740, (I1796, J1776), rfl, ⟨⟨hMLz.mono (by omega), hMD, hMU⟩, hR⟩, by rw [ht]; exact hP, va_K.moved hW.alike hK, hD⟩, hS.F ht⟩) hS.2.2 dX7_follow_317
                        · have kc1772 : ¬ (x1771.toInt ≤ x1769.toInt) := by have h9 := c1772; rw [xk_le] at h9; exact h9
                          refine lv_aload hx hb dX7_follow_246 (lv_at hl 5 rfl) ?_
                          refine lv_aload_n hx hb dX7_follow_248 rfl (lv_at hl 4 rfl) ?_
                          refine lv_aload hx hb dX7_follow_249 (lv_at hl 5 rfl) ?_
                          obtain ⟨j1798, hj1798⟩ := wG_6 (cy := cy) (N := N) (T := T) (I := Ia1739) (Q := Q) (J := Ja1739) (hM.lg hjl1726).1 (hM.lg hjl1726).2
                          refine va_get (D := (dC, dI)) (ci := 6) (v := .int (Ia1739 (w (21 + (5 * xp.toNatClampNeg + xn.toNatClampNeg))) 2)) (C := RX6) (T := TX6) (N := 7) hx hb hts hi6 hown hK hP j1798 hj1798 rfl 2 (by decide) (hts (.fieldLink RX7 89 "TallyLogsModel$Log" "end" "I") (by decide +kernel)) (fun _ h9 => h9) rfl dX7_follow_251 ?_
                          refine lv_topi (fun x1799 ex1799 => ?_)
                          have tx1799 : x1799.toInt = (Ia1739 (w (21 + (5 * xp.toNatClampNeg + xn.toNatClampNeg))) 2).toInt := congrArg Int32.toInt ex1799
                          obtain ⟨j1800, hj1800⟩ := wG_6 (cy := cy) (N := N) (T := T) (I := Ia1739) (Q := Q) (J := Ja1739) (hM.lg hjl1726).1 (hM.lg hjl1726).2
                          have hFc := pfree hD hS hA
                          refine va_callv (va_runV (As := [.ref (w (21 + (5 * xp.toNatClampNeg + n1718))), .int x1799]) (rest := []) ⟨hx, hb, hml, hown, hts⟩ (c_X6_take l dC dI cy w L K N T Q Ia1739 Ja1739 H.size (5 * xp.toNatClampNeg + xn.toNatClampNeg) (5 * xp.toNatClampNeg + n1718) x1799 hM hjl1726 hjn1718 (by omega) (by omega) (by omega) (by omega) (by omega) (by omega)) (cwV 2 hts gX7_follow_X6_take rfl rfl rfl (by decide +kernel) ⟨Nat.le_of_ble_eq_true rfl, Nat.le_of_ble_eq_true rfl⟩) ⟨mw_blind, va_recv hK hP (ci := 6) (q0 := j1800) rfl hj1800, fun U hU hW => ⟨rfl, mw_pre hP hK hD hU hW⟩⟩ rfl rfl hl.1 rfl (lv_room (Nat.le_of_ble_eq_true rfl)) dX7_follow_254 ⟨Nat.le_of_ble_eq_true rfl, Nat.le_of_ble_eq_true rfl⟩) hS (fun q _ h => hFc q h) hFc (fun d9 t H1 locs ht hvm hw hB hz1 hk1 hS => ?_)
                          obtain ⟨I1801, J1801⟩ := d9
                          obtain ⟨hP, hK1, hD1⟩ := hB
                          rw [ht] at hP
                          have hD := hD1.weaken (fun _ _ _ h => hFc _ h)
                          generalize H1 = H at hP hS ⊢
                          have hP : va_P (dC, dI) vwCl (va_pl L (wF cy K N T I1801 Q J1801)) H := hP
                          have hD : va_D A (va_pl L (wF cy K N T I1801 Q J1801)) := hD
                          have hw1803 : LW w Ia1739 Ja1739 I1801 J1801 (5 * xp.toNatClampNeg + xn.toNatClampNeg) _ _ := hw
                          have hR : RM w [] I J I1801 J1801 := hR.lw hM hjl1726 hw1803
                          have hMD : MD w J1801 := hMD.lw hM hjl1726 hw1803
                          have hMU : MU w I1801 := hMU.lw hM hjl1726 hw1803
                          have hMX : MLx w E (5 * xp.toNatClampNeg + xn.toNatClampNeg) I1801 := hMX.lw hM hjl1726 hw1803
                          have q1hw1803 : (I1801 (w (21 + (5 * xp.toNatClampNeg + xn.toNatClampNeg))) 1).toInt = _ := hw1803.2.2.1
                          have q2hw1803 : (I1801 (w (21 + (5 * xp.toNatClampNeg + xn.toNatClampNeg))) 2).toInt = _ := hw1803.2.2.2
                          have q4hw1803 : (I1801 (w (21 + (5 * xp.toNatClampNeg + xn.toNatClampNeg))) 4).toInt = _ := congrArg Int32.toInt hw1803.f4
                          have l1hw1803 : (I1801 (w (21 + (5 * xp.toNatClampNeg + n1718))) 1).toInt = _ := congrArg Int32.toInt (hw1803.other hM hjl1726 hjn1718 (f := 1) (by omega))
                          have l2hw1803 : (I1801 (w (21 + (5 * xp.toNatClampNeg + n1718))) 2).toInt = _ := congrArg Int32.toInt (hw1803.other hM hjl1726 hjn1718 (f := 2) (by omega))
                          have l3hw1803 : (I1801 (w (21 + (5 * xp.toNatClampNeg + n1718))) 3).toInt = _ := congrArg Int32.toInt (hw1803.other hM hjl1726 hjn1718 (f := 3) (by omega))
                          have el1804 : J1801 (w 4) xp.toNatClampNeg = nI n1718 := by rw [hw1803.2.1 _ (hM.ne (i := 4) (by omega) (by omega) (by omega))]; exact (by exact el1741)
                          obtain ⟨v1805, ev1805⟩ : ∃ y : Int32, y = y1740 + Int32.ofInt 1 := ⟨_, rfl⟩
                          refine lv_iinc (v := v1805) (lv' := [(6, .int v1805), (0, .ref (w 0)), (1, .int xn), (2, .int xp), (3, .ref (w (21 + (5 * xp.toNatClampNeg + n1718)))), (4, .ref (w (21 + (5 * xp.toNatClampNeg + xn.toNatClampNeg))))]) hx hb dX7_follow_257 hl (k := 0) rfl ev1805.symm (by decide) rfl (fun ls hl => ?_)
                          refine lv_goto (tgt := 228) hx hb dX7_follow_260 (by decide) ?_
                          have tv1805 : v1805.toInt = y1740.toInt + 1 := by rw [ev1805, show y1740 + Int32.ofInt 1 = y1740 + 1 from rfl]; exact xinc (y := (5 : Int32)) (by rw [xk_lt, xk_5]; omega)
                          exact ih1739 _ _ _ _ _ _ (by omega) (by omega) (⟨hMX, (by exact el1804), by omega, by omega, by omega, by omega, by omega, by omega, by omega⟩) hR hMD hMU hP hD hS (lv_sub hl [0, 1, 2, 3, 4, 5] rfl)
                  exact hLP1739 _ _ _ _ _ _ _ (Nat.lt_succ_self _) (by decide) (⟨hMX, (by exact el1738), by omega, by omega, by rw [xk_0]; omega, by omega, by omega, Or.inl (by decide), by decide⟩) hR hMD hMU hP hD hS (lv_sub hl [0, 1, 2, 3, 4, 5] rfl)
                refine lv_aload hx hb dX7_follow_196 (lv_at hl 4 rfl) ?_
                obtain ⟨j1806, hj1806⟩ := wG_6 (cy := cy) (N := N) (T := T) (I := Ia1731) (Q := Q) (J := Ja1731) (hM.lg hjl1726).1 (hM.lg hjl1726).2
                refine va_get (D := (dC, dI)) (ci := 6) (v := .int (Ia1731 (w (21 + (5 * xp.toNatClampNeg + xn.toNatClampNeg))) 2)) (C := RX6) (T := TX6) (N := 7) hx hb hts hi6 hown hK hP j1806 hj1806 rfl 2 (by decide) (hts (.fieldLink RX7 89 "TallyLogsModel$Log" "end" "I") (by decide +kernel)) (fun _ h9 => h9) rfl dX7_follow_198 ?_
                refine lv_topi (fun x1807 ex1807 => ?_)
                have tx1807 : x1807.toInt = (Ia1731 (w (21 + (5 * xp.toNatClampNeg + xn.toNatClampNeg))) 2).toInt := congrArg Int32.toInt ex1807
                refine lv_aload_n hx hb dX7_follow_201 rfl (lv_at hl 3 rfl) ?_
                obtain ⟨j1808, hj1808⟩ := wG_6 (cy := cy) (N := N) (T := T) (I := Ia1731) (Q := Q) (J := Ja1731) (hM.lg hjn1718).1 (hM.lg hjn1718).2
                refine va_get (D := (dC, dI)) (ci := 6) (v := .int (Ia1731 (w (21 + (5 * xp.toNatClampNeg + n1718))) 3)) (C := RX6) (T := TX6) (N := 7) hx hb hts hi6 hown hK hP j1808 hj1808 rfl 3 (by decide) (hts (.fieldLink RX7 109 "TallyLogsModel$Log" "high" "I") (by decide +kernel)) (fun _ h9 => h9) rfl dX7_follow_202 ?_
                refine lv_topi (fun x1809 ex1809 => ?_)
                have tx1809 : x1809.toInt = (Ia1731 (w (21 + (5 * xp.toNatClampNeg + n1718))) 3).toInt := congrArg Int32.toInt ex1809
                refine lv_icmp_lt (tgt := 220) hx hb dX7_follow_205 (by decide) (fun c1810 => ?_) (fun c1810 => ?_)
                · have kc1810 : x1807.toInt < x1809.toInt := by have h9 := c1810; rw [xk_lt] at h9; exact h9
                  exact hJN220 _ _ _ _ _ ⟨hMX, by omega, by omega, by omega, by omega, by omega⟩ (by exact el1731) hR hMD hMU hP hD hS (lv_sub hl [0, 1, 2, 3, 4] rfl)
                · have kc1810 : ¬ (x1807.toInt < x1809.toInt) := by have h9 := c1810; rw [xk_lt] at h9; exact h9
                  refine lv_aload_n hx hb dX7_follow_208 rfl (lv_at hl 0 rfl) ?_
                  obtain ⟨j1812, hj1812⟩ := wG_7 (cy := cy) (N := N) (T := T) (I := Ia1731) (Q := Q) (J := Ja1731) (hM.at 0 (by decide)) (hM.k 0 (by decide) rfl)
                  refine va_get (D := (dC, dI)) (ci := 7) (v := .ref (T (w 0) 6)) (C := RX7) (T := TX7) (N := 18) hx hb hts hi7 hown hK hP j1812 hj1812 rfl 6 (by decide) (hts (.fieldLink RX7 31 "TallyLogsModel" "step" "[I") (by decide +kernel)) (fun _ h9 => h9) rfl dX7_follow_209 ?_
                  refine W.eq (g2 := F0 m 212 ls [.ref (w 7)]) (by rw [hM.t 6 (by decide)]) ?_
                  refine lv_iload_n hx hb dX7_follow_212 rfl (lv_at hl 2 rfl) ?_
                  refine lv_dup2_11 hx hb dX7_follow_213 rfl rfl ?_
                  obtain ⟨j1813, hj1813⟩ := wG_20 (cy := cy) (N := N) (T := T) (I := Ia1731) (Q := Q) (J := Ja1731) (hM.at 7 (by decide)) (hM.k 7 (by decide) rfl)
                  refine va_iald hx hb hK hP j1813 1 hj1813 rfl (hM.inN (n := 4) 7 (by decide) rfl rfl hrp1707.1) dX7_follow_214 ?_
                  refine lv_topi (fun x1814 ex1814 => ?_)
                  refine lv_iconst (v := 1) hx hb dX7_follow_215 (by decide) ?_
                  refine lv_iload_n hx hb dX7_follow_216 rfl (lv_at hl 1 rfl) ?_
                  refine lv_ishl hx hb dX7_follow_217 ?_
                  refine lv_topi (fun v1815 ev1815 => ?_)
                  refine lv_ior hx hb dX7_follow_218 ?_
                  refine lv_topi (fun v1816 ev1816 => ?_)
                  obtain ⟨j1817, hj1817⟩ := wG_20 (cy := cy) (N := N) (T := T) (I := Ia1731) (Q := Q) (J := Ja1731) (hM.at 7 (by decide)) (hM.k 7 (by decide) rfl)
                  have hDo := hD
                  refine va_iast (x := v1816) hx hb hK hP hD hS j1817 1 hj1817 rfl (hM.inN (n := 4) 7 (by decide) rfl rfl hrp1707.1) dX7_follow_219 (fun H locs hP hD hS => ?_)
                  have hP := Eq.mp (congrArg (fun w => va_P (dC, dI) vwCl w H) (wS_20 hDo (hM.at 7 (by decide)) (hM.k 7 (by decide) rfl) hj1817)) hP
                  obtain ⟨J1818, eJ1818⟩ : ∃ z, z = va_up Ja1731 (w 7) (upd (Ja1731 (w 7)) xp.toNatClampNeg v1816) := ⟨_, rfl⟩
                  rw [← eJ1818] at hP
                  have hR : RM w [] I J Ia1731 J1818 := by rw [eJ1818]; exact hR.pj hM (by decide) (by decide)
                  have hMD : MD w J1818 := by
                    rw [eJ1818, ev1816, ex1814]
                    exact hMD.p7 hM (hMD _ (vp_lt (n := 4) hrp1707.1)).or
                  have hD : va_D A (va_pl L (wF cy K N T Ia1731 Q J1818)) := pD hDo
                  exact hJN220 _ _ _ _ _ ⟨hMX, by omega, by omega, by omega, by omega, by omega⟩ (by rw [eJ1818, va_up_ne _ _ (hM.ne (by omega) (by omega) (by omega))]; exact el1731) hR hMD hMU hP hD hS (lv_sub hl [0, 1, 2, 3, 4] rfl)
              refine lv_aload hx hb dX7_follow_147 (lv_at hl 4 rfl) ?_
              refine lv_aload hx hb dX7_follow_149 (lv_at hl 4 rfl) ?_
              obtain ⟨j1820, hj1820⟩ := wG_6 (cy := cy) (N := N) (T := T) (I := Ia1730) (Q := Q) (J := Ja1730) (hM.lg hjl1726).1 (hM.lg hjl1726).2
              refine va_get (D := (dC, dI)) (ci := 6) (v := .int (Ia1730 (w (21 + (5 * xp.toNatClampNeg + xn.toNatClampNeg))) 4)) (C := RX6) (T := TX6) (N := 7) hx hb hts hi6 hown hK hP j1820 hj1820 rfl 4 (by decide) (hts (.fieldLink RX7 158 "TallyLogsModel$Log" "flushed" "I") (by decide +kernel)) (fun _ h9 => h9) rfl dX7_follow_151 ?_
              refine lv_topi (fun x1821 ex1821 => ?_)
              have tx1821 : x1821.toInt = (Ia1730 (w (21 + (5 * xp.toNatClampNeg + xn.toNatClampNeg))) 4).toInt := congrArg Int32.toInt ex1821
              refine lv_aload hx hb dX7_follow_154 (lv_at hl 4 rfl) ?_
              obtain ⟨j1822, hj1822⟩ := wG_6 (cy := cy) (N := N) (T := T) (I := Ia1730) (Q := Q) (J := Ja1730) (hM.lg hjl1726).1 (hM.lg hjl1726).2
              refine va_get (D := (dC, dI)) (ci := 6) (v := .int (Ia1730 (w (21 + (5 * xp.toNatClampNeg + xn.toNatClampNeg))) 2)) (C := RX6) (T := TX6) (N := 7) hx hb hts hi6 hown hK hP j1822 hj1822 rfl 2 (by decide) (hts (.fieldLink RX7 89 "TallyLogsModel$Log" "end" "I") (by decide +kernel)) (fun _ h9 => h9) rfl dX7_follow_156 ?_
              refine lv_topi (fun x1823 ex1823 => ?_)
              have tx1823 : x1823.toInt = (Ia1730 (w (21 + (5 * xp.toNatClampNeg + xn.toNatClampNeg))) 2).toInt := congrArg Int32.toInt ex1823
              refine va_mmin hx hb (by rw [hml]; exact hl.1.symm) hown (hts (.methodLink RX7 105 Lib.Math.min.name) (by decide +kernel)) (hts (.static Lib.Math.min.name) (by decide +kernel)) (hts (.initialized "java/lang/Math") (by decide +kernel)) (hts _ (List.mem_of_getElem? (i := 12) rfl)) (Nat.le_of_ble_eq_true rfl) (Nat.le_of_ble_eq_true rfl) (Nat.le_of_ble_eq_true rfl) (Nat.le_of_ble_eq_true rfl) dX7_follow_159 ?_
              refine lv_topi (fun z1824 ez1824 => ?_)
              have tz1824 : z1824.toInt = min x1821.toInt x1823.toInt := (xmin_t ez1824)
              obtain ⟨j1825, hj1825⟩ := wG_6 (cy := cy) (N := N) (T := T) (I := Ia1730) (Q := Q) (J := Ja1730) (hM.lg hjl1726).1 (hM.lg hjl1726).2
              have hDo := hD
              refine va_put (D := (dC, dI)) (ci := 6) (v := .int z1824) (ty := .int) (C := RX6) (T := TX6) (N := 7) hx hb hts hi6 tyX6 tyX6_ok nmX6 hown hK hP hD hS j1825 hj1825 rfl 4 (by decide) (hts (.fieldLink RX7 158 "TallyLogsModel$Log" "flushed" "I") (by decide +kernel)) (fun _ h9 => h9) rfl (by decide +kernel) rfl rfl (Nat.le_of_ble_eq_true rfl) dX7_follow_162 (fun H locs hP hD hS => ?_)
              have hP := Eq.mp (congrArg (fun w => va_P (dC, dI) vwCl w H) (wP_6_4 (x := z1824) hDo (hM.lg hjl1726).1 (hM.lg hjl1726).2 hj1825)) hP
              obtain ⟨I1826, eI1826⟩ : ∃ z, z = p2 Ia1730 (w (21 + (5 * xp.toNatClampNeg + xn.toNatClampNeg))) 4 z1824 := ⟨_, rfl⟩
              rw [← eI1826] at hP
              have hD : va_D A (va_pl L (wF cy K N T I1826 Q Ja1730)) := pD hDo
              have hR : RM w [] I J I1826 Ja1730 := by rw [eI1826]; exact hR.pl hM hjl1726
              have hMU : MU w I1826 := by rw [eI1826]; exact hMU.pl hM hjl1726
              have hMX : MLx w E (5 * xp.toNatClampNeg + xn.toNatClampNeg) I1826 := by rw [eI1826]; exact hMX.put hM hjl1726
              refine lv_aload hx hb dX7_follow_165 (lv_at hl 4 rfl) ?_
              refine lv_aload hx hb dX7_follow_167 (lv_at hl 4 rfl) ?_
              obtain ⟨j1827, hj1827⟩ := wG_6 (cy := cy) (N := N) (T := T) (I := I1826) (Q := Q) (J := Ja1730) (hM.lg hjl1726).1 (hM.lg hjl1726).2
              refine va_get (D := (dC, dI)) (ci := 6) (v := .int (I1826 (w (21 + (5 * xp.toNatClampNeg + xn.toNatClampNeg))) 2)) (C := RX6) (T := TX6) (N := 7) hx hb hts hi6 hown hK hP j1827 hj1827 rfl 2 (by decide) (hts (.fieldLink RX7 89 "TallyLogsModel$Log" "end" "I") (by decide +kernel)) (fun _ h9 => h9) rfl dX7_follow_169 ?_
              refine lv_topi (fun x1828 ex1828 => ?_)
              have ex1828 : x1828 = Ia1730 (w (21 + (5 * xp.toNatClampNeg + xn.toNatClampNeg))) 2 := by rw [ex1828, eI1826, p2_ne _ _ (fun q => absurd q.2 (by decide))]
              have tx1828 : x1828.toInt = (Ia1730 (w (21 + (5 * xp.toNatClampNeg + xn.toNatClampNeg))) 2).toInt := congrArg Int32.toInt ex1828
              obtain ⟨j1829, hj1829⟩ := wG_6 (cy := cy) (N := N) (T := T) (I := I1826) (Q := Q) (J := Ja1730) (hM.lg hjl1726).1 (hM.lg hjl1726).2
              have hDo := hD
              refine va_put (D := (dC, dI)) (ci := 6) (v := .int x1828) (ty := .int) (C := RX6) (T := TX6) (N := 7) hx hb hts hi6 tyX6 tyX6_ok nmX6 hown hK hP hD hS j1829 hj1829 rfl 5 (by decide) (hts (.fieldLink RX7 92 "TallyLogsModel$Log" "known" "I") (by decide +kernel)) (fun _ h9 => h9) rfl (by decide +kernel) rfl rfl (Nat.le_of_ble_eq_true rfl) dX7_follow_172 (fun H locs hP hD hS => ?_)
              have hP := Eq.mp (congrArg (fun w => va_P (dC, dI) vwCl w H) (wP_6_5 (x := x1828) hDo (hM.lg hjl1726).1 (hM.lg hjl1726).2 hj1829)) hP
              obtain ⟨I1830, eI1830⟩ : ∃ z, z = p2 I1826 (w (21 + (5 * xp.toNatClampNeg + xn.toNatClampNeg))) 5 x1828 := ⟨_, rfl⟩
              rw [← eI1830] at hP
              have hD : va_D A (va_pl L (wF cy K N T I1830 Q Ja1730)) := pD hDo
              have hR : RM w [] I J I1830 Ja1730 := by rw [eI1830]; exact hR.pl hM hjl1726
              have hMU : MU w I1830 := by rw [eI1830]; exact hMU.pl hM hjl1726
              have hMX : MLx w E (5 * xp.toNatClampNeg + xn.toNatClampNeg) I1830 := by rw [eI1830]; exact hMX.put hM hjl1726
              refine lv_aload hx hb dX7_follow_175 (lv_at hl 4 rfl) ?_
              obtain ⟨j1831, hj1831⟩ := wG_6 (cy := cy) (N := N) (T := T) (I := I1830) (Q := Q) (J := Ja1730) (hM.lg hjl1726).1 (hM.lg hjl1726).2
              refine va_get (D := (dC, dI)) (ci := 6) (v := .int (I1830 (w (21 + (5 * xp.toNatClampNeg + xn.toNatClampNeg))) 2)) (C := RX6) (T := TX6) (N := 7) hx hb hts hi6 hown hK hP j1831 hj1831 rfl 2 (by decide) (hts (.fieldLink RX7 89 "TallyLogsModel$Log" "end" "I") (by decide +kernel)) (fun _ h9 => h9) rfl dX7_follow_177 ?_
              refine lv_topi (fun x1832 ex1832 => ?_)
              have ex1832 : x1832 = Ia1730 (w (21 + (5 * xp.toNatClampNeg + xn.toNatClampNeg))) 2 := by rw [ex1832, eI1830, p2_ne _ _ (fun q => absurd q.2 (by decide)), eI1826, p2_ne _ _ (fun q => absurd q.2 (by decide))]
              have tx1832 : x1832.toInt = (Ia1730 (w (21 + (5 * xp.toNatClampNeg + xn.toNatClampNeg))) 2).toInt := congrArg Int32.toInt ex1832
              refine lv_aload_n hx hb dX7_follow_180 rfl (lv_at hl 3 rfl) ?_
              obtain ⟨j1833, hj1833⟩ := wG_6 (cy := cy) (N := N) (T := T) (I := I1830) (Q := Q) (J := Ja1730) (hM.lg hjn1718).1 (hM.lg hjn1718).2
              refine va_get (D := (dC, dI)) (ci := 6) (v := .int (I1830 (w (21 + (5 * xp.toNatClampNeg + n1718))) 2)) (C := RX6) (T := TX6) (N := 7) hx hb hts hi6 hown hK hP j1833 hj1833 rfl 2 (by decide) (hts (.fieldLink RX7 89 "TallyLogsModel$Log" "end" "I") (by decide +kernel)) (fun _ h9 => h9) rfl dX7_follow_181 ?_
              refine lv_topi (fun x1834 ex1834 => ?_)
              have ex1834 : x1834 = Ia1730 (w (21 + (5 * xp.toNatClampNeg + n1718))) 2 := by rw [ex1834, eI1830, p2_na _ _ (hM.ne (by omega) (by omega) (by omega)), eI1826, p2_na _ _ (hM.ne (by omega) (by omega) (by omega))]
              have tx1834 : x1834.toInt = (Ia1730 (w (21 + (5 * xp.toNatClampNeg + n1718))) 2).toInt := congrArg Int32.toInt ex1834
              refine lv_icmp_ne (tgt := 196) hx hb dX7_follow_184 (by decide) (fun c1835 => ?_) (fun c1835 => ?_)
              · have kc1835 : ¬ (x1832.toInt = x1834.toInt) := by have h9 := c1835; rw [xk_eq] at h9; exact h9
                have n1836_01 : (I1830 (w (21 + (5 * xp.toNatClampNeg + xn.toNatClampNeg))) 1).toInt = (Ia1730 (w (21 + (5 * xp.toNatClampNeg + xn.toNatClampNeg))) 1).toInt := by rw [eI1830, p2_ne _ _ (fun q => absurd q.2 (by decide)), eI1826, p2_ne _ _ (fun q => absurd q.2 (by decide))]
                have n1836_02 : (I1830 (w (21 + (5 * xp.toNatClampNeg + xn.toNatClampNeg))) 2).toInt = (Ia1730 (w (21 + (5 * xp.toNatClampNeg + xn.toNatClampNeg))) 2).toInt := by rw [eI1830, p2_ne _ _ (fun q => absurd q.2 (by decide)), eI1826, p2_ne _ _ (fun q => absurd q.2 (by decide))]
                have n1836_11 : (I1830 (w (21 + (5 * xp.toNatClampNeg + n1718))) 1).toInt = (Ia1730 (w (21 + (5 * xp.toNatClampNeg + n1718))) 1).toInt := by rw [eI1830, p2_na _ _ (hM.ne (by omega) (by omega) (by omega)), eI1826, p2_na _ _ (hM.ne (by omega) (by omega) (by omega))]
                exact hJN196 _ _ _ _ _ ⟨hMX, by omega, by omega, by omega, by omega, by omega⟩ (by exact el1730) hR hMD hMU hP hD hS (lv_sub hl [0, 1, 2, 3, 4] rfl)
              · have kc1835 : x1832.toInt = x1834.toInt := by have h9 := c1835; rw [xk_eq] at h9; exact h9
                refine lv_aload hx hb dX7_follow_187 (lv_at hl 4 rfl) ?_
                refine lv_aload_n hx hb dX7_follow_189 rfl (lv_at hl 0 rfl) ?_
                obtain ⟨j1837, hj1837⟩ := wG_7 (cy := cy) (N := N) (T := T) (I := I1830) (Q := Q) (J := Ja1730) (hM.at 0 (by decide)) (hM.k 0 (by decide) rfl)
                refine va_get (D := (dC, dI)) (ci := 7) (v := .int (I1830 (w 0) 17)) (C := RX7) (T := TX7) (N := 18) hx hb hts hi7 hown hK hP j1837 hj1837 rfl 17 (by decide) (hts (.fieldLink RX7 119 "TallyLogsModel" "now" "I") (by decide +kernel)) (fun _ h9 => h9) rfl dX7_follow_190 ?_
                refine lv_topi (fun x1838 ex1838 => ?_)
                have ex1838 : x1838 = Ia1730 (w 0) 17 := by rw [ex1838, eI1830, p2_na _ _ (hM.ne (by omega) (by omega) (by omega)), eI1826, p2_na _ _ (hM.ne (by omega) (by omega) (by omega))]
                have tx1838 : x1838.toInt = (Ia1730 (w 0) 17).toInt := congrArg Int32.toInt ex1838
                obtain ⟨j1839, hj1839⟩ := wG_6 (cy := cy) (N := N) (T := T) (I := I1830) (Q := Q) (J := Ja1730) (hM.lg hjl1726).1 (hM.lg hjl1726).2
                have hDo := hD
                refine va_put (D := (dC, dI)) (ci := 6) (v := .int x1838) (ty := .int) (C := RX6) (T := TX6) (N := 7) hx hb hts hi6 tyX6 tyX6_ok nmX6 hown hK hP hD hS j1839 hj1839 rfl 6 (by decide) (hts (.fieldLink RX7 122 "TallyLogsModel$Log" "caught" "I") (by decide +kernel)) (fun _ h9 => h9) rfl (by decide +kernel) rfl rfl (Nat.le_of_ble_eq_true rfl) dX7_follow_193 (fun H locs hP hD hS => ?_)
                have hP := Eq.mp (congrArg (fun w => va_P (dC, dI) vwCl w H) (wP_6_6 (x := x1838) hDo (hM.lg hjl1726).1 (hM.lg hjl1726).2 hj1839)) hP
                obtain ⟨I1840, eI1840⟩ : ∃ z, z = p2 I1830 (w (21 + (5 * xp.toNatClampNeg + xn.toNatClampNeg))) 6 x1838 := ⟨_, rfl⟩
                rw [← eI1840] at hP
                have hD : va_D A (va_pl L (wF cy K N T I1840 Q Ja1730)) := pD hDo
                have hR : RM w [] I J I1840 Ja1730 := by rw [eI1840]; exact hR.pl hM hjl1726
                have hMU : MU w I1840 := by rw [eI1840]; exact hMU.pl hM hjl1726
                have hMX : MLx w E (5 * xp.toNatClampNeg + xn.toNatClampNeg) I1840 := by rw [eI1840]; exact hMX.put hM hjl1726
                have n1841_01 : (I1840 (w (21 + (5 * xp.toNatClampNeg + xn.toNatClampNeg))) 1).toInt = (Ia1730 (w (21 + (5 * xp.toNatClampNeg + xn.toNatClampNeg))) 1).toInt := by rw [eI1840, p2_ne _ _ (fun q => absurd q.2 (by decide)), eI1830, p2_ne _ _ (fun q => absurd q.2 (by decide)), eI1826, p2_ne _ _ (fun q => absurd q.2 (by decide))]
                have n1841_02 : (I1840 (w (21 + (5 * xp.toNatClampNeg + xn.toNatClampNeg))) 2).toInt = (Ia1730 (w (21 + (5 * xp.toNatClampNeg + xn.toNatClampNeg))) 2).toInt := by rw [eI1840, p2_ne _ _ (fun q => absurd q.2 (by decide)), eI1830, p2_ne _ _ (fun q => absurd q.2 (by decide)), eI1826, p2_ne _ _ (fun q => absurd q.2 (by decide))]
                have n1841_11 : (I1840 (w (21 + (5 * xp.toNatClampNeg + n1718))) 1).toInt = (Ia1730 (w (21 + (5 * xp.toNatClampNeg + n1718))) 1).toInt := by rw [eI1840, p2_na _ _ (hM.ne (by omega) (by omega) (by omega)), eI1830, p2_na _ _ (hM.ne (by omega) (by omega) (by omega)), eI1826, p2_na _ _ (hM.ne (by omega) (by omega) (by omega))]
                exact hJN196 _ _ _ _ _ ⟨hMX, by omega, by omega, by omega, by omega, by omega⟩ (by exact el1730) hR hMD hMU hP hD hS (lv_sub hl [0, 1, 2, 3, 4] rfl)
            refine lv_aload hx hb dX7_follow_73 (lv_at hl 4 rfl) ?_
            obtain ⟨j1842, hj1842⟩ := wG_6 (cy := cy) (N := N) (T := T) (I := Ia1729) (Q := Q) (J := Ja1729) (hM.lg hjl1726).1 (hM.lg hjl1726).2
            refine va_get (D := (dC, dI)) (ci := 6) (v := .int (Ia1729 (w (21 + (5 * xp.toNatClampNeg + xn.toNatClampNeg))) 1)) (C := RX6) (T := TX6) (N := 7) hx hb hts hi6 hown hK hP j1842 hj1842 rfl 1 (by decide) (hts (.fieldLink RX7 134 "TallyLogsModel$Log" "start" "I") (by decide +kernel)) (fun _ h9 => h9) rfl dX7_follow_75 ?_
            refine lv_topi (fun x1843 ex1843 => ?_)
            have tx1843 : x1843.toInt = (Ia1729 (w (21 + (5 * xp.toNatClampNeg + xn.toNatClampNeg))) 1).toInt := congrArg Int32.toInt ex1843
            refine lv_aload_n hx hb dX7_follow_78 rfl (lv_at hl 3 rfl) ?_
            obtain ⟨j1844, hj1844⟩ := wG_6 (cy := cy) (N := N) (T := T) (I := Ia1729) (Q := Q) (J := Ja1729) (hM.lg hjn1718).1 (hM.lg hjn1718).2
            refine va_get (D := (dC, dI)) (ci := 6) (v := .int (Ia1729 (w (21 + (5 * xp.toNatClampNeg + n1718))) 1)) (C := RX6) (T := TX6) (N := 7) hx hb hts hi6 hown hK hP j1844 hj1844 rfl 1 (by decide) (hts (.fieldLink RX7 134 "TallyLogsModel$Log" "start" "I") (by decide +kernel)) (fun _ h9 => h9) rfl dX7_follow_79 ?_
            refine lv_topi (fun x1845 ex1845 => ?_)
            have tx1845 : x1845.toInt = (Ia1729 (w (21 + (5 * xp.toNatClampNeg + n1718))) 1).toInt := congrArg Int32.toInt ex1845
            refine va_mmax hx hb (by rw [hml]; exact hl.1.symm) hown (hts (.methodLink RX7 155 Lib.Math.max.name) (by decide +kernel)) (hts (.static Lib.Math.max.name) (by decide +kernel)) (hts (.initialized "java/lang/Math") (by decide +kernel)) (hts _ (List.mem_of_getElem? (i := 8) rfl)) (Nat.le_of_ble_eq_true rfl) (Nat.le_of_ble_eq_true rfl) (Nat.le_of_ble_eq_true rfl) (Nat.le_of_ble_eq_true rfl) dX7_follow_82 ?_
            refine lv_topi (fun z1846 ez1846 => ?_)
            have tz1846 : z1846.toInt = max x1843.toInt x1845.toInt := (xmax_t ez1846)
            refine lv_istore (lv' := [(5, .int z1846), (0, .ref (w 0)), (1, .int xn), (2, .int xp), (3, .ref (w (21 + (5 * xp.toNatClampNeg + n1718)))), (4, .ref (w (21 + (5 * xp.toNatClampNeg + xn.toNatClampNeg))))]) hx hb dX7_follow_85 hl (by decide) rfl (fun ls hl => ?_)
            have hLP1847 : ∀ (n : Nat) (y1848 : Int32) (ls : Array Slot), ((Ia1729 (w (21 + (5 * xp.toNatClampNeg + xn.toNatClampNeg))) 2).toInt - y1848.toInt).toNat < n → 0 ≤ y1848.toInt → ((Ia1729 (w (21 + (5 * xp.toNatClampNeg + xn.toNatClampNeg))) 1).toInt ≤ y1848.toInt ∧ (Ia1729 (w (21 + (5 * xp.toNatClampNeg + n1718))) 1).toInt ≤ y1848.toInt) → lv_has ls 7 [(5, .int y1848), (0, .ref (w 0)), (1, .int xn), (2, .int xp), (3, .ref (w (21 + (5 * xp.toNatClampNeg + n1718)))), (4, .ref (w (21 + (5 * xp.toNatClampNeg + xn.toNatClampNeg))))] → W p l e (headSpec wsX7_follow ({ frames := 4, cells := 0, slots := 0, locals := 99 })).room s m ([.ref (w 0), .int xn, .int xp] : List Value).toArray below meth c H locs 0 0 Qz (F0 m 87 ls []) := by
              intro n
              induction n with
              | zero => intro y1848 ls hms; exact absurd hms (Nat.not_lt_zero _)
              | succ n ih1847 =>
                intro y1848 ls hms hnn1847 hiv1847 hl
                refine lv_iload hx hb dX7_follow_87 (lv_at hl 0 rfl) ?_
                refine lv_aload hx hb dX7_follow_89 (lv_at hl 5 rfl) ?_
                obtain ⟨j1849, hj1849⟩ := wG_6 (cy := cy) (N := N) (T := T) (I := Ia1729) (Q := Q) (J := Ja1729) (hM.lg hjl1726).1 (hM.lg hjl1726).2
                refine va_get (D := (dC, dI)) (ci := 6) (v := .int (Ia1729 (w (21 + (5 * xp.toNatClampNeg + xn.toNatClampNeg))) 2)) (C := RX6) (T := TX6) (N := 7) hx hb hts hi6 hown hK hP j1849 hj1849 rfl 2 (by decide) (hts (.fieldLink RX7 89 "TallyLogsModel$Log" "end" "I") (by decide +kernel)) (fun _ h9 => h9) rfl dX7_follow_91 ?_
                refine lv_topi (fun x1850 ex1850 => ?_)
                have tx1850 : x1850.toInt = (Ia1729 (w (21 + (5 * xp.toNatClampNeg + xn.toNatClampNeg))) 2).toInt := congrArg Int32.toInt ex1850
                refine lv_icmp_ge (tgt := 130) hx hb dX7_follow_94 (by decide) (fun c1851 => ?_) (fun c1851 => ?_)
                · have kc1851 : x1850.toInt ≤ y1848.toInt := by have h9 := c1851; rw [xk_le] at h9; exact h9
                  refine lv_iload hx hb dX7_follow_130 (lv_at hl 0 rfl) ?_
                  refine lv_aload hx hb dX7_follow_132 (lv_at hl 5 rfl) ?_
                  obtain ⟨j1852, hj1852⟩ := wG_6 (cy := cy) (N := N) (T := T) (I := Ia1729) (Q := Q) (J := Ja1729) (hM.lg hjl1726).1 (hM.lg hjl1726).2
                  refine va_get (D := (dC, dI)) (ci := 6) (v := .int (Ia1729 (w (21 + (5 * xp.toNatClampNeg + xn.toNatClampNeg))) 2)) (C := RX6) (T := TX6) (N := 7) hx hb hts hi6 hown hK hP j1852 hj1852 rfl 2 (by decide) (hts (.fieldLink RX7 89 "TallyLogsModel$Log" "end" "I") (by decide +kernel)) (fun _ h9 => h9) rfl dX7_follow_134 ?_
                  refine lv_topi (fun x1853 ex1853 => ?_)
                  have tx1853 : x1853.toInt = (Ia1729 (w (21 + (5 * xp.toNatClampNeg + xn.toNatClampNeg))) 2).toInt := congrArg Int32.toInt ex1853
                  refine lv_icmp_ge (tgt := 147) hx hb dX7_follow_137 (by decide) (fun c1854 => ?_) (fun c1854 => ?_)
                  · have kc1854 : x1853.toInt ≤ y1848.toInt := by have h9 := c1854; rw [xk_le] at h9; exact h9
                    exact hJN147 _ _ _ _ _ ⟨hMX, by omega, by omega, by omega, by omega, by omega⟩ (by exact el1729) hR hMD hMU hP hD hS (lv_sub hl [1, 2, 3, 4, 5] rfl)
                  · have kc1854 : ¬ (x1853.toInt ≤ y1848.toInt) := by have h9 := c1854; rw [xk_le] at h9; exact h9
                    refine lv_aload hx hb dX7_follow_140 (lv_at hl 5 rfl) ?_
                    refine lv_iload hx hb dX7_follow_142 (lv_at hl 0 rfl) ?_
                    obtain ⟨j1856, hj1856⟩ := wG_6 (cy := cy) (N := N) (T := T) (I := Ia1729) (Q := Q) (J := Ja1729) (hM.lg hjl1726).1 (hM.lg hjl1726).2
                    have hDo := hD
                    refine va_put (D := (dC, dI)) (ci := 6) (v := .int y1848) (ty := .int) (C := RX6) (T := TX6) (N := 7) hx hb hts hi6 tyX6 tyX6_ok nmX6 hown hK hP hD hS j1856 hj1856 rfl 2 (by decide) (hts (.fieldLink RX7 89 "TallyLogsModel$Log" "end" "I") (by decide +kernel)) (fun _ h9 => h9) rfl (by decide +kernel) rfl rfl (Nat.le_of_ble_eq_true rfl) dX7_follow_144 (fun H locs hP hD hS => ?_)
                    have hP := Eq.mp (congrArg (fun w => va_P (dC, dI) vwCl w H) (wP_6_2 (x := y1848) hDo (hM.lg hjl1726).1 (hM.lg hjl1726).2 hj1856)) hP
                    obtain ⟨I1857, eI1857⟩ : ∃ z, z = p2 Ia1729 (w (21 + (5 * xp.toNatClampNeg + xn.toNatClampNeg))) 2 y1848 := ⟨_, rfl⟩
                    rw [← eI1857] at hP
                    have hD : va_D A (va_pl L (wF cy K N T I1857 Q Ja1729)) := pD hDo
                    have hR : RM w [] I J I1857 Ja1729 := by rw [eI1857]; exact hR.pl hM hjl1726
                    have hMU : MU w I1857 := by rw [eI1857]; exact hMU.pl hM hjl1726
                    have hMX : MLx w E (5 * xp.toNatClampNeg + xn.toNatClampNeg) I1857 := by rw [eI1857]; exact hMX.put hM hjl1726
                    have n1858_01 : (I1857 (w (21 + (5 * xp.toNatClampNeg + xn.toNatClampNeg))) 1).toInt = (Ia1729 (w (21 + (5 * xp.toNatClampNeg + xn.toNatClampNeg))) 1).toInt := by rw [eI1857, p2_ne _ _ (fun q => absurd q.2 (by decide))]
                    have n1858_02 : (I1857 (w (21 + (5 * xp.toNatClampNeg + xn.toNatClampNeg))) 2).toInt = y1848.toInt := by rw [eI1857, p2_at]
                    have n1858_11 : (I1857 (w (21 + (5 * xp.toNatClampNeg + n1718))) 1).toInt = (Ia1729 (w (21 + (5 * xp.toNatClampNeg + n1718))) 1).toInt := by rw [eI1857, p2_na _ _ (hM.ne (by omega) (by omega) (by omega))]
                    exact hJN147 _ _ _ _ _ ⟨hMX, by omega, by omega, by omega, by omega, by omega⟩ (by exact el1729) hR hMD hMU hP hD hS (lv_sub hl [1, 2, 3, 4, 5] rfl)
                · have kc1851 : ¬ (x1850.toInt ≤ y1848.toInt) := by have h9 := c1851; rw [xk_le] at h9; exact h9
                  refine lv_iload hx hb dX7_follow_97 (lv_at hl 0 rfl) ?_
                  refine lv_aload_n hx hb dX7_follow_99 rfl (lv_at hl 4 rfl) ?_
                  obtain ⟨j1859, hj1859⟩ := wG_6 (cy := cy) (N := N) (T := T) (I := Ia1729) (Q := Q) (J := Ja1729) (hM.lg hjn1718).1 (hM.lg hjn1718).2
                  refine va_get (D := (dC, dI)) (ci := 6) (v := .int (Ia1729 (w (21 + (5 * xp.toNatClampNeg + n1718))) 2)) (C := RX6) (T := TX6) (N := 7) hx hb hts hi6 hown hK hP j1859 hj1859 rfl 2 (by decide) (hts (.fieldLink RX7 89 "TallyLogsModel$Log" "end" "I") (by decide +kernel)) (fun _ h9 => h9) rfl dX7_follow_100 ?_
                  refine lv_topi (fun x1860 ex1860 => ?_)
                  have tx1860 : x1860.toInt = (Ia1729 (w (21 + (5 * xp.toNatClampNeg + n1718))) 2).toInt := congrArg Int32.toInt ex1860
                  refine lv_icmp_ge (tgt := 130) hx hb dX7_follow_103 (by decide) (fun c1861 => ?_) (fun c1861 => ?_)
                  · have kc1861 : x1860.toInt ≤ y1848.toInt := by have h9 := c1861; rw [xk_le] at h9; exact h9
                    refine lv_iload hx hb dX7_follow_130 (lv_at hl 0 rfl) ?_
                    refine lv_aload hx hb dX7_follow_132 (lv_at hl 5 rfl) ?_
                    obtain ⟨j1862, hj1862⟩ := wG_6 (cy := cy) (N := N) (T := T) (I := Ia1729) (Q := Q) (J := Ja1729) (hM.lg hjl1726).1 (hM.lg hjl1726).2
                    refine va_get (D := (dC, dI)) (ci := 6) (v := .int (Ia1729 (w (21 + (5 * xp.toNatClampNeg + xn.toNatClampNeg))) 2)) (C := RX6) (T := TX6) (N := 7) hx hb hts hi6 hown hK hP j1862 hj1862 rfl 2 (by decide) (hts (.fieldLink RX7 89 "TallyLogsModel$Log" "end" "I") (by decide +kernel)) (fun _ h9 => h9) rfl dX7_follow_134 ?_
                    refine lv_topi (fun x1863 ex1863 => ?_)
                    have tx1863 : x1863.toInt = (Ia1729 (w (21 + (5 * xp.toNatClampNeg + xn.toNatClampNeg))) 2).toInt := congrArg Int32.toInt ex1863
                    refine lv_icmp_ge (tgt := 147) hx hb dX7_follow_137 (by decide) (fun c1864 => ?_) (fun c1864 => ?_)
                    · have kc1864 : x1863.toInt ≤ y1848.toInt := by have h9 := c1864; rw [xk_le] at h9; exact h9
                      exact hJN147 _ _ _ _ _ ⟨hMX, by omega, by omega, by omega, by omega, by omega⟩ (by exact el1729) hR hMD hMU hP hD hS (lv_sub hl [1, 2, 3, 4, 5] rfl)
                    · have kc1864 : ¬ (x1863.toInt ≤ y1848.toInt) := by have h9 := c1864; rw [xk_le] at h9; exact h9
                      refine lv_aload hx hb dX7_follow_140 (lv_at hl 5 rfl) ?_
                      refine lv_iload hx hb dX7_follow_142 (lv_at hl 0 rfl) ?_
                      obtain ⟨j1866, hj1866⟩ := wG_6 (cy := cy) (N := N) (T := T) (I := Ia1729) (Q := Q) (J := Ja1729) (hM.lg hjl1726).1 (hM.lg hjl1726).2
                      have hDo := hD
                      refine va_put (D := (dC, dI)) (ci := 6) (v := .int y1848) (ty := .int) (C := RX6) (T := TX6) (N := 7) hx hb hts hi6 tyX6 tyX6_ok nmX6 hown hK hP hD hS j1866 hj1866 rfl 2 (by decide) (hts (.fieldLink RX7 89 "TallyLogsModel$Log" "end" "I") (by decide +kernel)) (fun _ h9 => h9) rfl (by decide +kernel) rfl rfl (Nat.le_of_ble_eq_true rfl) dX7_follow_144 (fun H locs hP hD hS => ?_)
                      have hP := Eq.mp (congrArg (fun w => va_P (dC, dI) vwCl w H) (wP_6_2 (x := y1848) hDo (hM.lg hjl1726).1 (hM.lg hjl1726).2 hj1866)) hP
                      obtain ⟨I1867, eI1867⟩ : ∃ z, z = p2 Ia1729 (w (21 + (5 * xp.toNatClampNeg + xn.toNatClampNeg))) 2 y1848 := ⟨_, rfl⟩
                      rw [← eI1867] at hP
                      have hD : va_D A (va_pl L (wF cy K N T I1867 Q Ja1729)) := pD hDo
                      have hR : RM w [] I J I1867 Ja1729 := by rw [eI1867]; exact hR.pl hM hjl1726
                      have hMU : MU w I1867 := by rw [eI1867]; exact hMU.pl hM hjl1726
                      have hMX : MLx w E (5 * xp.toNatClampNeg + xn.toNatClampNeg) I1867 := by rw [eI1867]; exact hMX.put hM hjl1726
                      have n1868_01 : (I1867 (w (21 + (5 * xp.toNatClampNeg + xn.toNatClampNeg))) 1).toInt = (Ia1729 (w (21 + (5 * xp.toNatClampNeg + xn.toNatClampNeg))) 1).toInt := by rw [eI1867, p2_ne _ _ (fun q => absurd q.2 (by decide))]
                      have n1868_02 : (I1867 (w (21 + (5 * xp.toNatClampNeg + xn.toNatClampNeg))) 2).toInt = y1848.toInt := by rw [eI1867, p2_at]
                      have n1868_11 : (I1867 (w (21 + (5 * xp.toNatClampNeg + n1718))) 1).toInt = (Ia1729 (w (21 + (5 * xp.toNatClampNeg + n1718))) 1).toInt := by rw [eI1867, p2_na _ _ (hM.ne (by omega) (by omega) (by omega))]
                      exact hJN147 _ _ _ _ _ ⟨hMX, by omega, by omega, by omega, by omega, by omega⟩ (by exact el1729) hR hMD hMU hP hD hS (lv_sub hl [1, 2, 3, 4, 5] rfl)
                  · have kc1861 : ¬ (x1860.toInt ≤ y1848.toInt) := by have h9 := c1861; rw [xk_le] at h9; exact h9
                    refine lv_aload hx hb dX7_follow_106 (lv_at hl 5 rfl) ?_
                    refine lv_iload hx hb dX7_follow_108 (lv_at hl 0 rfl) ?_
                    refine lv_iconst (v := 0) hx hb dX7_follow_110 (by decide) ?_
                    obtain ⟨j1870, hj1870⟩ := wG_6 (cy := cy) (N := N) (T := T) (I := Ia1729) (Q := Q) (J := Ja1729) (hM.lg hjl1726).1 (hM.lg hjl1726).2
                    refine vp_callSi (W.runV (As := [.int y1848, .int 0]) (rest := []) ⟨hx, hb, hml, hown, hts⟩ (c_X6_get l dC dI cy w L K N T Q Ia1729 Ja1729 (5 * xp.toNatClampNeg + xn.toNatClampNeg) y1848 0 hM hjl1726 (by omega) (by omega) (by unfold vp_in; decide)) (cwV 2 hts gX7_follow_X6_get rfl rfl rfl (by decide +kernel) ⟨Nat.le_of_ble_eq_true rfl, Nat.le_of_ble_eq_true rfl⟩) ⟨mb_blind, va_recv hK hP (ci := 6) (q0 := j1870) rfl hj1870, fun U hU hW => ⟨rfl, mb_pre hP hK hU hW⟩⟩ rfl rfl hl.1 rfl (lv_room (Nat.le_of_ble_eq_true rfl)) dX7_follow_111 ⟨Nat.le_of_ble_eq_true rfl, Nat.le_of_ble_eq_true rfl⟩) (fun r1869 hr1869 => ?_)
                    refine lv_aload_n hx hb dX7_follow_114 rfl (lv_at hl 4 rfl) ?_
                    refine lv_iload hx hb dX7_follow_115 (lv_at hl 0 rfl) ?_
                    refine lv_iconst (v := 0) hx hb dX7_follow_117 (by decide) ?_
                    obtain ⟨j1872, hj1872⟩ := wG_6 (cy := cy) (N := N) (T := T) (I := Ia1729) (Q := Q) (J := Ja1729) (hM.lg hjn1718).1 (hM.lg hjn1718).2
                    refine vp_callSi (W.runV (As := [.int y1848, .int 0]) (rest := [.int r1869]) ⟨hx, hb, hml, hown, hts⟩ (c_X6_get l dC dI cy w L K N T Q Ia1729 Ja1729 (5 * xp.toNatClampNeg + n1718) y1848 0 hM hjn1718 (by omega) (by omega) (by unfold vp_in; decide)) (cwV 2 hts gX7_follow_X6_get rfl rfl rfl (by decide +kernel) ⟨Nat.le_of_ble_eq_true rfl, Nat.le_of_ble_eq_true rfl⟩) ⟨mb_blind, va_recv hK hP (ci := 6) (q0 := j1872) rfl hj1872, fun U hU hW => ⟨rfl, mb_pre hP hK hU hW⟩⟩ rfl rfl hl.1 rfl (lv_room (Nat.le_of_ble_eq_true rfl)) dX7_follow_118 ⟨Nat.le_of_ble_eq_true rfl, Nat.le_of_ble_eq_true rfl⟩) (fun r1871 hr1871 => ?_)
                    refine lv_icmp_ne (tgt := 130) hx hb dX7_follow_121 (by decide) (fun c1873 => ?_) (fun c1873 => ?_)
                    · have kc1873 : ¬ (r1869.toInt = r1871.toInt) := by have h9 := c1873; rw [xk_eq] at h9; exact h9
                      refine lv_iload hx hb dX7_follow_130 (lv_at hl 0 rfl) ?_
                      refine lv_aload hx hb dX7_follow_132 (lv_at hl 5 rfl) ?_
                      obtain ⟨j1874, hj1874⟩ := wG_6 (cy := cy) (N := N) (T := T) (I := Ia1729) (Q := Q) (J := Ja1729) (hM.lg hjl1726).1 (hM.lg hjl1726).2
                      refine va_get (D := (dC, dI)) (ci := 6) (v := .int (Ia1729 (w (21 + (5 * xp.toNatClampNeg + xn.toNatClampNeg))) 2)) (C := RX6) (T := TX6) (N := 7) hx hb hts hi6 hown hK hP j1874 hj1874 rfl 2 (by decide) (hts (.fieldLink RX7 89 "TallyLogsModel$Log" "end" "I") (by decide +kernel)) (fun _ h9 => h9) rfl dX7_follow_134 ?_
                      refine lv_topi (fun x1875 ex1875 => ?_)
                      have tx1875 : x1875.toInt = (Ia1729 (w (21 + (5 * xp.toNatClampNeg + xn.toNatClampNeg))) 2).toInt := congrArg Int32.toInt ex1875
                      refine lv_icmp_ge (tgt := 147) hx hb dX7_follow_137 (by decide) (fun c1876 => ?_) (fun c1876 => ?_)
                      · have kc1876 : x1875.toInt ≤ y1848.toInt := by have h9 := c1876; rw [xk_le] at h9; exact h9
                        exact hJN147 _ _ _ _ _ ⟨hMX, by omega, by omega, by omega, by omega, by omega⟩ (by exact el1729) hR hMD hMU hP hD hS (lv_sub hl [1, 2, 3, 4, 5] rfl)
                      · have kc1876 : ¬ (x1875.toInt ≤ y1848.toInt) := by have h9 := c1876; rw [xk_le] at h9; exact h9
                        refine lv_aload hx hb dX7_follow_140 (lv_at hl 5 rfl) ?_
                        refine lv_iload hx hb dX7_follow_142 (lv_at hl 0 rfl) ?_
                        obtain ⟨j1878, hj1878⟩ := wG_6 (cy := cy) (N := N) (T := T) (I := Ia1729) (Q := Q) (J := Ja1729) (hM.lg hjl1726).1 (hM.lg hjl1726).2
                        have hDo := hD
                        refine va_put (D := (dC, dI)) (ci := 6) (v := .int y1848) (ty := .int) (C := RX6) (T := TX6) (N := 7) hx hb hts hi6 tyX6 tyX6_ok nmX6 hown hK hP hD hS j1878 hj1878 rfl 2 (by decide) (hts (.fieldLink RX7 89 "TallyLogsModel$Log" "end" "I") (by decide +kernel)) (fun _ h9 => h9) rfl (by decide +kernel) rfl rfl (Nat.le_of_ble_eq_true rfl) dX7_follow_144 (fun H locs hP hD hS => ?_)
                        have hP := Eq.mp (congrArg (fun w => va_P (dC, dI) vwCl w H) (wP_6_2 (x := y1848) hDo (hM.lg hjl1726).1 (hM.lg hjl1726).2 hj1878)) hP
                        obtain ⟨I1879, eI1879⟩ : ∃ z, z = p2 Ia1729 (w (21 + (5 * xp.toNatClampNeg + xn.toNatClampNeg))) 2 y1848 := ⟨_, rfl⟩
                        rw [← eI1879] at hP
                        have hD : va_D A (va_pl L (wF cy K N T I1879 Q Ja1729)) := pD hDo
                        have hR : RM w [] I J I1879 Ja1729 := by rw [eI1879]; exact hR.pl hM hjl1726
                        have hMU : MU w I1879 := by rw [eI1879]; exact hMU.pl hM hjl1726
                        have hMX : MLx w E (5 * xp.toNatClampNeg + xn.toNatClampNeg) I1879 := by rw [eI1879]; exact hMX.put hM hjl1726
                        have n1880_01 : (I1879 (w (21 + (5 * xp.toNatClampNeg + xn.toNatClampNeg))) 1).toInt = (Ia1729 (w (21 + (5 * xp.toNatClampNeg + xn.toNatClampNeg))) 1).toInt := by rw [eI1879, p2_ne _ _ (fun q => absurd q.2 (by decide))]
                        have n1880_02 : (I1879 (w (21 + (5 * xp.toNatClampNeg + xn.toNatClampNeg))) 2).toInt = y1848.toInt := by rw [eI1879, p2_at]
                        have n1880_11 : (I1879 (w (21 + (5 * xp.toNatClampNeg + n1718))) 1).toInt = (Ia1729 (w (21 + (5 * xp.toNatClampNeg + n1718))) 1).toInt := by rw [eI1879, p2_na _ _ (hM.ne (by omega) (by omega) (by omega))]
                        exact hJN147 _ _ _ _ _ ⟨hMX, by omega, by omega, by omega, by omega, by omega⟩ (by exact el1729) hR hMD hMU hP hD hS (lv_sub hl [1, 2, 3, 4, 5] rfl)
                    · have kc1873 : r1869.toInt = r1871.toInt := by have h9 := c1873; rw [xk_eq] at h9; exact h9
                      obtain ⟨v1881, ev1881⟩ : ∃ y : Int32, y = y1848 + Int32.ofInt 1 := ⟨_, rfl⟩
                      refine lv_iinc (v := v1881) (lv' := [(5, .int v1881), (0, .ref (w 0)), (1, .int xn), (2, .int xp), (3, .ref (w (21 + (5 * xp.toNatClampNeg + n1718)))), (4, .ref (w (21 + (5 * xp.toNatClampNeg + xn.toNatClampNeg))))]) hx hb dX7_follow_124 hl (k := 0) rfl ev1881.symm (by decide) rfl (fun ls hl => ?_)
                      refine lv_goto (tgt := 87) hx hb dX7_follow_127 (by decide) ?_
                      have tv1881 : v1881.toInt = y1848.toInt + 1 := by rw [ev1881, show y1848 + Int32.ofInt 1 = y1848 + 1 from rfl]; exact xinc (y := Ia1729 (w (21 + (5 * xp.toNatClampNeg + xn.toNatClampNeg))) 2) (by rw [xk_lt]; omega)
                      exact ih1847 _ _ (by omega) (by omega) (⟨by omega, by omega⟩)  (lv_sub hl [0, 1, 2, 3, 4, 5] rfl)
            exact hLP1847 _ _ _ (Nat.lt_succ_self _) (by omega) (⟨by omega, by omega⟩)  (lv_sub hl [0, 1, 2, 3, 4, 5] rfl)
          refine lv_aload hx hb dX7_follow_52 (lv_at hl 0 rfl) ?_
          obtain ⟨j1882, hj1882⟩ := wG_6 (cy := cy) (N := N) (T := T) (I := I) (Q := Q) (J := J) (hM.lg hjl1726).1 (hM.lg hjl1726).2
          refine va_get (D := (dC, dI)) (ci := 6) (v := .int (I (w (21 + (5 * xp.toNatClampNeg + xn.toNatClampNeg))) 2)) (C := RX6) (T := TX6) (N := 7) hx hb hts hi6 hown hK hP j1882 hj1882 rfl 2 (by decide) (hts (.fieldLink RX7 89 "TallyLogsModel$Log" "end" "I") (by decide +kernel)) (fun _ h9 => h9) rfl dX7_follow_54 ?_
          refine lv_topi (fun x1883 ex1883 => ?_)
          have tx1883 : x1883.toInt = (I (w (21 + (5 * xp.toNatClampNeg + xn.toNatClampNeg))) 2).toInt := congrArg Int32.toInt ex1883
          refine lv_aload_n hx hb dX7_follow_57 rfl (lv_at hl 1 rfl) ?_
          obtain ⟨j1884, hj1884⟩ := wG_6 (cy := cy) (N := N) (T := T) (I := I) (Q := Q) (J := J) (hM.lg hjn1718).1 (hM.lg hjn1718).2
          refine va_get (D := (dC, dI)) (ci := 6) (v := .int (I (w (21 + (5 * xp.toNatClampNeg + n1718))) 1)) (C := RX6) (T := TX6) (N := 7) hx hb hts hi6 hown hK hP j1884 hj1884 rfl 1 (by decide) (hts (.fieldLink RX7 134 "TallyLogsModel$Log" "start" "I") (by decide +kernel)) (fun _ h9 => h9) rfl dX7_follow_58 ?_
          refine lv_topi (fun x1885 ex1885 => ?_)
          have tx1885 : x1885.toInt = (I (w (21 + (5 * xp.toNatClampNeg + n1718))) 1).toInt := congrArg Int32.toInt ex1885
          refine lv_icmp_ge (tgt := 73) hx hb dX7_follow_61 (by decide) (fun c1886 => ?_) (fun c1886 => ?_)
          · have kc1886 : x1885.toInt ≤ x1883.toInt := by have h9 := c1886; rw [xk_le] at h9; exact h9
            exact hJN73 _ _ _ _ _ ⟨hMX, by omega, by omega, by omega, by omega, by omega⟩ (by exact eln1718) hR hMD hMU hP hD hS (lv_sub hl [2, 3, 4, 1, 0] rfl)
          · have kc1886 : ¬ (x1885.toInt ≤ x1883.toInt) := by have h9 := c1886; rw [xk_le] at h9; exact h9
            refine lv_aload hx hb dX7_follow_64 (lv_at hl 0 rfl) ?_
            refine lv_aload_n hx hb dX7_follow_66 rfl (lv_at hl 1 rfl) ?_
            obtain ⟨j1888, hj1888⟩ := wG_6 (cy := cy) (N := N) (T := T) (I := I) (Q := Q) (J := J) (hM.lg hjn1718).1 (hM.lg hjn1718).2
            refine va_get (D := (dC, dI)) (ci := 6) (v := .int (I (w (21 + (5 * xp.toNatClampNeg + n1718))) 1)) (C := RX6) (T := TX6) (N := 7) hx hb hts hi6 hown hK hP j1888 hj1888 rfl 1 (by decide) (hts (.fieldLink RX7 134 "TallyLogsModel$Log" "start" "I") (by decide +kernel)) (fun _ h9 => h9) rfl dX7_follow_67 ?_
            refine lv_topi (fun x1889 ex1889 => ?_)
            have tx1889 : x1889.toInt = (I (w (21 + (5 * xp.toNatClampNeg + n1718))) 1).toInt := congrArg Int32.toInt ex1889
            obtain ⟨j1890, hj1890⟩ := wG_6 (cy := cy) (N := N) (T := T) (I := I) (Q := Q) (J := J) (hM.lg hjl1726).1 (hM.lg hjl1726).2
            have hFc := pfree hD hS hA
            refine va_callv (va_runV (As := [.int x1889]) (rest := []) ⟨hx, hb, hml, hown, hts⟩ (c_X6_from l dC dI cy w L K N T Q I J s.heap.size (5 * xp.toNatClampNeg + xn.toNatClampNeg) x1889 hM hjl1726 (by omega) (by omega) (by omega)) (cwV 1 hts gX7_follow_X6_from rfl rfl rfl (by decide +kernel) ⟨Nat.le_of_ble_eq_true rfl, Nat.le_of_ble_eq_true rfl⟩) ⟨mw_blind, va_recv hK hP (ci := 6) (q0 := j1890) rfl hj1890, fun U hU hW => ⟨rfl, mw_pre hP hK hD hU hW⟩⟩ rfl rfl hl.1 rfl (lv_room (Nat.le_of_ble_eq_true rfl)) dX7_follow_70 ⟨Nat.le_of_ble_eq_true rfl, Nat.le_of_ble_eq_true rfl⟩) hS (fun q _ h => hFc q h) hFc (fun d9 t H1 locs ht hvm hw hB hz1 hk1 hS => ?_)
            obtain ⟨I1891, J1891⟩ := d9
            obtain ⟨hP, hK1, hD1⟩ := hB
            rw [ht] at hP
            have hD := hD1.weaken (fun _ _ _ h => hFc _ h)
            generalize H1 = H at hP hS ⊢
            have hP : va_P (dC, dI) vwCl (va_pl L (wF cy K N T I1891 Q J1891)) H := hP
            have hD : va_D A (va_pl L (wF cy K N T I1891 Q J1891)) := hD
            have hw1893 : LW w I J I1891 J1891 (5 * xp.toNatClampNeg + xn.toNatClampNeg) _ _ := hw
            have hR : RM w [] I J I1891 J1891 := hR.lw hM hjl1726 hw1893
            have hMD : MD w J1891 := hMD.lw hM hjl1726 hw1893
            have hMU : MU w I1891 := hMU.lw hM hjl1726 hw1893
            have hMX : MLx w E (5 * xp.toNatClampNeg + xn.toNatClampNeg) I1891 := hMX.lw hM hjl1726 hw1893
            have q1hw1893 : (I1891 (w (21 + (5 * xp.toNatClampNeg + xn.toNatClampNeg))) 1).toInt = _ := hw1893.2.2.1
            have q2hw1893 : (I1891 (w (21 + (5 * xp.toNatClampNeg + xn.toNatClampNeg))) 2).toInt = _ := hw1893.2.2.2
            have q4hw1893 : (I1891 (w (21 + (5 * xp.toNatClampNeg + xn.toNatClampNeg))) 4).toInt = _ := congrArg Int32.toInt hw1893.f4
            have l1hw1893 : (I1891 (w (21 + (5 * xp.toNatClampNeg + n1718))) 1).toInt = _ := congrArg Int32.toInt (hw1893.other hM hjl1726 hjn1718 (f := 1) (by omega))
            have l2hw1893 : (I1891 (w (21 + (5 * xp.toNatClampNeg + n1718))) 2).toInt = _ := congrArg Int32.toInt (hw1893.other hM hjl1726 hjn1718 (f := 2) (by omega))
            have l3hw1893 : (I1891 (w (21 + (5 * xp.toNatClampNeg + n1718))) 3).toInt = _ := congrArg Int32.toInt (hw1893.other hM hjl1726 hjn1718 (f := 3) (by omega))
            have el1894 : J1891 (w 4) xp.toNatClampNeg = nI n1718 := by rw [hw1893.2.1 _ (hM.ne (i := 4) (by omega) (by omega) (by omega))]; exact (by exact eln1718)
            exact hJN73 _ _ _ _ _ ⟨hMX, by omega, by omega, by omega, by omega, by omega⟩ (by exact el1894) hR hMD hMU hP hD hS (lv_sub hl [2, 3, 4, 1, 0] rfl)
      · have kc1715 : x1714.toInt = xn.toInt := by have h9 := c1715; rw [xk_eq] at h9; exact h9
        refine lv_iconst (v := (-1)) hx hb dX7_follow_27 (by decide) ?_
        exact W.iret (v := (-1)) hx hb hr (fun t ht hW => ⟨⟨(-1), (I, J), rfl, ⟨⟨hML.mono (by omega), hMD, hMU⟩, hR⟩, by rw [ht]; exact hP, va_K.moved hW.alike hK, hD⟩, hS.F ht⟩) hS.2.2 dX7_follow_28
