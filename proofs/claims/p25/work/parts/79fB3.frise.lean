set_option maxHeartbeats 4000000 in
set_option maxRecDepth 100000 in
/-- rise, exactly -/
theorem f_X7_rise (l : Launch) (dC : Nat → ClassId) (dI : Nat → Nat → Nat) (cy : Nat → ClassId) (w : Nat → Nat) (L : List Nat) (K N : Nat → Nat) (T : Nat → Nat → Nat) (Q : Nat → Nat → Option Nat) (I J : Nat → Nat → Int32) (sz : Nat) (xp : Int32) (σ : SG) (hM : MS w L K N T Q) (hp : vp_in xp 4) (hLD : LD (J (w 4) xp.toNatClampNeg) (J (w 7) xp.toNatClampNeg)) (hMR : MR w I J σ) : Met l yX7_rise wsX7_rise ({ frames := 3, cells := 0, slots := 0, locals := 73 }) (va_Pc [.ref (w 0), .int xp] (mW dC dI cy L (wF cy K N T I Q J) sz)) (va_Qv (fun d : (Nat → Nat → Int32) × (Nat → Nat → Int32) => MR w d.1 d.2 (oRi σ xp.toNatClampNeg) ∧ RZ w I J d.1 d.2 xp.toNatClampNeg) (fun (d : (Nat → Nat → Int32) × (Nat → Nat → Int32)) t => va_P (dC, dI) vwCl (va_pl L (wF cy K N T d.1 Q d.2)) t.heap ∧ va_K (dC, dI) vwCl (mTy cy) t ∧ va_D (va_A (va_pl L (wF cy K N T I Q J)) sz) (va_pl L (wF cy K N T d.1 Q d.2))) (va_A (va_pl L (wF cy K N T I Q J)) sz)) 0 0 (va_A (va_pl L (wF cy K N T I Q J)) sz) := by
  refine Met.ofW (cc := cX7_rise) (maxL := 5) (ret := none) (by decide) rfl ?_
  intro p e s m args below meth c s₁ B hml hv
  obtain ⟨rfl, hsz, ⟨hP, hK⟩, hD0⟩ := hv
  have hx := B.exec
  have hb := B.bytes
  have hr := B.returns
  have hts := atoms_spec (ws := wsX7_rise) B.pre
  have hown : s.vm.findClass RX7 = some m.cls := findClass_of_methodNamed B.named
  have hlocks := B.notSynchronized
  have hi7 : ∀ w ∈ wsX70, w ∈ wsX7_rise := by decide +kernel
  have hi6 : ∀ w ∈ wsX60, w ∈ wsX7_rise := by decide +kernel
  have hl := lv_entry ([.ref (w 0), .int xp]) (n := 5) (Nat.le_of_ble_eq_true rfl)
  rw [lg_entry_eq]
  generalize (lg_sl ([.ref (w 0), .int xp]) ++ List.replicate (5 - (lg_sl ([.ref (w 0), .int xp])).length) Slot.unset).toArray = ls at hl ⊢
  have hl : lv_has ls 5 [(0, .ref (w 0)), (1, .int xp)] := hl
  subst hsz
  have hD := hD0.self (sz := s.heap.size)
  generalize hAe : va_A (va_pl L (wF cy K N T I Q J)) s.heap.size = A at hD ⊢
  have hA : ∀ q : Nat, s.heap.size ≤ q → A q := fun q h => by rw [← hAe]; exact Or.inr h
  have hS : va_S A s.heap s.heap [] := va_S.rf
  have hMR0 := hMR
  refine lv_aload_n hx hb dX7_rise_0 rfl (lv_at hl 0 rfl) ?_
  refine lv_iload_n hx hb dX7_rise_1 rfl (lv_at hl 1 rfl) ?_
  obtain ⟨j310075, hj310075⟩ := wG_7 (cy := cy) (N := N) (T := T) (I := I) (Q := Q) (J := J) (hM.at 0 (by decide)) (hM.k 0 (by decide) rfl)
  refine va_csq (W.runV (As := [.int xp]) (rest := []) ⟨hx, hb, hml, hown, hts⟩ (c_X7_own l dC dI cy w L K N T Q I J xp hM hp) (cwV 1 hts gX7_rise_X7_own rfl rfl rfl (by decide +kernel) ⟨Nat.le_of_ble_eq_true rfl, Nat.le_of_ble_eq_true rfl⟩) ⟨mb_blind, va_recv hK hP (ci := 7) (q0 := j310075) rfl hj310075, fun U hU hW => ⟨rfl, mb_pre hP hK hU hW⟩⟩ rfl rfl hl.1 rfl (lv_room (Nat.le_of_ble_eq_true rfl)) dX7_rise_2 ⟨Nat.le_of_ble_eq_true rfl, Nat.le_of_ble_eq_true rfl⟩) (fun r310074 hr310074 => ?_)
  subst hr310074
  rcases sp_ow_cs w (I (w 0) 16) (J (w 4) xp.toNatClampNeg) xp.toNatClampNeg with hon310076 | ⟨n310076, hnn310076, eln310076, hubn310076, hon310076⟩
  · refine W.eq (g2 := F0 m 5 ls [.null]) (by rw [hon310076]; rfl) ?_
    have oqn310076 := oOw_no hMR (vp_lt (n := 4) hp) hon310076
    refine lv_astore_nN (lv' := [(2, .null), (0, .ref (w 0)), (1, .int xp)]) hx hb dX7_rise_5 rfl hl (by decide) rfl (fun ls hl => ?_)
    refine lv_aload_nN hx hb dX7_rise_6 rfl (lv_at hl 0 rfl) ?_
    refine lv_ifnonnullN hx hb dX7_rise_7 ?_
    exact W.vret hx hb hr (fun t ht hW => ⟨⟨(I, J), rfl, ⟨by rw [oRi_no (oOw_no hMR0 (vp_lt (n := 4) hp) hon310076)]; exact hMR, ⟨rfl, Or.inl rfl⟩⟩, by rw [ht]; exact hP, va_K.moved hW.alike hK, hD⟩, hS.F ht⟩) hS.2.2 dX7_rise_10
  · have hjn310076 : (5 * xp.toNatClampNeg + n310076) < 20 := by have h1 := vp_lt (n := 4) hp; omega
    refine W.eq (g2 := F0 m 5 ls [.ref (w (21 + (5 * xp.toNatClampNeg + n310076)))]) (by rw [hon310076]; rfl) ?_
    have oqn310076 := oOw_of hM hMR (vp_lt (n := 4) hp) hnn310076 eln310076 hubn310076
    refine lv_astore_n (lv' := [(2, .ref (w (21 + (5 * xp.toNatClampNeg + n310076)))), (0, .ref (w 0)), (1, .int xp)]) hx hb dX7_rise_5 rfl hl (by decide) rfl (fun ls hl => ?_)
    refine lv_aload_n hx hb dX7_rise_6 rfl (lv_at hl 0 rfl) ?_
    refine lv_ifnonnull (tgt := 11) hx hb dX7_rise_7 (by decide) ?_
    have hbitn310076 : (J (w 7) xp.toNatClampNeg >>> (nI n310076 &&& 31)) &&& 1 = 1 := by
      rcases hLD with h | h
      · rw [eln310076, nI_toInt (by omega)] at h; omega
      · rw [← eln310076]; exact h.2
    refine lv_ldc hx hb hown (hts (.constant RX7 101 2147483647) (by decide +kernel)) dX7_rise_11 ?_
    refine lv_istore_n (lv' := [(3, .int 2147483647), (2, .ref (w (21 + (5 * xp.toNatClampNeg + n310076)))), (0, .ref (w 0)), (1, .int xp)]) hx hb dX7_rise_13 rfl hl (by decide) rfl (fun ls hl => ?_)
    refine lv_iconst (v := 0) hx hb dX7_rise_14 (by decide) ?_
    refine lv_istore (lv' := [(4, .int 0), (3, .int 2147483647), (2, .ref (w (21 + (5 * xp.toNatClampNeg + n310076)))), (0, .ref (w 0)), (1, .int xp)]) hx hb dX7_rise_15 hl (by decide) rfl (fun ls hl => ?_)
    refine wq_gen (fun Qz hQz => ?_)
    have hLP310077 : ∀ (n : Nat) (y310078 y310079 : Int32) (ls : Array Slot), (5 - y310078.toInt).toNat < n → 0 ≤ y310078.toInt → ((((n310076 : Nat) : Int) < y310078.toInt → y310079.toInt ≤ (I (w (21 + (5 * xp.toNatClampNeg + n310076))) 2).toInt) ∧ y310078.toInt ≤ 5 ∧ y310079 = oLs σ xp.toNatClampNeg y310078.toNatClampNeg) → lv_has ls 5 [(4, .int y310078), (3, .int y310079), (2, .ref (w (21 + (5 * xp.toNatClampNeg + n310076)))), (0, .ref (w 0)), (1, .int xp)] → W p l e (headSpec wsX7_rise ({ frames := 3, cells := 0, slots := 0, locals := 73 })).room s m ([.ref (w 0), .int xp] : List Value).toArray below meth c s.heap [] 0 0 Qz (F0 m 17 ls []) := by
      intro n
      induction n with
      | zero => intro y310078 y310079 ls hms; exact absurd hms (Nat.not_lt_zero _)
      | succ n ih310077 =>
        intro y310078 y310079 ls hms hnn310077 hiv310077 hl
        refine lv_iload hx hb dX7_rise_17 (lv_at hl 0 rfl) ?_
        refine lv_iconst (v := 5) hx hb dX7_rise_19 (by decide) ?_
        refine lv_icmp_ge (tgt := 56) hx hb dX7_rise_20 (by decide) (fun c310080 => ?_) (fun c310080 => ?_)
        · have kc310080 : 5 ≤ y310078.toInt := by have h9 := c310080; rw [xk_le, xk_5] at h9; exact h9
          refine lv_iload_n hx hb dX7_rise_56 rfl (lv_at hl 1 rfl) ?_
          refine lv_ldc hx hb hown (hts (.constant RX7 101 2147483647) (by decide +kernel)) dX7_rise_57 ?_
          refine lv_icmp_eq (tgt := 75) hx hb dX7_rise_59 (by decide) (fun c310081 => ?_) (fun c310081 => ?_)
          · have kc310081 : y310079.toInt = 2147483647 := by have h9 := c310081; rw [xk_eq, (show (2147483647 : Int32).toInt = 2147483647 by decide)] at h9; exact h9
            rw [hQz]
            exact W.vret hx hb hr (fun t ht hW => ⟨⟨(I, J), rfl, ⟨by have e5 : oLs σ xp.toNatClampNeg 5 = y310079 := (by rw [hiv310077.2.2, show y310078.toNatClampNeg = 5 by rw [clT]; omega]); rw [oRi_s (oOw_of hM hMR0 (vp_lt (n := 4) hp) hnn310076 eln310076 hubn310076), if_pos (by rw [e5]; exact c310081)]; exact hMR, ⟨rfl, Or.inl rfl⟩⟩, by rw [ht]; exact hP, va_K.moved hW.alike hK, hD⟩, hS.F ht⟩) hS.2.2 dX7_rise_75
          · have kc310081 : ¬ (y310079.toInt = 2147483647) := by have h9 := c310081; rw [xk_eq, (show (2147483647 : Int32).toInt = 2147483647 by decide)] at h9; exact h9
            refine lv_iload_n hx hb dX7_rise_62 rfl (lv_at hl 1 rfl) ?_
            refine lv_aload_n hx hb dX7_rise_63 rfl (lv_at hl 2 rfl) ?_
            obtain ⟨j310082, hj310082⟩ := wG_6 (cy := cy) (N := N) (T := T) (I := I) (Q := Q) (J := J) (hM.lg hjn310076).1 (hM.lg hjn310076).2
            refine va_get (D := (dC, dI)) (ci := 6) (v := .int (I (w (21 + (5 * xp.toNatClampNeg + n310076))) 3)) (C := RX6) (T := TX6) (N := 7) hx hb hts hi6 hown hK hP j310082 hj310082 rfl 3 (by decide) (hts (.fieldLink RX7 109 "TallyLogsModel$Log" "high" "I") (by decide +kernel)) (fun _ h9 => h9) rfl dX7_rise_64 ?_
            refine lv_topi (fun x310083 ex310083 => ?_)
            have sx310083 : x310083 = σ.2.1 (5 * xp.toNatClampNeg + n310076) 3 := ex310083.trans (hMR.g hjn310076 (by decide) (by decide))
            have tx310083 : x310083.toInt = (I (w (21 + (5 * xp.toNatClampNeg + n310076))) 3).toInt := congrArg Int32.toInt ex310083
            refine lv_icmp_le (tgt := 75) hx hb dX7_rise_67 (by decide) (fun c310084 => ?_) (fun c310084 => ?_)
            · have kc310084 : y310079.toInt ≤ x310083.toInt := by have h9 := c310084; rw [xk_le] at h9; exact h9
              rw [hQz]
              exact W.vret hx hb hr (fun t ht hW => ⟨⟨(I, J), rfl, ⟨by have e5 : oLs σ xp.toNatClampNeg 5 = y310079 := (by rw [hiv310077.2.2, show y310078.toNatClampNeg = 5 by rw [clT]; omega]); rw [oRi_s (oOw_of hM hMR0 (vp_lt (n := 4) hp) hnn310076 eln310076 hubn310076), if_neg (by rw [e5]; exact c310081), if_neg (by rw [e5, ← hMR0.g (j := 5 * xp.toNatClampNeg + n310076) (f := 3) hjn310076 (by decide) (by decide), ← ex310083]; have k9 := c310084; rw [xk_le] at k9; rw [xk_lt]; omega)]; exact hMR, ⟨rfl, Or.inl rfl⟩⟩, by rw [ht]; exact hP, va_K.moved hW.alike hK, hD⟩, hS.F ht⟩) hS.2.2 dX7_rise_75
            · have kc310084 : ¬ (y310079.toInt ≤ x310083.toInt) := by have h9 := c310084; rw [xk_le] at h9; exact h9
              refine lv_aload_n hx hb dX7_rise_70 rfl (lv_at hl 2 rfl) ?_
              refine lv_iload_n hx hb dX7_rise_71 rfl (lv_at hl 1 rfl) ?_
              obtain ⟨j310085, hj310085⟩ := wG_6 (cy := cy) (N := N) (T := T) (I := I) (Q := Q) (J := J) (hM.lg hjn310076).1 (hM.lg hjn310076).2
              have hDo := hD
              refine va_put (D := (dC, dI)) (ci := 6) (v := .int y310079) (ty := .int) (C := RX6) (T := TX6) (N := 7) hx hb hts hi6 tyX6 tyX6_ok nmX6 hown hK hP hD hS j310085 hj310085 rfl 3 (by decide) (hts (.fieldLink RX7 109 "TallyLogsModel$Log" "high" "I") (by decide +kernel)) (fun _ h9 => h9) rfl (by decide +kernel) rfl rfl (Nat.le_of_ble_eq_true rfl) dX7_rise_72 (fun H locs hP hD hS => ?_)
              have hP := Eq.mp (congrArg (fun w => va_P (dC, dI) vwCl w H) (wP_6_3 (x := y310079) hDo (hM.lg hjn310076).1 (hM.lg hjn310076).2 hj310085)) hP
              obtain ⟨I310086, eI310086⟩ : ∃ z, z = p2 I (w (21 + (5 * xp.toNatClampNeg + n310076))) 3 y310079 := ⟨_, rfl⟩
              rw [← eI310086] at hP
              have hD : va_D A (va_pl L (wF cy K N T I310086 Q J)) := pD hDo
              obtain ⟨sg310087, esg310087⟩ : ∃ z, z = sG σ (5 * xp.toNatClampNeg + n310076) 3 y310079 := ⟨_, rfl⟩
              have hMR : MR w I310086 J sg310087 := by rw [eI310086, esg310087]; exact hMR.wg hM hjn310076 (by decide) (by decide)
              rw [hQz]
              exact W.vret hx hb hr (fun t ht hW => ⟨⟨(I310086, J), rfl, ⟨by have e5 : oLs σ xp.toNatClampNeg 5 = y310079 := (by rw [hiv310077.2.2, show y310078.toNatClampNeg = 5 by rw [clT]; omega]); show MR w I310086 J _; rw [oRi_s (oOw_of hM hMR0 (vp_lt (n := 4) hp) hnn310076 eln310076 hubn310076), if_neg (by rw [e5]; exact c310081), if_pos (by rw [e5, ← hMR0.g (j := 5 * xp.toNatClampNeg + n310076) (f := 3) hjn310076 (by decide) (by decide), ← ex310083]; have k9 := c310084; rw [xk_le] at k9; rw [xk_lt]; omega), e5, ← esg310087]; exact hMR, ⟨rfl, Or.inr ⟨n310076, y310079, hnn310076, eln310076, hiv310077.1 (by omega), eI310086⟩⟩⟩, by rw [ht]; exact hP, va_K.moved hW.alike hK, hD⟩, hS.F ht⟩) hS.2.2 dX7_rise_75
        · have kc310080 : ¬ (5 ≤ y310078.toInt) := by have h9 := c310080; rw [xk_le, xk_5] at h9; exact h9
          refine lv_aload_n hx hb dX7_rise_23 rfl (lv_at hl 3 rfl) ?_
          obtain ⟨j310088, hj310088⟩ := wG_7 (cy := cy) (N := N) (T := T) (I := I) (Q := Q) (J := J) (hM.at 0 (by decide)) (hM.k 0 (by decide) rfl)
          refine va_get (D := (dC, dI)) (ci := 7) (v := .ref (T (w 0) 6)) (C := RX7) (T := TX7) (N := 18) hx hb hts hi7 hown hK hP j310088 hj310088 rfl 6 (by decide) (hts (.fieldLink RX7 31 "TallyLogsModel" "step" "[I") (by decide +kernel)) (fun _ h9 => h9) rfl dX7_rise_24 ?_
          refine W.eq (g2 := F0 m 27 ls [.ref (w 7)]) (by rw [hM.t 6 (by decide)]) ?_
          refine lv_iload_n hx hb dX7_rise_27 rfl (lv_at hl 4 rfl) ?_
          obtain ⟨j310089, hj310089⟩ := wG_20 (cy := cy) (N := N) (T := T) (I := I) (Q := Q) (J := J) (hM.at 7 (by decide)) (hM.k 7 (by decide) rfl)
          refine va_iald hx hb hK hP j310089 1 hj310089 rfl (hM.inN (n := 4) 7 (by decide) rfl rfl hp) dX7_rise_28 ?_
          refine lv_topi (fun x310090 ex310090 => ?_)
          have sx310090 : x310090 = σ.1 7 xp.toNatClampNeg := ex310090.trans (hMR.a (k := 7) (by decide) (by decide) (show _ < 4 from vp_lt (n := 4) hp))
          refine lv_iload hx hb dX7_rise_29 (lv_at hl 0 rfl) ?_
          refine lv_ishr hx hb dX7_rise_31 ?_
          refine lv_topi (fun v310091 ev310091 => ?_)
          refine lv_iconst (v := 1) hx hb dX7_rise_32 (by decide) ?_
          refine lv_iand hx hb dX7_rise_33 ?_
          refine lv_topi (fun v310092 ev310092 => ?_)
          refine lv_iconst (v := 1) hx hb dX7_rise_34 (by decide) ?_
          refine lv_icmp_ne (tgt := 50) hx hb dX7_rise_35 (by decide) (fun c310093 => ?_) (fun c310093 => ?_)
          · have kc310093 : ¬ (v310092.toInt = 1) := by have h9 := c310093; rw [xk_eq, xk_1] at h9; exact h9
            obtain ⟨v310094, ev310094⟩ : ∃ y : Int32, y = y310078 + Int32.ofInt 1 := ⟨_, rfl⟩
            refine lv_iinc (v := v310094) (lv' := [(4, .int v310094), (3, .int y310079), (2, .ref (w (21 + (5 * xp.toNatClampNeg + n310076)))), (0, .ref (w 0)), (1, .int xp)]) hx hb dX7_rise_50 hl (k := 0) rfl ev310094.symm (by decide) rfl (fun ls hl => ?_)
            refine lv_goto (tgt := 17) hx hb dX7_rise_53 (by decide) ?_
            have tv310094 : v310094.toInt = y310078.toInt + 1 := by rw [ev310094, show y310078 + Int32.ofInt 1 = y310078 + 1 from rfl]; exact xinc (y := (5 : Int32)) (by rw [xk_lt, xk_5]; omega)
            exact ih310077 _ _ _ (by omega) (by omega) (⟨fun h9 => by by_cases q9 : ((n310076 : Nat) : Int) < y310078.toInt; (exact hiv310077.1 q9); have ey9 : y310078 = nI n310076 := (by rw [xk_eq, nI_toInt (by omega)]; omega); exact absurd (by rw [ev310092, ev310091, ex310090, ey9]; exact hbitn310076) c310093, by omega, by have ek9 : y310078 = nI y310078.toNatClampNeg := xnI (n := 5) (xin_of (by omega) (by omega)) (by decide); rw [clsucc (y := y310078) (by omega) tv310094]; show _ = if bt (σ.1 7 xp.toNatClampNeg) y310078.toNatClampNeg then _ else _; rw [if_neg (fun q => c310093 (by rw [ev310092, ev310091, ex310090, hMR.a (k := 7) (by decide) (by decide) (vp_lt (n := 4) hp), ek9]; exact q))]; exact hiv310077.2.2⟩)  (lv_sub hl [0, 1, 2, 3, 4] rfl)
          · have kc310093 : v310092.toInt = 1 := by have h9 := c310093; rw [xk_eq, xk_1] at h9; exact h9
            refine lv_iload_n hx hb dX7_rise_38 rfl (lv_at hl 1 rfl) ?_
            refine lv_aload_n hx hb dX7_rise_39 rfl (lv_at hl 3 rfl) ?_
            refine lv_iload_n hx hb dX7_rise_40 rfl (lv_at hl 4 rfl) ?_
            refine lv_iload hx hb dX7_rise_41 (lv_at hl 0 rfl) ?_
            obtain ⟨j310096, hj310096⟩ := wG_7 (cy := cy) (N := N) (T := T) (I := I) (Q := Q) (J := J) (hM.at 0 (by decide)) (hM.k 0 (by decide) rfl)
            refine vp_callSi (W.runV (As := [.int xp, .int y310078]) (rest := [.int y310079]) ⟨hx, hb, hml, hown, hts⟩ (f_X7_known l dC dI cy w L K N T Q I J xp y310078 hM hp (xin_of hnn310077 (by have kc := c310080; simp only [xk_lt, xk_le, xk_0, xk_1, xk_2, xk_3, xk_4, xk_5, xk_6, xk_7, xk_8, xk_50] at kc; omega))) (cwV 2 hts gX7_rise_X7_known rfl rfl rfl (by decide +kernel) ⟨Nat.le_of_ble_eq_true rfl, Nat.le_of_ble_eq_true rfl⟩) ⟨mb_blind, va_recv hK hP (ci := 7) (q0 := j310096) rfl hj310096, fun U hU hW => ⟨rfl, mb_pre hP hK hU hW⟩⟩ rfl rfl hl.1 rfl (lv_room (Nat.le_of_ble_eq_true rfl)) dX7_rise_43 ⟨Nat.le_of_ble_eq_true rfl, Nat.le_of_ble_eq_true rfl⟩) (fun r310095 hr310095 => ?_)
            refine va_mmin hx hb (by rw [hml]; exact hl.1.symm) hown (hts (.methodLink RX7 105 Lib.Math.min.name) (by decide +kernel)) (hts (.static Lib.Math.min.name) (by decide +kernel)) (hts (.initialized "java/lang/Math") (by decide +kernel)) (hts _ (List.mem_of_getElem? (i := 6) rfl)) (Nat.le_of_ble_eq_true rfl) (Nat.le_of_ble_eq_true rfl) (Nat.le_of_ble_eq_true rfl) (Nat.le_of_ble_eq_true rfl) dX7_rise_46 ?_
            refine lv_topi (fun z310097 ez310097 => ?_)
            have tz310097 : z310097.toInt = min y310079.toInt r310095.toInt := (xmin_t ez310097)
            refine lv_istore_n (lv' := [(3, .int z310097), (4, .int y310078), (2, .ref (w (21 + (5 * xp.toNatClampNeg + n310076)))), (0, .ref (w 0)), (1, .int xp)]) hx hb dX7_rise_49 rfl hl (by decide) rfl (fun ls hl => ?_)
            obtain ⟨v310098, ev310098⟩ : ∃ y : Int32, y = y310078 + Int32.ofInt 1 := ⟨_, rfl⟩
            refine lv_iinc (v := v310098) (lv' := [(4, .int v310098), (3, .int z310097), (2, .ref (w (21 + (5 * xp.toNatClampNeg + n310076)))), (0, .ref (w 0)), (1, .int xp)]) hx hb dX7_rise_50 hl (k := 1) rfl ev310098.symm (by decide) rfl (fun ls hl => ?_)
            refine lv_goto (tgt := 17) hx hb dX7_rise_53 (by decide) ?_
            have tv310098 : v310098.toInt = y310078.toInt + 1 := by rw [ev310098, show y310078 + Int32.ofInt 1 = y310078 + 1 from rfl]; exact xinc (y := (5 : Int32)) (by rw [xk_lt, xk_5]; omega)
            exact ih310077 _ _ _ (by omega) (by omega) (⟨fun h9 => by by_cases q9 : ((n310076 : Nat) : Int) < y310078.toInt; (have := hiv310077.1 q9; omega); have ey9 : y310078 = nI n310076 := (by rw [xk_eq, nI_toInt (by omega)]; omega); have hr9 := hr310095; rw [if_pos (by rw [ey9]; exact eln310076.symm), ey9, nI_clamp (by omega)] at hr9; have := congrArg Int32.toInt hr9; omega, by omega, by have ek9 : y310078 = nI y310078.toNatClampNeg := xnI (n := 5) (xin_of (by omega) (by omega)) (by decide); have hk9 : r310095 = oKn σ xp.toNatClampNeg y310078.toNatClampNeg := (by rw [hr310095, oKn]; rw [← hMR.a (k := 4) (by decide) (by decide) (vp_lt (n := 4) hp), ek9, nI_clamp (by have h8 := clN (x := y310078) (by omega); omega), ← hMR.g (j := 5 * xp.toNatClampNeg + y310078.toNatClampNeg) (f := 2) (by have h7 := vp_lt (n := 4) hp; have h8 := clN (x := y310078) (by omega); omega) (by decide) (by decide), ← hMR.g (j := 5 * xp.toNatClampNeg + y310078.toNatClampNeg) (f := 5) (by have h7 := vp_lt (n := 4) hp; have h8 := clN (x := y310078) (by omega); omega) (by decide) (by decide)]); rw [clsucc (y := y310078) (by omega) tv310098]; show _ = if bt (σ.1 7 xp.toNatClampNeg) y310078.toNatClampNeg then imn _ _ else _; rw [if_pos (by show (_ >>> (nI y310078.toNatClampNeg &&& 31)) &&& 1 = (1 : Int32); rw [← hMR.a (k := 7) (by decide) (by decide) (vp_lt (n := 4) hp), ← ek9, ← ex310090, ← ev310091, ← ev310092]; exact c310093), ← hiv310077.2.2, ← hk9, ez310097, imn]⟩)  (lv_sub hl [0, 1, 2, 3, 4] rfl)
    exact hLP310077 _ _ _ _ (Nat.lt_succ_self _) (by decide) (⟨fun h9 => absurd h9 (by rw [xk_0]; omega), by decide, by rw [cl_0]; rfl⟩)  (lv_sub hl [0, 1, 2, 3, 4] rfl)
